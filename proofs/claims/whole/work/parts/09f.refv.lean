def bt (x : Int32) (i : Nat) : Bool := x.toBitVec.getLsbD i
theorem b_ext {x y : Int32} (h : ∀ i, i < 32 → bt x i = bt y i) : x = y := Int32.toBitVec_inj.mp (BitVec.eq_of_getLsbD_eq (fun i hi => h i hi))
theorem b_or (x y : Int32) (i : Nat) : bt (x ||| y) i = (bt x i || bt y i) := by unfold bt; rw [Int32.toBitVec_or, BitVec.getLsbD_or]
theorem b_and (x y : Int32) (i : Nat) : bt (x &&& y) i = (bt x i && bt y i) := by unfold bt; rw [Int32.toBitVec_and, BitVec.getLsbD_and]
theorem b_xor (x y : Int32) (i : Nat) : bt (x ^^^ y) i = (bt x i ^^ bt y i) := by unfold bt; rw [Int32.toBitVec_xor, BitVec.getLsbD_xor]
theorem b_big {x : Int32} {i : Nat} (h : 32 ≤ i) : bt x i = false := BitVec.getLsbD_of_ge _ _ h
theorem b_255 (i : Nat) : bt 255 i = decide (i < 8) := by
  rcases Nat.lt_or_ge i 32 with h | h
  · exact (by decide +kernel : ∀ i, i < 32 → bt 255 i = decide (i < 8)) i h
  · rw [b_big h, decide_eq_false (by omega)]
theorem b_65535 (i : Nat) : bt 65535 i = decide (i < 16) := by
  rcases Nat.lt_or_ge i 32 with h | h
  · exact (by decide +kernel : ∀ i, i < 32 → bt 65535 i = decide (i < 16)) i h
  · rw [b_big h, decide_eq_false (by omega)]
theorem b_m1 : ∀ i, i < 32 → bt (-1) i = true := by decide +kernel
theorem b_0 (i : Nat) : bt 0 i = false := BitVec.getLsbD_zero
theorem s_l : ∀ n, n < 32 → ((nI n &&& 31).toBitVec.smod 32).toNat = n := by decide +kernel
theorem s_u : ∀ n, n < 32 → (((nI n).toUInt32 &&& Int32.toUInt32 31).toBitVec % 32).toNat = n := by decide +kernel
theorem b_shl (n : Nat) (hn : n < 32) (x : Int32) {i : Nat} (hi : i < 32) : bt (x <<< (nI n &&& 31)) i = (decide (n ≤ i) && bt x (i - n)) := by
  unfold bt
  rw [Int32.toBitVec_shiftLeft]
  show (x.toBitVec <<< ((nI n &&& 31).toBitVec.smod 32).toNat).getLsbD i = _
  rw [s_l n hn, BitVec.getLsbD_shiftLeft]
  rcases Nat.lt_or_ge i n with h | h
  · simp [h, Nat.not_le.mpr h]
  · simp [hi, h, Nat.not_lt.mpr h]
theorem b_ushr (n : Nat) (hn : n < 32) (x : Int32) (i : Nat) : bt ((x.toUInt32 >>> ((nI n).toUInt32 &&& Int32.toUInt32 31)).toInt32) i = bt x (n + i) := by
  show (x.toUInt32 >>> ((nI n).toUInt32 &&& Int32.toUInt32 31)).toBitVec.getLsbD i = x.toUInt32.toBitVec.getLsbD (n + i)
  rw [UInt32.toBitVec_shiftRight]
  show (x.toUInt32.toBitVec >>> (((nI n).toUInt32 &&& Int32.toUInt32 31).toBitVec % 32).toNat).getLsbD i = _
  rw [s_u n hn, BitVec.getLsbD_ushiftRight]
theorem b_sshr (n : Nat) (hn : n < 32) (x : Int32) {i : Nat} (hi : i < 32) : bt (x >>> (nI n &&& 31)) i = if n + i < 32 then bt x (n + i) else bt x 31 := by
  unfold bt
  rw [Int32.toBitVec_shiftRight]
  show (x.toBitVec.sshiftRight ((nI n &&& 31).toBitVec.smod 32).toNat).getLsbD i = _
  rw [s_l n hn, BitVec.getLsbD_sshiftRight, BitVec.msb_eq_getLsbD_last]
  simp [hi]
theorem iI_nI (n : Nat) : iI (n : Int) = nI n := Int32.ofInt_eq_ofNat
theorem b_1 : ∀ i, i < 32 → bt 1 i = decide (i = 0) := by decide +kernel
theorem and1 (y : Int32) : y &&& iI 1 = iI (bI (bt y 0 = true)) := by
  refine b_ext (fun i hi => ?_)
  rw [b_and, show bt (iI 1) i = decide (i = 0) from b_1 i hi]
  by_cases h : bt y 0 = true
  · rw [bI_t h, show bt (iI 1) i = decide (i = 0) from b_1 i hi]
    by_cases e : i = 0
    · subst e; simp [h]
    · simp [e]
  · rw [bI_f h, show bt (iI 0) i = false from b_0 i]
    by_cases e : i = 0
    · subst e; simpa using h
    · simp [e]
theorem abit_bt {x h : Int} (h0 : 0 ≤ h) (h1 : h < 32) : abit x h = bI (bt (iI x) h.toNat = true) := by
  obtain ⟨n, rfl⟩ : ∃ n : Nat, h = n := ⟨h.toNat, by omega⟩
  unfold abit
  rw [and1, iI_toInt (bI_rng _), iI_nI, b_sshr n (by omega) _ (by omega), if_pos (by omega)]
  exact bI_c (by rw [show n + 0 = (n : Int).toNat by omega])
theorem abit_b {x h : Int} (h0 : 0 ≤ h) (h1 : h < 32) : 0 ≤ abit x h ∧ abit x h ≤ 1 := by rw [abit_bt h0 h1]; exact bI_b _
/-- a row of truths, one of them told anew -/
noncomputable def vaS (x h : Int) (P : Prop) : Int := cif P (iI x ||| iI (iI 1 <<< (iI h &&& 31)).toInt).toInt (iI x &&& iI (iI (iI 1 <<< (iI h &&& 31)).toInt ^^^ iI (-1)).toInt).toInt
theorem bt_one {h : Int} (h0 : 0 ≤ h) (h1 : h < 32) {i : Nat} (hi : i < 32) : bt (iI 1 <<< (iI h &&& 31)) i = decide ((i : Int) = h) := by
  obtain ⟨n, rfl⟩ : ∃ n : Nat, h = n := ⟨h.toNat, by omega⟩
  rw [iI_nI, b_shl n (by omega) _ hi]
  by_cases e : i < n
  · rw [decide_eq_false (show ¬ n ≤ i by omega), decide_eq_false (show ¬ (i : Int) = n by omega)]; rfl
  · rw [decide_eq_true (show n ≤ i by omega), show bt (iI 1) (i - n) = decide (i - n = 0) from b_1 _ (by omega)]
    by_cases z : i = n
    · subst z; simp
    · rw [decide_eq_false (show ¬ i - n = 0 by omega), decide_eq_false (show ¬ (i : Int) = n by omega)]; rfl
theorem abit_set {x h k : Int} {P : Prop} (h0 : 0 ≤ h) (h1 : h < 10) (k0 : 0 ≤ k) (k1 : k < 10) : abit (vaS x h P) k = if k = h then bI P else abit x k := by
  rw [abit_bt k0 (by omega), abit_bt k0 (by omega)]
  unfold vaS
  have hk : k.toNat < 32 := by omega
  have ek : decide (((k.toNat : Nat) : Int) = h) = decide (k = h) := by rw [show ((k.toNat : Nat) : Int) = k by omega]
  by_cases p : P
  · rw [cif_t p, iI_of, b_or, iI_of, bt_one h0 (by omega) hk, ek, bI_t p]
    by_cases e : k = h
    · rw [if_pos e, bI_t (by simp [e])]
    · rw [if_neg e]; exact bI_c (by simp [e])
  · rw [cif_f p, iI_of, b_and, iI_of, b_xor, iI_of, bt_one h0 (by omega) hk, ek, show bt (iI (-1)) k.toNat = true from b_m1 _ hk, bI_f p]
    by_cases e : k = h
    · rw [if_pos e, bI_f (by simp [e])]
    · rw [if_neg e]; exact bI_c (by simp [e])
theorem win_s {g : Int → Int} {k : Int} (h0 : 0 ≤ k) : win g (k + 1).toNat = if (if win g k.toNat < 0 then 0 else g (win g k.toNat)) < g k then k else win g k.toNat := by
  obtain ⟨n, rfl⟩ : ∃ n : Nat, k = n := ⟨k.toNat, by omega⟩
  rw [show ((n : Int) + 1).toNat = n + 1 by omega, show ((n : Int)).toNat = n by omega]
  rfl
theorem vt_b (C : Mem) (f t d : Int) (h : 0 ≤ (C.1 6 0 0 0)) : 0 ≤ vt C f t d ∧ vt C f t d ≤ (C.1 6 0 0 0) := by
  have q := sm_b1 (f := vtT C f t d) (lo := 0) (hi := (C.1 6 0 0 0)) h (fun _ _ _ => bI_b _)
  unfold vt
  omega
def verM (M : Mem) (l y : Int) : Mem := setI (setI (setI M 52 0 0 (M.1 40 22 0 0) l) 53 0 0 (M.1 40 22 0 0) y) 40 22 0 0 ((M.1 40 22 0 0) + 1)
def shM (M : Mem) (v f t : Int) : Mem := setI (setI (setI (setI M 56 0 0 (10 * v + (M.1 55 0 0 v)) f) 57 0 0 (10 * v + (M.1 55 0 0 v)) t) 58 0 0 (10 * v + (M.1 55 0 0 v)) 16) 55 0 0 v ((M.1 55 0 0 v) + 1)
def scM (M : Mem) (c t : Int) : Mem := setI (setI (setI M 60 0 0 (M.1 40 25 0 0) c) 61 0 0 (M.1 40 25 0 0) t) 40 25 0 0 ((M.1 40 25 0 0) + 1)
def rgM (M : Mem) (v h l f t : Int) : Mem := setI (setI (setI (setI (setI (setI M 62 0 0 (M.1 40 31 0 0) v) 63 0 0 (M.1 40 31 0 0) h) 64 0 0 (M.1 40 31 0 0) l) 65 0 0 (M.1 40 31 0 0) f) 66 0 0 (M.1 40 31 0 0) t) 40 31 0 0 ((M.1 40 31 0 0) + 1)
theorem RelV.vn {C M : Mem} {n : Int} (hV : RelV n C M) : ∀ v, 0 ≤ v → v < 6 → 0 ≤ (M.1 55 0 0 v) ∧ (M.1 55 0 0 v) ≤ 10 := fun v v0 v1 => by
  by_cases z : v < (C.1 0 6 0 0)
  · have a1 := hV.mv v v0 z
    have a2 := (hV.ok v v0 z).1
    omega
  · have a1 := hV.mn v (by omega) v1
    omega
set_option maxRecDepth 100000 in
set_option maxHeartbeats 4000000 in
theorem c_X12_codes {δ : Dx} {nm : List (Nat × Int)} {ad : Ad} {M : Mem} {C : Mem} {n : Int} {v : Int} (hN : NmOk nm) (hV : RelV n C M) (v0 : 0 ≤ v) (v1 : v < (C.1 0 6 0 0)) : Ct δ md_X12_codes 0 0 nm ad M [.ref (ad 40 0), .int (iI v)] (pV (.int (iI (C.1 22 4 v 0))) ad M) := by
  refine Ct_of (ins := .ireturn) (ok := okI) [some (.ref (ad 40 0)), some (.int (iI v)), none, none] (by decide +kernel) rfl (Nat.le_of_ble_eq_true rfl) (fun κ s hs X hr hQ hδ => endI rfl hs X hr hQ hδ) (fun κ X hNL hδ Y => ?_)
  refine g_rm (fun hM => ?_)
  have vc := hV.vc
  have ve := hV.e
  have ok := hV.ok v v0 v1
  have mv := hV.mv v v0 v1
  have s0 := ok.1
  refine g_iconst X dX12_codes_0 rfl ?_
  refine g_istore_2 X dX12_codes_1 rfl (lt_kN hNL rfl) rfl ?_
  refine g_bipush X dX12_codes_2 rfl (by decide) ?_
  refine g_iload_n X dX12_codes_4 rfl rfl ?_
  refine g_imul X dX12_codes_5 rfl ?_
  refine g_istore_3 X dX12_codes_6 rfl (lt_kN hNL rfl) rfl ?_
  have lp7 : ∀ (a : Int) (k : Int) (k0 : 10 * v ≤ k) (k1 : k ≤ 10 * v + (C.1 22 3 v 0)) (ha : a = sm (fun s => (C.1 24 0 v s) - (C.1 23 0 v s) + 1) 0 (k - 10 * v)), G κ nm ad M 7 [some (.ref (ad 40 0)), some (.int (iI v)), some (.int (iI a)), some (.int (iI k))] [] 0 0 := by
    refine ind2 (fun a k => (10 * v + 10 - k).toNat) ?_
    intro a k ih7 k0 k1 ha
    refine g_rm (fun hM7 => ?_)
    have ps := sm_s (fun s => (C.1 24 0 v s) - (C.1 23 0 v s) + 1) (lo := 0) (hi := k - 10 * v) (by omega)
    refine g_iload_n X dX12_codes_7 rfl rfl ?_
    refine g_bipush X dX12_codes_8 rfl (by decide) ?_
    refine g_iload_n X dX12_codes_10 rfl rfl ?_
    refine g_imul X dX12_codes_11 rfl ?_
    refine g_aload_n X dX12_codes_12 rfl rfl ?_
    refine g_get X ci12 (n40 hN) (en40 _ _ _ _) (by decide) fl_X12_60 rfl dX12_codes_13 rfl ?_
    refine g_iload_n X dX12_codes_16 rfl rfl ?_
    refine g_iald X dX12_codes_17 rfl (n55 hN) (en55 _ _ _ _) (t0 := 0) rfl (by omega) (by omega) (by decide) (fun r17 => ?_)
    refine g_iadd X dX12_codes_18 rfl ?_
    refine g_icmp_ge (tgt := 46) X dX12_codes_19 rfl rfl (by omega) (by omega) (fun h19 => ?_) (fun h19 => ?_)
    · skip
      refine g_iload_n X dX12_codes_46 rfl rfl ?_
      exact g_ret Y dX12_codes_47 ⟨_, rfl⟩ (pVI (by rw [ha, ok.2.2.1.1, show k - 10 * v = (C.1 22 3 v 0) by omega]))
    · skip
      have f1 := hV.sh v (k - 10 * v) v0 v1 (by omega) (by omega)
      rw [show 10 * v + (k - 10 * v) = k by omega] at f1
      refine g_iload_n X dX12_codes_22 rfl rfl ?_
      refine g_aload_n X dX12_codes_23 rfl rfl ?_
      refine g_get X ci12 (n40 hN) (en40 _ _ _ _) (by decide) fl_X12_66 rfl dX12_codes_24 rfl ?_
      refine g_iload_n X dX12_codes_27 rfl rfl ?_
      refine g_iald X dX12_codes_28 rfl (n57 hN) (en57 _ _ _ _) (t0 := 0) rfl (by omega) (by omega) (by decide) (fun r28 => ?_)
      refine g_aload_n X dX12_codes_29 rfl rfl ?_
      refine g_get X ci12 (n40 hN) (en40 _ _ _ _) (by decide) fl_X12_63 rfl dX12_codes_30 rfl ?_
      refine g_iload_n X dX12_codes_33 rfl rfl ?_
      refine g_iald X dX12_codes_34 rfl (n56 hN) (en56 _ _ _ _) (t0 := 0) rfl (by omega) (by omega) (by decide) (fun r34 => ?_)
      refine g_isub X dX12_codes_35 rfl ?_
      refine g_iconst X dX12_codes_36 rfl ?_
      refine g_iadd X dX12_codes_37 rfl ?_
      refine g_iadd X dX12_codes_38 rfl ?_
      refine g_istore_2 X dX12_codes_39 rfl (lt_kN hNL rfl) rfl ?_
      refine g_iinc_3 X dX12_codes_40 rfl (lt_kN hNL rfl) rfl ?_
      refine g_goto (pc' := 7) X dX12_codes_43 rfl ?_
      exact ih7 _ (k + 1) (by omega) (by omega) (by omega) (by rw [show k + 1 - 10 * v = k - 10 * v + 1 by omega, ps, ha]; omega)
  exact lp7 0 (10 * v) (by omega) (by omega) (sm_0 _ (by omega)).symm
set_option maxRecDepth 100000 in
set_option maxHeartbeats 4000000 in
theorem c_X12_lasts {δ : Dx} {nm : List (Nat × Int)} {ad : Ad} {M : Mem} {C : Mem} {n : Int} {v : Int} (hN : NmOk nm) (hV : RelV n C M) (v0 : 0 ≤ v) (v1 : v < (C.1 0 6 0 0)) : Ct δ md_X12_lasts 0 0 nm ad M [.ref (ad 40 0), .int (iI v)] (pV (.int (iI (dur C v))) ad M) := by
  refine Ct_of (ins := .ireturn) (ok := okI) [some (.ref (ad 40 0)), some (.int (iI v)), none, none] (by decide +kernel) rfl (Nat.le_of_ble_eq_true rfl) (fun κ s hs X hr hQ hδ => endI rfl hs X hr hQ hδ) (fun κ X hNL hδ Y => ?_)
  refine g_rm (fun hM => ?_)
  have vc := hV.vc
  have ve := hV.e
  have ok := hV.ok v v0 v1
  have mv := hV.mv v v0 v1
  have s0 := ok.1
  refine g_iconst X dX12_lasts_0 rfl ?_
  refine g_istore_2 X dX12_lasts_1 rfl (lt_kN hNL rfl) rfl ?_
  refine g_bipush X dX12_lasts_2 rfl (by decide) ?_
  refine g_iload_n X dX12_lasts_4 rfl rfl ?_
  refine g_imul X dX12_lasts_5 rfl ?_
  refine g_istore_3 X dX12_lasts_6 rfl (lt_kN hNL rfl) rfl ?_
  have lp7 : ∀ (a : Int) (k : Int) (k0 : 10 * v ≤ k) (k1 : k ≤ 10 * v + (C.1 22 3 v 0)) (ha : a = sm (durT C v) 0 (k - 10 * v)), G κ nm ad M 7 [some (.ref (ad 40 0)), some (.int (iI v)), some (.int (iI a)), some (.int (iI k))] [] 0 0 := by
    refine ind2 (fun a k => (10 * v + 10 - k).toNat) ?_
    intro a k ih7 k0 k1 ha
    refine g_rm (fun hM7 => ?_)
    have ps := sm_s (durT C v) (lo := 0) (hi := k - 10 * v) (by omega)
    refine g_iload_n X dX12_lasts_7 rfl rfl ?_
    refine g_bipush X dX12_lasts_8 rfl (by decide) ?_
    refine g_iload_n X dX12_lasts_10 rfl rfl ?_
    refine g_imul X dX12_lasts_11 rfl ?_
    refine g_aload_n X dX12_lasts_12 rfl rfl ?_
    refine g_get X ci12 (n40 hN) (en40 _ _ _ _) (by decide) fl_X12_60 rfl dX12_lasts_13 rfl ?_
    refine g_iload_n X dX12_lasts_16 rfl rfl ?_
    refine g_iald X dX12_lasts_17 rfl (n55 hN) (en55 _ _ _ _) (t0 := 0) rfl (by omega) (by omega) (by decide) (fun r17 => ?_)
    refine g_iadd X dX12_lasts_18 rfl ?_
    refine g_icmp_ge (tgt := 57) X dX12_lasts_19 rfl rfl (by omega) (by omega) (fun h19 => ?_) (fun h19 => ?_)
    · skip
      refine g_iload_n X dX12_lasts_57 rfl rfl ?_
      exact g_ret Y dX12_lasts_58 ⟨_, rfl⟩ (pVI (by rw [ha, show k - 10 * v = (C.1 22 3 v 0) by omega]; rfl))
    · skip
      have f1 := hV.sh v (k - 10 * v) v0 v1 (by omega) (by omega)
      rw [show 10 * v + (k - 10 * v) = k by omega] at f1
      have os := ok.2.1 (k - 10 * v) (by omega) (by omega)
      refine g_iload_n X dX12_lasts_22 rfl rfl ?_
      refine g_aload_n X dX12_lasts_23 rfl rfl ?_
      refine g_get X ci12 (n40 hN) (en40 _ _ _ _) (by decide) fl_X12_66 rfl dX12_lasts_24 rfl ?_
      refine g_iload_n X dX12_lasts_27 rfl rfl ?_
      refine g_iald X dX12_lasts_28 rfl (n57 hN) (en57 _ _ _ _) (t0 := 0) rfl (by omega) (by omega) (by decide) (fun r28 => ?_)
      refine g_aload_n X dX12_lasts_29 rfl rfl ?_
      refine g_get X ci12 (n40 hN) (en40 _ _ _ _) (by decide) fl_X12_63 rfl dX12_lasts_30 rfl ?_
      refine g_iload_n X dX12_lasts_33 rfl rfl ?_
      refine g_iald X dX12_lasts_34 rfl (n56 hN) (en56 _ _ _ _) (t0 := 0) rfl (by omega) (by omega) (by decide) (fun r34 => ?_)
      refine g_isub X dX12_lasts_35 rfl ?_
      refine g_iconst X dX12_lasts_36 rfl ?_
      refine g_iadd X dX12_lasts_37 rfl ?_
      refine g_sipush X dX12_lasts_38 rfl (by decide) ?_
      refine g_imul X dX12_lasts_41 rfl ?_
      refine g_aload_n X dX12_lasts_42 rfl rfl ?_
      refine g_get X ci12 (n40 hN) (en40 _ _ _ _) (by decide) fl_X12_69 rfl dX12_lasts_43 rfl ?_
      refine g_iload_n X dX12_lasts_46 rfl rfl ?_
      refine g_iald X dX12_lasts_47 rfl (n58 hN) (en58 _ _ _ _) (t0 := 0) rfl (by omega) (by omega) (by decide) (fun r47 => ?_)
      refine g_idiv X dX12_lasts_48 rfl (by omega) (by omega) (by omega) (by omega) ?_
      refine g_iadd X dX12_lasts_49 rfl ?_
      refine g_istore_2 X dX12_lasts_50 rfl (lt_kN hNL rfl) rfl ?_
      refine g_iinc_3 X dX12_lasts_51 rfl (lt_kN hNL rfl) rfl ?_
      refine g_goto (pc' := 7) X dX12_lasts_54 rfl ?_
      exact ih7 _ (k + 1) (by omega) (by omega) (by omega) (by rw [show k + 1 - 10 * v = k - 10 * v + 1 by omega, ps, ha]; unfold durT; rw [f1.1, f1.2.1, f1.2.2])
  exact lp7 0 (10 * v) (by omega) (by omega) (sm_0 _ (by omega)).symm
set_option maxRecDepth 100000 in
set_option maxHeartbeats 4000000 in
theorem c_X12_had {δ : Dx} {nm : List (Nat × Int)} {ad : Ad} {M : Mem} {C : Mem} {n : Int} {v : Int} (hN : NmOk nm) (hR : RelR C M) (hV : RelV n C M) (v0 : 0 ≤ v) (v1 : v < (C.1 0 6 0 0)) : Ct δ md_X12_had 0 0 nm ad M [.ref (ad 40 0), .int (iI v)] (pV (.int (iI (rdN C v))) ad M) := by
  refine Ct_of (ins := .ireturn) (ok := okI) [some (.ref (ad 40 0)), some (.int (iI v)), none, none, none] (by decide +kernel) rfl (Nat.le_of_ble_eq_true rfl) (fun κ s hs X hr hQ hδ => endI rfl hs X hr hQ hδ) (fun κ X hNL hδ Y => ?_)
  refine g_rm (fun hM => ?_)
  have vc := hV.vc
  have ve := hV.e
  have ok := hV.ok v v0 v1
  have mv := hV.mv v v0 v1
  have s0 := ok.1
  refine g_iconst X dX12_had_0 rfl ?_
  refine g_istore_2 X dX12_had_1 rfl (lt_kN hNL rfl) rfl ?_
  refine g_bipush X dX12_had_2 rfl (by decide) ?_
  refine g_iload_n X dX12_had_4 rfl rfl ?_
  refine g_imul X dX12_had_5 rfl ?_
  refine g_istore_3 X dX12_had_6 rfl (lt_kN hNL rfl) rfl ?_
  have lp7 : ∀ (a : Int) (k : Int) (k0 : 10 * v ≤ k) (k1 : k ≤ 10 * v + (C.1 22 3 v 0)) (ha : a = sm (rdS C v) 0 (k - 10 * v)), G κ nm ad M 7 [some (.ref (ad 40 0)), some (.int (iI v)), some (.int (iI a)), some (.int (iI k)), none] [] 0 0 := by
    refine ind2 (fun a k => (10 * v + 10 - k).toNat) ?_
    intro a k ih7 k0 k1 ha
    refine g_rm (fun hM7 => ?_)
    have ps := sm_s (rdS C v) (lo := 0) (hi := k - 10 * v) (by omega)
    refine g_iload_n X dX12_had_7 rfl rfl ?_
    refine g_bipush X dX12_had_8 rfl (by decide) ?_
    refine g_iload_n X dX12_had_10 rfl rfl ?_
    refine g_imul X dX12_had_11 rfl ?_
    refine g_aload_n X dX12_had_12 rfl rfl ?_
    refine g_get X ci12 (n40 hN) (en40 _ _ _ _) (by decide) fl_X12_60 rfl dX12_had_13 rfl ?_
    refine g_iload_n X dX12_had_16 rfl rfl ?_
    refine g_iald X dX12_had_17 rfl (n55 hN) (en55 _ _ _ _) (t0 := 0) rfl (by omega) (by omega) (by decide) (fun r17 => ?_)
    refine g_iadd X dX12_had_18 rfl ?_
    refine g_icmp_ge (tgt := 70) X dX12_had_19 rfl rfl (by omega) (by omega) (fun h19 => ?_) (fun h19 => ?_)
    · skip
      refine g_iload_n X dX12_had_70 rfl rfl ?_
      exact g_ret Y dX12_had_71 ⟨_, rfl⟩ (pVI (by rw [ha, show k - 10 * v = (C.1 22 3 v 0) by omega]; rfl))
    · skip
      have f1 := hV.sh v (k - 10 * v) v0 v1 (by omega) (by omega)
      rw [show 10 * v + (k - 10 * v) = k by omega] at f1
      have os := ok.2.1 (k - 10 * v) (by omega) (by omega)
      refine g_aload_n X dX12_had_22 rfl rfl ?_
      refine g_get X ci12 (n40 hN) (en40 _ _ _ _) (by decide) fl_X12_63 rfl dX12_had_23 rfl ?_
      refine g_iload_n X dX12_had_26 rfl rfl ?_
      refine g_iald X dX12_had_27 rfl (n56 hN) (en56 _ _ _ _) (t0 := 0) rfl (by omega) (by omega) (by decide) (fun r27 => ?_)
      refine g_istore_4 X dX12_had_28 rfl (lt_kN hNL rfl) rfl ?_
      have lp30 : ∀ (b : Int) (d : Int) (d0 : (C.1 23 0 v (k - 10 * v)) ≤ d) (d1 : d ≤ (C.1 24 0 v (k - 10 * v)) + 1) (hb : b = a + sm (rdT C) (C.1 23 0 v (k - 10 * v)) d), G κ nm ad M 30 [some (.ref (ad 40 0)), some (.int (iI v)), some (.int (iI b)), some (.int (iI k)), some (.int (iI d))] [] 0 0 := by
        refine ind2 (fun b d => (1000 - d).toNat) ?_
        intro b d ih30 d0 d1 hb
        refine g_rm (fun hM30 => ?_)
        have pt_ := sm_s (rdT C) (lo := (C.1 23 0 v (k - 10 * v))) (hi := d) d0
        refine g_iload X dX12_had_30 rfl rfl ?_
        refine g_aload_n X dX12_had_32 rfl rfl ?_
        refine g_get X ci12 (n40 hN) (en40 _ _ _ _) (by decide) fl_X12_66 rfl dX12_had_33 rfl ?_
        refine g_iload_n X dX12_had_36 rfl rfl ?_
        refine g_iald X dX12_had_37 rfl (n57 hN) (en57 _ _ _ _) (t0 := 0) rfl (by omega) (by omega) (by decide) (fun r37 => ?_)
        refine g_icmp_gt (tgt := 64) X dX12_had_38 rfl rfl (by omega) (by omega) (fun h38 => ?_) (fun h38 => ?_)
        · skip
          refine g_iinc_3 X dX12_had_64 rfl (lt_kN hNL rfl) rfl ?_
          refine g_goto (pc' := 7) X dX12_had_67 rfl ?_
          refine g_drop_4 ?_
          exact ih7 _ (k + 1) (by omega) (by omega) (by omega) (by rw [show k + 1 - 10 * v = k - 10 * v + 1 by omega, ps, ← ha, hb]; unfold rdS; rw [show d = (C.1 24 0 v (k - 10 * v)) + 1 by omega])
        · skip
          refine g_iload_n X dX12_had_41 rfl rfl ?_
          refine g_cutB 56 (best C d ≠ -1) (fun ct42 cf42 => ?_) ?_
          · skip
            refine g_aload_n X dX12_had_42 rfl rfl ?_
            refine g_iload X dX12_had_43 rfl rfl ?_
            refine g_iV1_v X w_X12_reelFor ml_X12_234 dX12_had_45 rfl (n40 hN) (en40 _ _ _ _) ⟨⟨Nat.le_of_ble_eq_true rfl, Nat.le_of_ble_eq_true rfl⟩, Nat.le_of_ble_eq_true rfl, Nat.le_of_ble_eq_true rfl⟩ (Nat.le_of_ble_eq_true rfl) (c_X12_reelFor hN hR (by omega) (by omega)) ?_
            have bb := best_b C d (hR.rc.1)
            have rc := hR.rc
            refine g_if_lt (tgt := 55) X dX12_had_48 rfl rfl (by omega) (fun h48 => ?_) (fun h48 => ?_)
            · skip
              refine g_iconst X dX12_had_55 rfl ?_
              exact cf42 (by omega)
            · skip
              refine g_iconst X dX12_had_51 rfl ?_
              refine g_goto (pc' := 56) X dX12_had_52 rfl ?_
              exact ct42 (by omega)
          · skip
            refine g_iadd X dX12_had_56 rfl ?_
            refine g_istore_2 X dX12_had_57 rfl (lt_kN hNL rfl) rfl ?_
            refine g_iinc_4 X dX12_had_58 rfl (lt_kN hNL rfl) rfl ?_
            refine g_goto (pc' := 30) X dX12_had_61 rfl ?_
            exact ih30 _ (d + 1) (by omega) (by omega) (by omega) (by rw [hb, pt_, ← Int.add_assoc]; rfl)
      exact lp30 a _ (by omega) (by omega) (by rw [f1.1, sm_0 _ (Int.le_refl _)]; omega)
  exact lp7 0 (10 * v) (by omega) (by omega) (sm_0 _ (by omega)).symm
set_option maxRecDepth 100000 in
set_option maxHeartbeats 4000000 in
theorem c_X12_ofVersion {δ : Dx} {nm : List (Nat × Int)} {ad : Ad} {M : Mem} {C : Mem} {n : Int} {v w : Int} (hN : NmOk nm) (hR : RelR C M) (hV : RelV n C M) (rv : rng v) (rw : rng w) : Ct δ md_X12_ofVersion 0 0 nm ad M [.ref (ad 40 0), .int (iI v), .int (iI w)] (pRf (if ¬ (0 ≤ v ∧ v < (C.1 0 6 0 0)) then 1 else if 0 ≤ w ∧ w ≤ 5 then 0 else 2) (.int (iI (-1))) (.int (iI (ofVV C v w))) ad M (fun M' => M' = (setI M 40 46 0 0 0))) := by
  refine Ct_of (ins := .ireturn) (ok := okI) [some (.ref (ad 40 0)), some (.int (iI v)), some (.int (iI w))] (by decide +kernel) rfl (Nat.le_of_ble_eq_true rfl) (fun κ s hs X hr hQ hδ => endI rfl hs X hr hQ hδ) (fun κ X hNL hδ Y => ?_)
  refine g_rm (fun hM => ?_)
  have vc := hV.vc
  have ve := hV.e
  refine g_aload_n X dX12_ofVersion_0 rfl rfl ?_
  refine g_cutI 28 (if ¬ (0 ≤ v ∧ v < (C.1 0 6 0 0)) then 1 else if 0 ≤ w ∧ w ≤ 5 then 0 else 2) (fun ci1 => ?_) ?_
  · skip
    refine g_aload_n X dX12_ofVersion_1 rfl rfl ?_
    refine g_iload_n X dX12_ofVersion_2 rfl rfl ?_
    refine g_iV1_v X w_X12_isVersion ml_X12_222 dX12_ofVersion_3 rfl (n40 hN) (en40 _ _ _ _) ⟨⟨Nat.le_of_ble_eq_true rfl, Nat.le_of_ble_eq_true rfl⟩, Nat.le_of_ble_eq_true rfl, Nat.le_of_ble_eq_true rfl⟩ (Nat.le_of_ble_eq_true rfl) (c_X12_isVersion hN (by omega) (by omega)) ?_
    refine g_ifB_ne (tgt := 13) X dX12_ofVersion_6 rfl rfl (fun h6 => ?_) (fun h6 => ?_)
    · skip
      refine g_aload_n X dX12_ofVersion_13 rfl rfl ?_
      refine g_iload_n X dX12_ofVersion_14 rfl rfl ?_
      refine g_iconst X dX12_ofVersion_15 rfl ?_
      refine g_iconst X dX12_ofVersion_16 rfl ?_
      refine g_iV3_v X w_X12_in ml_X12_146 dX12_ofVersion_17 rfl (n40 hN) (en40 _ _ _ _) ⟨⟨Nat.le_of_ble_eq_true rfl, Nat.le_of_ble_eq_true rfl⟩, Nat.le_of_ble_eq_true rfl, Nat.le_of_ble_eq_true rfl⟩ (Nat.le_of_ble_eq_true rfl) (c_X12_in hN (by omega) (by omega) (by omega)) ?_
      refine g_ifB_eq (tgt := 27) X dX12_ofVersion_20 rfl rfl (fun h20 => ?_) (fun h20 => ?_)
      · skip
        refine g_iconst X dX12_ofVersion_27 rfl ?_
        exact ci1 _ (by omega)
      · skip
        refine g_iconst X dX12_ofVersion_23 rfl ?_
        refine g_goto (pc' := 28) X dX12_ofVersion_24 rfl ?_
        exact ci1 _ (by omega)
    · skip
      refine g_iconst X dX12_ofVersion_9 rfl ?_
      refine g_goto (pc' := 28) X dX12_ofVersion_10 rfl ?_
      exact ci1 _ (by omega)
  · skip
    refine g_iV1_v X w_X12_holds ml_X12_158 dX12_ofVersion_28 rfl (n40 hN) (en40 _ _ _ _) ⟨⟨Nat.le_of_ble_eq_true rfl, Nat.le_of_ble_eq_true rfl⟩, Nat.le_of_ble_eq_true rfl, Nat.le_of_ble_eq_true rfl⟩ (Nat.le_of_ble_eq_true rfl) (c_X12_holds hN (by omega)) ?_
    refine g_ifB_eq (tgt := 36) X dX12_ofVersion_31 rfl rfl (fun h31 => ?_) (fun h31 => ?_)
    · skip
      have w0 : (if ¬ (0 ≤ v ∧ v < (C.1 0 6 0 0)) then 1 else if 0 ≤ w ∧ w ≤ 5 then 0 else 2 : Int) = 0 := by omega
      rw [w0]
      have v0 : 0 ≤ v := by omega
      have v1 : v < (C.1 0 6 0 0) := by omega
      have mv := hV.mv v v0 v1
      refine g_iload_n X dX12_ofVersion_36 rfl rfl ?_
      by_cases hs37 : w < 0 ∨ 4 < w
      · refine g_swOut (tgt := 118) X dX12_ofVersion_37 (by first | omega | (simp only [setI_1, setL_1, setI_2, setL_2]; omega) | (simp only [setI_1, setL_1, setI_2, setL_2]; simp; omega)) hs37 rfl ?_
        refine g_aload_n X dX12_ofVersion_118 rfl rfl ?_
        refine g_get X ci12 (n40 hN) (en40 _ _ _ _) (by decide) fl_X12_54 rfl dX12_ofVersion_119 rfl ?_
        refine g_iload_n X dX12_ofVersion_122 rfl rfl ?_
        refine g_iald X dX12_ofVersion_123 rfl (n53 hN) (en53 _ _ _ _) (t0 := 0) rfl (by first | omega | (simp only [setI_1, setL_1, setI_2, setL_2]; omega) | (simp only [setI_1, setL_1, setI_2, setL_2]; simp; omega)) (by first | omega | (simp only [setI_1, setL_1, setI_2, setL_2]; omega) | (simp only [setI_1, setL_1, setI_2, setL_2]; simp; omega)) (by decide) (fun r123 => ?_)
        refine g_int (b := M.1 53 0 0 v) rfl ?_
        have r123x := hM 53 0 0 v
        have hw37 : w = 5 := by omega
        refine g_int (b := ofVV C v w) (by rw [hw37]; exact mv.2.1) ?_
        exact g_ret Y dX12_ofVersion_124 ⟨_, rfl⟩ (pRo w0 rfl)
      · rcases (show w = 0 ∨ w = 1 ∨ w = 2 ∨ w = 3 ∨ w = 4 by omega) with hw37 | hw37 | hw37 | hw37 | hw37
        · refine g_swIn (tgt := 72) X dX12_ofVersion_37 (by first | omega | (simp only [setI_1, setL_1, setI_2, setL_2]; omega) | (simp only [setI_1, setL_1, setI_2, setL_2]; simp; omega)) (by omega) (by omega) (by rw [hw37]; rfl) rfl ?_
          refine g_aload_n X dX12_ofVersion_72 rfl rfl ?_
          refine g_iload_n X dX12_ofVersion_73 rfl rfl ?_
          refine g_iV1_v X w_X12_codes ml_X12_225 dX12_ofVersion_74 rfl (n40 hN) (en40 _ _ _ _) ⟨⟨Nat.le_of_ble_eq_true rfl, Nat.le_of_ble_eq_true rfl⟩, Nat.le_of_ble_eq_true rfl, Nat.le_of_ble_eq_true rfl⟩ (Nat.le_of_ble_eq_true rfl) (c_X12_codes hN hV.th v0 v1) ?_
          refine g_int (b := ofVV C v w) (by rw [hw37]; rfl) ?_
          exact g_ret Y dX12_ofVersion_77 ⟨_, rfl⟩ (pRo w0 rfl)
        · refine g_swIn (tgt := 78) X dX12_ofVersion_37 (by first | omega | (simp only [setI_1, setL_1, setI_2, setL_2]; omega) | (simp only [setI_1, setL_1, setI_2, setL_2]; simp; omega)) (by omega) (by omega) (by rw [hw37]; rfl) rfl ?_
          refine g_aload_n X dX12_ofVersion_78 rfl rfl ?_
          refine g_iload_n X dX12_ofVersion_79 rfl rfl ?_
          refine g_iV1_v X w_X12_had ml_X12_237 dX12_ofVersion_80 rfl (n40 hN) (en40 _ _ _ _) ⟨⟨Nat.le_of_ble_eq_true rfl, Nat.le_of_ble_eq_true rfl⟩, Nat.le_of_ble_eq_true rfl, Nat.le_of_ble_eq_true rfl⟩ (Nat.le_of_ble_eq_true rfl) (c_X12_had hN hR.th hV.th v0 v1) ?_
          refine g_int (b := ofVV C v w) (by rw [hw37]; rfl) ?_
          exact g_ret Y dX12_ofVersion_83 ⟨_, rfl⟩ (pRo w0 rfl)
        · refine g_swIn (tgt := 84) X dX12_ofVersion_37 (by first | omega | (simp only [setI_1, setL_1, setI_2, setL_2]; omega) | (simp only [setI_1, setL_1, setI_2, setL_2]; simp; omega)) (by omega) (by omega) (by rw [hw37]; rfl) rfl ?_
          refine g_aload_n X dX12_ofVersion_84 rfl rfl ?_
          refine g_get X ci12 (n40 hN) (en40 _ _ _ _) (by decide) fl_X12_57 rfl dX12_ofVersion_85 rfl ?_
          refine g_iload_n X dX12_ofVersion_88 rfl rfl ?_
          refine g_iald X dX12_ofVersion_89 rfl (n54 hN) (en54 _ _ _ _) (t0 := 0) rfl (by first | omega | (simp only [setI_1, setL_1, setI_2, setL_2]; omega) | (simp only [setI_1, setL_1, setI_2, setL_2]; simp; omega)) (by first | omega | (simp only [setI_1, setL_1, setI_2, setL_2]; omega) | (simp only [setI_1, setL_1, setI_2, setL_2]; simp; omega)) (by decide) (fun r89 => ?_)
          refine g_int (b := M.1 54 0 0 v) rfl ?_
          have r89x := hM 54 0 0 v
          refine g_iconst X dX12_ofVersion_90 rfl ?_
          refine g_icmp_le (tgt := 98) X dX12_ofVersion_91 rfl rfl (by first | omega | (simp only [setI_1, setL_1, setI_2, setL_2]; omega) | (simp only [setI_1, setL_1, setI_2, setL_2]; simp; omega)) (by first | omega | (simp only [setI_1, setL_1, setI_2, setL_2]; omega) | (simp only [setI_1, setL_1, setI_2, setL_2]; simp; omega)) (fun h91 => ?_) (fun h91 => ?_)
          · skip
            refine g_aload_n X dX12_ofVersion_98 rfl rfl ?_
            refine g_get X ci12 (n40 hN) (en40 _ _ _ _) (by decide) fl_X12_57 rfl dX12_ofVersion_99 rfl ?_
            refine g_iload_n X dX12_ofVersion_102 rfl rfl ?_
            refine g_iald X dX12_ofVersion_103 rfl (n54 hN) (en54 _ _ _ _) (t0 := 0) rfl (by first | omega | (simp only [setI_1, setL_1, setI_2, setL_2]; omega) | (simp only [setI_1, setL_1, setI_2, setL_2]; simp; omega)) (by first | omega | (simp only [setI_1, setL_1, setI_2, setL_2]; omega) | (simp only [setI_1, setL_1, setI_2, setL_2]; simp; omega)) (by decide) (fun r103 => ?_)
            refine g_int (b := M.1 54 0 0 v) rfl ?_
            have r103x := hM 54 0 0 v
            refine g_int (b := ofVV C v w) (by rw [hw37]; show _ = (if 2 < (C.1 22 2 v 0) then 2 else (C.1 22 2 v 0)); have z : (((setI M 40 46 0 0 0)).1 54 0 0 v) = (M.1 54 0 0 v) := rfl; omega) ?_
            exact g_ret Y dX12_ofVersion_104 ⟨_, rfl⟩ (pRo w0 rfl)
          · skip
            refine g_iconst X dX12_ofVersion_94 rfl ?_
            refine g_goto (pc' := 104) X dX12_ofVersion_95 rfl ?_
            refine g_int (b := ofVV C v w) (by rw [hw37]; show _ = (if 2 < (C.1 22 2 v 0) then 2 else (C.1 22 2 v 0)); have z : (((setI M 40 46 0 0 0)).1 54 0 0 v) = (M.1 54 0 0 v) := rfl; omega) ?_
            exact g_ret Y dX12_ofVersion_104 ⟨_, rfl⟩ (pRo w0 rfl)
        · refine g_swIn (tgt := 105) X dX12_ofVersion_37 (by first | omega | (simp only [setI_1, setL_1, setI_2, setL_2]; omega) | (simp only [setI_1, setL_1, setI_2, setL_2]; simp; omega)) (by omega) (by omega) (by rw [hw37]; rfl) rfl ?_
          refine g_aload_n X dX12_ofVersion_105 rfl rfl ?_
          refine g_iload_n X dX12_ofVersion_106 rfl rfl ?_
          refine g_iV1_v X w_X12_lasts ml_X12_240 dX12_ofVersion_107 rfl (n40 hN) (en40 _ _ _ _) ⟨⟨Nat.le_of_ble_eq_true rfl, Nat.le_of_ble_eq_true rfl⟩, Nat.le_of_ble_eq_true rfl, Nat.le_of_ble_eq_true rfl⟩ (Nat.le_of_ble_eq_true rfl) (c_X12_lasts hN hV.th v0 v1) ?_
          refine g_int (b := ofVV C v w) (by rw [hw37]; rfl) ?_
          exact g_ret Y dX12_ofVersion_110 ⟨_, rfl⟩ (pRo w0 rfl)
        · refine g_swIn (tgt := 111) X dX12_ofVersion_37 (by first | omega | (simp only [setI_1, setL_1, setI_2, setL_2]; omega) | (simp only [setI_1, setL_1, setI_2, setL_2]; simp; omega)) (by omega) (by omega) (by rw [hw37]; rfl) rfl ?_
          refine g_aload_n X dX12_ofVersion_111 rfl rfl ?_
          refine g_get X ci12 (n40 hN) (en40 _ _ _ _) (by decide) fl_X12_51 rfl dX12_ofVersion_112 rfl ?_
          refine g_iload_n X dX12_ofVersion_115 rfl rfl ?_
          refine g_iald X dX12_ofVersion_116 rfl (n52 hN) (en52 _ _ _ _) (t0 := 0) rfl (by first | omega | (simp only [setI_1, setL_1, setI_2, setL_2]; omega) | (simp only [setI_1, setL_1, setI_2, setL_2]; simp; omega)) (by first | omega | (simp only [setI_1, setL_1, setI_2, setL_2]; omega) | (simp only [setI_1, setL_1, setI_2, setL_2]; simp; omega)) (by decide) (fun r116 => ?_)
          refine g_int (b := M.1 52 0 0 v) rfl ?_
          have r116x := hM 52 0 0 v
          refine g_int (b := ofVV C v w) (by rw [hw37]; exact mv.1) ?_
          exact g_ret Y dX12_ofVersion_117 ⟨_, rfl⟩ (pRo w0 rfl)
    · skip
      refine g_iconst X dX12_ofVersion_34 rfl ?_
      exact g_ret Y dX12_ofVersion_35 ⟨_, rfl⟩ (pRx (by assumption))
set_option maxRecDepth 100000 in
set_option maxHeartbeats 4000000 in
theorem c_X12_version {δ : Dx} {nm : List (Nat × Int)} {ad : Ad} {M : Mem} {C : Mem} {n : Int} {l y : Int} (hN : NmOk nm) (hV : RelV n C M) (rl : rng l) (ry : rng y) : Ct δ md_X12_version 0 0 nm ad M [.ref (ad 40 0), .int (iI l), .int (iI y)] (pRf (if ¬ ((0 ≤ l ∧ l ≤ 3) ∧ (1890 ≤ y ∧ y ≤ 2100)) then 1 else if (C.1 0 6 0 0) = 6 then 2 else 0) (.int (iI (-1))) (.int (iI (C.1 0 6 0 0))) ad M (fun M' => M' = verM (setI M 40 46 0 0 0) l y)) := by
  refine Ct_of (ins := .ireturn) (ok := okI) [some (.ref (ad 40 0)), some (.int (iI l)), some (.int (iI y))] (by decide +kernel) rfl (Nat.le_of_ble_eq_true rfl) (fun κ s hs X hr hQ hδ => endI rfl hs X hr hQ hδ) (fun κ X hNL hδ Y => ?_)
  refine g_rm (fun hM => ?_)
  have vc := hV.vc
  have ve := hV.e
  refine g_aload_n X dX12_version_0 rfl rfl ?_
  refine g_cutI 43 (if ¬ ((0 ≤ l ∧ l ≤ 3) ∧ (1890 ≤ y ∧ y ≤ 2100)) then 1 else if (C.1 0 6 0 0) = 6 then 2 else 0) (fun ci1 => ?_) ?_
  · skip
    refine g_aload_n X dX12_version_1 rfl rfl ?_
    refine g_iload_n X dX12_version_2 rfl rfl ?_
    refine g_iconst X dX12_version_3 rfl ?_
    refine g_iconst X dX12_version_4 rfl ?_
    refine g_iV3_v X w_X12_in ml_X12_146 dX12_version_5 rfl (n40 hN) (en40 _ _ _ _) ⟨⟨Nat.le_of_ble_eq_true rfl, Nat.le_of_ble_eq_true rfl⟩, Nat.le_of_ble_eq_true rfl, Nat.le_of_ble_eq_true rfl⟩ (Nat.le_of_ble_eq_true rfl) (c_X12_in hN (by omega) (by omega) (by omega)) ?_
    refine g_ifB_eq (tgt := 25) X dX12_version_8 rfl rfl (fun h8 => ?_) (fun h8 => ?_)
    · skip
      refine g_iconst X dX12_version_25 rfl ?_
      refine g_goto (pc' := 43) X dX12_version_26 rfl ?_
      exact ci1 _ (by omega)
    · skip
      refine g_aload_n X dX12_version_11 rfl rfl ?_
      refine g_iload_n X dX12_version_12 rfl rfl ?_
      refine g_sipush X dX12_version_13 rfl (by decide) ?_
      refine g_sipush X dX12_version_16 rfl (by decide) ?_
      refine g_iV3_v X w_X12_in ml_X12_146 dX12_version_19 rfl (n40 hN) (en40 _ _ _ _) ⟨⟨Nat.le_of_ble_eq_true rfl, Nat.le_of_ble_eq_true rfl⟩, Nat.le_of_ble_eq_true rfl, Nat.le_of_ble_eq_true rfl⟩ (Nat.le_of_ble_eq_true rfl) (c_X12_in hN (by omega) (by omega) (by omega)) ?_
      refine g_ifB_ne (tgt := 29) X dX12_version_22 rfl rfl (fun h22 => ?_) (fun h22 => ?_)
      · skip
        refine g_aload_n X dX12_version_29 rfl rfl ?_
        refine g_getI X ci12 (n40 hN) (en40 _ _ _ _) (by decide) fl_X12_219 rfl dX12_version_30 rfl (fun r30 => ?_)
        refine g_bipush X dX12_version_33 rfl (by decide) ?_
        refine g_icmp_ne (tgt := 42) X dX12_version_35 rfl rfl (by omega) (by omega) (fun h35 => ?_) (fun h35 => ?_)
        · skip
          refine g_iconst X dX12_version_42 rfl ?_
          exact ci1 _ (by omega)
        · skip
          refine g_iconst X dX12_version_38 rfl ?_
          refine g_goto (pc' := 43) X dX12_version_39 rfl ?_
          exact ci1 _ (by omega)
      · skip
        refine g_iconst X dX12_version_25 rfl ?_
        refine g_goto (pc' := 43) X dX12_version_26 rfl ?_
        exact ci1 _ (by omega)
  · skip
    refine g_iV1_v X w_X12_holds ml_X12_158 dX12_version_43 rfl (n40 hN) (en40 _ _ _ _) ⟨⟨Nat.le_of_ble_eq_true rfl, Nat.le_of_ble_eq_true rfl⟩, Nat.le_of_ble_eq_true rfl, Nat.le_of_ble_eq_true rfl⟩ (Nat.le_of_ble_eq_true rfl) (c_X12_holds hN (by omega)) ?_
    refine g_ifB_eq (tgt := 51) X dX12_version_46 rfl rfl (fun h46 => ?_) (fun h46 => ?_)
    · skip
      have w0 : (if ¬ ((0 ≤ l ∧ l ≤ 3) ∧ (1890 ≤ y ∧ y ≤ 2100)) then 1 else if (C.1 0 6 0 0) = 6 then 2 else 0 : Int) = 0 := by omega
      rw [w0]
      refine g_aload_n X dX12_version_51 rfl rfl ?_
      refine g_get X ci12 (n40 hN) (en40 _ _ _ _) (by decide) fl_X12_51 rfl dX12_version_52 rfl ?_
      refine g_aload_n X dX12_version_55 rfl rfl ?_
      refine g_getI X ci12 (n40 hN) (en40 _ _ _ _) (by decide) fl_X12_219 rfl dX12_version_56 rfl (fun r56 => ?_)
      refine g_int (b := M.1 40 22 0 0) rfl ?_
      have r56x := hM 40 22 0 0
      refine g_iload_n X dX12_version_59 rfl rfl ?_
      refine g_iast X (n52 hN) (en52 _ _ _ _) (en52 _ _ _ _) (t0 := 0) rfl (by first | omega | (simp only [setI_1, setL_1, setI_2, setL_2]; omega) | (simp only [setI_1, setL_1, setI_2, setL_2]; simp; omega)) (by first | omega | (simp only [setI_1, setL_1, setI_2, setL_2]; omega) | (simp only [setI_1, setL_1, setI_2, setL_2]; simp; omega)) (by decide) (by first | omega | (simp only [setI_1, setL_1, setI_2, setL_2]; omega) | (simp only [setI_1, setL_1, setI_2, setL_2]; simp; omega)) dX12_version_60 rfl ?_
      refine g_aload_n X dX12_version_61 rfl rfl ?_
      refine g_get X ci12 (n40 hN) (en40 _ _ _ _) (by decide) fl_X12_54 rfl dX12_version_62 rfl ?_
      refine g_aload_n X dX12_version_65 rfl rfl ?_
      refine g_getI X ci12 (n40 hN) (en40 _ _ _ _) (by decide) fl_X12_219 rfl dX12_version_66 rfl (fun r66 => ?_)
      refine g_int (b := M.1 40 22 0 0) rfl ?_
      have r66x := hM 40 22 0 0
      refine g_iload_n X dX12_version_69 rfl rfl ?_
      refine g_iast X (n53 hN) (en53 _ _ _ _) (en53 _ _ _ _) (t0 := 0) rfl (by first | omega | (simp only [setI_1, setL_1, setI_2, setL_2]; omega) | (simp only [setI_1, setL_1, setI_2, setL_2]; simp; omega)) (by first | omega | (simp only [setI_1, setL_1, setI_2, setL_2]; omega) | (simp only [setI_1, setL_1, setI_2, setL_2]; simp; omega)) (by decide) (by first | omega | (simp only [setI_1, setL_1, setI_2, setL_2]; omega) | (simp only [setI_1, setL_1, setI_2, setL_2]; simp; omega)) dX12_version_70 rfl ?_
      refine g_aload_n X dX12_version_71 rfl rfl ?_
      refine g_dup X dX12_version_72 rfl rfl ?_
      refine g_getI X ci12 (n40 hN) (en40 _ _ _ _) (by decide) fl_X12_219 rfl dX12_version_73 rfl (fun r73 => ?_)
      refine g_int (b := M.1 40 22 0 0) rfl ?_
      have r73x := hM 40 22 0 0
      refine g_iconst X dX12_version_76 rfl ?_
      refine g_iadd X dX12_version_77 rfl ?_
      refine g_putI X ci12 (n40 hN) (en40 _ _ _ _) (ep40_22 _ _ _ _ _) (by first | omega | (simp only [setI_1, setL_1, setI_2, setL_2]; omega) | (simp only [setI_1, setL_1, setI_2, setL_2]; simp; omega)) (by decide) rfl rfl rfl (Nat.le_of_ble_eq_true rfl) fl_X12_219 dX12_version_78 rfl ?_
      refine g_aload_n X dX12_version_81 rfl rfl ?_
      refine g_getI X ci12 (n40 hN) (en40 _ _ _ _) (by decide) fl_X12_219 rfl dX12_version_82 rfl (fun r82 => ?_)
      refine g_int (b := (M.1 40 22 0 0) + 1) (by simp [setI_1, setI_2, setL_1, setL_2]) ?_
      refine g_iconst X dX12_version_85 rfl ?_
      refine g_isub X dX12_version_86 rfl ?_
      refine g_int (b := (C.1 0 6 0 0)) (by omega) ?_
      exact g_ret Y dX12_version_87 ⟨_, rfl⟩ (pRo w0 rfl)
    · skip
      refine g_iconst X dX12_version_49 rfl ?_
      exact g_ret Y dX12_version_50 ⟨_, rfl⟩ (pRx (by assumption))
set_option maxRecDepth 100000 in
set_option maxHeartbeats 4000000 in
theorem c_X12_proof {δ : Dx} {nm : List (Nat × Int)} {ad : Ad} {M : Mem} {C : Mem} {n : Int} {v : Int} (hN : NmOk nm) (hV : RelV n C M) (n0 : n ≤ 1000) (rv : rng v) : Ct δ md_X12_proof 0 0 nm ad M [.ref (ad 40 0), .int (iI v)] (pRf (if ¬ (0 ≤ v ∧ v < (C.1 0 6 0 0)) then 1 else 0) (.int (iI (-1))) (.int (iI ((C.1 22 2 v 0) + 1))) ad M (fun M' => M' = setI (setI M 40 46 0 0 0) 54 0 0 v ((C.1 22 2 v 0) + 1))) := by
  refine Ct_of (ins := .ireturn) (ok := okI) [some (.ref (ad 40 0)), some (.int (iI v))] (by decide +kernel) rfl (Nat.le_of_ble_eq_true rfl) (fun κ s hs X hr hQ hδ => endI rfl hs X hr hQ hδ) (fun κ X hNL hδ Y => ?_)
  refine g_rm (fun hM => ?_)
  have vc := hV.vc
  have ve := hV.e
  refine g_aload_n X dX12_proof_0 rfl rfl ?_
  refine g_cutI 14 (if ¬ (0 ≤ v ∧ v < (C.1 0 6 0 0)) then 1 else 0) (fun ci1 => ?_) ?_
  · skip
    refine g_aload_n X dX12_proof_1 rfl rfl ?_
    refine g_iload_n X dX12_proof_2 rfl rfl ?_
    refine g_iV1_v X w_X12_isVersion ml_X12_222 dX12_proof_3 rfl (n40 hN) (en40 _ _ _ _) ⟨⟨Nat.le_of_ble_eq_true rfl, Nat.le_of_ble_eq_true rfl⟩, Nat.le_of_ble_eq_true rfl, Nat.le_of_ble_eq_true rfl⟩ (Nat.le_of_ble_eq_true rfl) (c_X12_isVersion hN (by omega) (by omega)) ?_
    refine g_ifB_eq (tgt := 13) X dX12_proof_6 rfl rfl (fun h6 => ?_) (fun h6 => ?_)
    · skip
      refine g_iconst X dX12_proof_13 rfl ?_
      exact ci1 _ (by omega)
    · skip
      refine g_iconst X dX12_proof_9 rfl ?_
      refine g_goto (pc' := 14) X dX12_proof_10 rfl ?_
      exact ci1 _ (by omega)
  · skip
    refine g_iV1_v X w_X12_holds ml_X12_158 dX12_proof_14 rfl (n40 hN) (en40 _ _ _ _) ⟨⟨Nat.le_of_ble_eq_true rfl, Nat.le_of_ble_eq_true rfl⟩, Nat.le_of_ble_eq_true rfl, Nat.le_of_ble_eq_true rfl⟩ (Nat.le_of_ble_eq_true rfl) (c_X12_holds hN (by omega)) ?_
    refine g_ifB_eq (tgt := 22) X dX12_proof_17 rfl rfl (fun h17 => ?_) (fun h17 => ?_)
    · skip
      have w0 : (if ¬ (0 ≤ v ∧ v < (C.1 0 6 0 0)) then 1 else 0 : Int) = 0 := by omega
      rw [w0]
      have mv := hV.mv v (by omega) (by omega)
      have pn := hV.pn v (by omega) (by omega)
      refine g_aload_n X dX12_proof_22 rfl rfl ?_
      refine g_get X ci12 (n40 hN) (en40 _ _ _ _) (by decide) fl_X12_57 rfl dX12_proof_23 rfl ?_
      refine g_iload_n X dX12_proof_26 rfl rfl ?_
      refine g_dup2 X dX12_proof_27 rfl rfl rfl ?_
      refine g_iald X dX12_proof_28 rfl (n54 hN) (en54 _ _ _ _) (t0 := 0) rfl (by first | omega | (simp only [setI_1, setL_1, setI_2, setL_2]; omega) | (simp only [setI_1, setL_1, setI_2, setL_2]; simp; omega)) (by first | omega | (simp only [setI_1, setL_1, setI_2, setL_2]; omega) | (simp only [setI_1, setL_1, setI_2, setL_2]; simp; omega)) (by decide) (fun r28 => ?_)
      refine g_int (b := M.1 54 0 0 v) rfl ?_
      have r28x := hM 54 0 0 v
      refine g_iconst X dX12_proof_29 rfl ?_
      refine g_iadd X dX12_proof_30 rfl ?_
      refine g_iast X (n54 hN) (en54 _ _ _ _) (en54 _ _ _ _) (t0 := 0) rfl (by first | omega | (simp only [setI_1, setL_1, setI_2, setL_2]; omega) | (simp only [setI_1, setL_1, setI_2, setL_2]; simp; omega)) (by first | omega | (simp only [setI_1, setL_1, setI_2, setL_2]; omega) | (simp only [setI_1, setL_1, setI_2, setL_2]; simp; omega)) (by decide) (by first | omega | (simp only [setI_1, setL_1, setI_2, setL_2]; omega) | (simp only [setI_1, setL_1, setI_2, setL_2]; simp; omega)) dX12_proof_31 rfl ?_
      refine g_aload_n X dX12_proof_32 rfl rfl ?_
      refine g_get X ci12 (n40 hN) (en40 _ _ _ _) (by decide) fl_X12_57 rfl dX12_proof_33 rfl ?_
      refine g_iload_n X dX12_proof_36 rfl rfl ?_
      refine g_iald X dX12_proof_37 rfl (n54 hN) (en54 _ _ _ _) (t0 := 0) rfl (by first | omega | (simp only [setI_1, setL_1, setI_2, setL_2]; omega) | (simp only [setI_1, setL_1, setI_2, setL_2]; simp; omega)) (by first | omega | (simp only [setI_1, setL_1, setI_2, setL_2]; omega) | (simp only [setI_1, setL_1, setI_2, setL_2]; simp; omega)) (by decide) (fun r37 => ?_)
      refine g_int (b := (M.1 54 0 0 v) + 1) (by simp [setI_1, setI_2, setL_1, setL_2]) ?_
      refine g_int (b := (C.1 22 2 v 0) + 1) (by omega) ?_
      exact g_ret Y dX12_proof_38 ⟨_, rfl⟩ (pRo w0 (by rw [← mv.2.2.1]))
    · skip
      refine g_iconst X dX12_proof_20 rfl ?_
      exact g_ret Y dX12_proof_21 ⟨_, rfl⟩ (pRx (by assumption))
set_option maxRecDepth 100000 in
set_option maxHeartbeats 4000000 in
theorem c_X12_speed {δ : Dx} {nm : List (Nat × Int)} {ad : Ad} {M : Mem} {C : Mem} {n : Int} {v s x : Int} (hN : NmOk nm) (hV : RelV n C M) (rv : rng v) (rs : rng s) (rx : rng x) : Ct δ md_X12_speed 0 0 nm ad M [.ref (ad 40 0), .int (iI v), .int (iI s), .int (iI x)] (pRf (if ¬ ((0 ≤ v ∧ v < (C.1 0 6 0 0)) ∧ (0 ≤ s ∧ s < (C.1 22 3 v 0))) then 1 else if 8 ≤ x ∧ x ≤ 30 then 0 else 2) (.int (iI (-1))) (.int (iI (C.1 25 0 v s))) ad M (fun M' => M' = setI (setI M 40 46 0 0 0) 58 0 0 (10 * v + s) x)) := by
  refine Ct_of (ins := .ireturn) (ok := okI) [some (.ref (ad 40 0)), some (.int (iI v)), some (.int (iI s)), some (.int (iI x)), none] (by decide +kernel) rfl (Nat.le_of_ble_eq_true rfl) (fun κ s hs X hr hQ hδ => endI rfl hs X hr hQ hδ) (fun κ X hNL hδ Y => ?_)
  refine g_rm (fun hM => ?_)
  have vc := hV.vc
  have ve := hV.e
  refine g_aload_n X dX12_speed_0 rfl rfl ?_
  refine g_cutI 31 (if ¬ ((0 ≤ v ∧ v < (C.1 0 6 0 0)) ∧ (0 ≤ s ∧ s < (C.1 22 3 v 0))) then 1 else if 8 ≤ x ∧ x ≤ 30 then 0 else 2) (fun ci1 => ?_) ?_
  · skip
    refine g_aload_n X dX12_speed_1 rfl rfl ?_
    refine g_iload_n X dX12_speed_2 rfl rfl ?_
    refine g_iload_n X dX12_speed_3 rfl rfl ?_
    refine g_iV2_v X w_X12_isShot ml_X12_228 dX12_speed_4 rfl (n40 hN) (en40 _ _ _ _) ⟨⟨Nat.le_of_ble_eq_true rfl, Nat.le_of_ble_eq_true rfl⟩, Nat.le_of_ble_eq_true rfl, Nat.le_of_ble_eq_true rfl⟩ (Nat.le_of_ble_eq_true rfl) (c_X12_isShot hN (by omega) (by omega) (by omega) hV.vn) ?_
    have mvs : (0 ≤ v ∧ v < (C.1 0 6 0 0)) → (M.1 55 0 0 v) = (C.1 22 3 v 0) := fun z => (hV.mv v z.1 z.2).2.2.2
    refine g_ifB_ne (tgt := 14) X dX12_speed_7 rfl rfl (fun h7 => ?_) (fun h7 => ?_)
    · skip
      refine g_aload_n X dX12_speed_14 rfl rfl ?_
      refine g_iload_n X dX12_speed_15 rfl rfl ?_
      refine g_bipush X dX12_speed_16 rfl (by decide) ?_
      refine g_bipush X dX12_speed_18 rfl (by decide) ?_
      refine g_iV3_v X w_X12_in ml_X12_146 dX12_speed_20 rfl (n40 hN) (en40 _ _ _ _) ⟨⟨Nat.le_of_ble_eq_true rfl, Nat.le_of_ble_eq_true rfl⟩, Nat.le_of_ble_eq_true rfl, Nat.le_of_ble_eq_true rfl⟩ (Nat.le_of_ble_eq_true rfl) (c_X12_in hN (by omega) (by omega) (by omega)) ?_
      refine g_ifB_eq (tgt := 30) X dX12_speed_23 rfl rfl (fun h23 => ?_) (fun h23 => ?_)
      · skip
        refine g_iconst X dX12_speed_30 rfl ?_
        exact ci1 _ (by omega)
      · skip
        refine g_iconst X dX12_speed_26 rfl ?_
        refine g_goto (pc' := 31) X dX12_speed_27 rfl ?_
        exact ci1 _ (by omega)
    · skip
      refine g_iconst X dX12_speed_10 rfl ?_
      refine g_goto (pc' := 31) X dX12_speed_11 rfl ?_
      exact ci1 _ (by omega)
  · skip
    refine g_iV1_v X w_X12_holds ml_X12_158 dX12_speed_31 rfl (n40 hN) (en40 _ _ _ _) ⟨⟨Nat.le_of_ble_eq_true rfl, Nat.le_of_ble_eq_true rfl⟩, Nat.le_of_ble_eq_true rfl, Nat.le_of_ble_eq_true rfl⟩ (Nat.le_of_ble_eq_true rfl) (c_X12_holds hN (by omega)) ?_
    refine g_ifB_eq (tgt := 39) X dX12_speed_34 rfl rfl (fun h34 => ?_) (fun h34 => ?_)
    · skip
      have w0 : (if ¬ ((0 ≤ v ∧ v < (C.1 0 6 0 0)) ∧ (0 ≤ s ∧ s < (C.1 22 3 v 0))) then 1 else if 8 ≤ x ∧ x ≤ 30 then 0 else 2 : Int) = 0 := by omega
      rw [w0]
      have sh := hV.sh v s (by omega) (by omega) (by omega) (by omega)
      have s0 := (hV.ok v (by omega) (by omega)).1
      refine g_aload_n X dX12_speed_39 rfl rfl ?_
      refine g_get X ci12 (n40 hN) (en40 _ _ _ _) (by decide) fl_X12_69 rfl dX12_speed_40 rfl ?_
      refine g_bipush X dX12_speed_43 rfl (by decide) ?_
      refine g_iload_n X dX12_speed_45 rfl rfl ?_
      refine g_imul X dX12_speed_46 rfl ?_
      refine g_iload_n X dX12_speed_47 rfl rfl ?_
      refine g_iadd X dX12_speed_48 rfl ?_
      refine g_iald X dX12_speed_49 rfl (n58 hN) (en58 _ _ _ _) (t0 := 0) rfl (by first | omega | (simp only [setI_1, setL_1, setI_2, setL_2]; omega) | (simp only [setI_1, setL_1, setI_2, setL_2]; simp; omega)) (by first | omega | (simp only [setI_1, setL_1, setI_2, setL_2]; omega) | (simp only [setI_1, setL_1, setI_2, setL_2]; simp; omega)) (by decide) (fun r49 => ?_)
      refine g_int (b := M.1 58 0 0 ((10 * v) + s)) rfl ?_
      have r49x := hM 58 0 0 ((10 * v) + s)
      refine g_istore_4 X dX12_speed_50 rfl (lt_kN hNL rfl) rfl ?_
      refine g_aload_n X dX12_speed_52 rfl rfl ?_
      refine g_get X ci12 (n40 hN) (en40 _ _ _ _) (by decide) fl_X12_69 rfl dX12_speed_53 rfl ?_
      refine g_bipush X dX12_speed_56 rfl (by decide) ?_
      refine g_iload_n X dX12_speed_58 rfl rfl ?_
      refine g_imul X dX12_speed_59 rfl ?_
      refine g_iload_n X dX12_speed_60 rfl rfl ?_
      refine g_iadd X dX12_speed_61 rfl ?_
      refine g_iload_n X dX12_speed_62 rfl rfl ?_
      refine g_iast X (n58 hN) (en58 _ _ _ _) (en58 _ _ _ _) (t0 := 0) rfl (by first | omega | (simp only [setI_1, setL_1, setI_2, setL_2]; omega) | (simp only [setI_1, setL_1, setI_2, setL_2]; simp; omega)) (by first | omega | (simp only [setI_1, setL_1, setI_2, setL_2]; omega) | (simp only [setI_1, setL_1, setI_2, setL_2]; simp; omega)) (by decide) (by first | omega | (simp only [setI_1, setL_1, setI_2, setL_2]; omega) | (simp only [setI_1, setL_1, setI_2, setL_2]; simp; omega)) dX12_speed_63 rfl ?_
      refine g_iload X dX12_speed_64 rfl rfl ?_
      refine g_int (b := (C.1 25 0 v s)) (by omega) ?_
      exact g_ret Y dX12_speed_66 ⟨_, rfl⟩ (pRo w0 rfl)
    · skip
      refine g_iconst X dX12_speed_37 rfl ?_
      exact g_ret Y dX12_speed_38 ⟨_, rfl⟩ (pRx (by assumption))
theorem RelZ.scrap {C M : Mem} {c t : Int} (h : RelZ C M) (hs : (C.1 6 0 0 0) < 100) (ht : 0 ≤ t ∧ t ≤ 9) : RelZ (setI (setI (setI C 7 0 0 (C.1 6 0 0 0) c) 8 0 0 (C.1 6 0 0 0) t) 6 0 0 0 ((C.1 6 0 0 0) + 1)) (scM M c t) := by
  obtain ⟨h1, h2, h3, h4⟩ := h
  refine ⟨?_, ?_, ?_, ?_⟩
  · simp only [setI_1]; simp; omega
  · intro j j0 j1
    simp only [setI_1] at j1 ⊢
    simp at j1 ⊢
    by_cases e : j = (C.1 6 0 0 0)
    · rw [if_pos e]; exact ht
    · rw [if_neg e]; exact h2 j j0 (by omega)
  · unfold scM
    simp only [setI_1]; simp; exact h3
  · intro j j0 j1
    unfold scM
    simp only [setI_1] at j1 ⊢
    simp at j1 ⊢
    rw [h3]
    by_cases e : j = (C.1 6 0 0 0)
    · simp [e]
    · simp [e]; exact h4 j j0 (by omega)
set_option maxRecDepth 100000 in
set_option maxHeartbeats 4000000 in
theorem c_X12_scrap {δ : Dx} {nm : List (Nat × Int)} {ad : Ad} {M : Mem} {C : Mem} {c t : Int} (hN : NmOk nm) (hZ : RelZ C M) (rc : rng c) (rt : rng t) : Ct δ md_X12_scrap 0 0 nm ad M [.ref (ad 40 0), .int (iI c), .int (iI t)] (pRf (if ¬ ((0 ≤ c ∧ c ≤ 999) ∧ (0 ≤ t ∧ t ≤ 9)) then 1 else if (C.1 6 0 0 0) = 100 then 2 else 0) (.int (iI (-1))) (.int (iI (scN (setI (setI (setI C 7 0 0 (C.1 6 0 0 0) c) 8 0 0 (C.1 6 0 0 0) t) 6 0 0 0 ((C.1 6 0 0 0) + 1)) c))) ad M (fun M' => M' = scM (setI M 40 46 0 0 0) c t)) := by
  refine Ct_of (ins := .ireturn) (ok := okI) [some (.ref (ad 40 0)), some (.int (iI c)), some (.int (iI t)), none, none] (by decide +kernel) rfl (Nat.le_of_ble_eq_true rfl) (fun κ s hs X hr hQ hδ => endI rfl hs X hr hQ hδ) (fun κ X hNL hδ Y => ?_)
  refine g_rm (fun hM => ?_)
  have sc := hZ.sc
  have ze := hZ.e
  refine g_aload_n X dX12_scrap_0 rfl rfl ?_
  refine g_cutI 42 (if ¬ ((0 ≤ c ∧ c ≤ 999) ∧ (0 ≤ t ∧ t ≤ 9)) then 1 else if (C.1 6 0 0 0) = 100 then 2 else 0) (fun ci1 => ?_) ?_
  · skip
    refine g_aload_n X dX12_scrap_1 rfl rfl ?_
    refine g_iload_n X dX12_scrap_2 rfl rfl ?_
    refine g_iconst X dX12_scrap_3 rfl ?_
    refine g_sipush X dX12_scrap_4 rfl (by decide) ?_
    refine g_iV3_v X w_X12_in ml_X12_146 dX12_scrap_7 rfl (n40 hN) (en40 _ _ _ _) ⟨⟨Nat.le_of_ble_eq_true rfl, Nat.le_of_ble_eq_true rfl⟩, Nat.le_of_ble_eq_true rfl, Nat.le_of_ble_eq_true rfl⟩ (Nat.le_of_ble_eq_true rfl) (c_X12_in hN (by omega) (by omega) (by omega)) ?_
    refine g_ifB_eq (tgt := 24) X dX12_scrap_10 rfl rfl (fun h10 => ?_) (fun h10 => ?_)
    · skip
      refine g_iconst X dX12_scrap_24 rfl ?_
      refine g_goto (pc' := 42) X dX12_scrap_25 rfl ?_
      exact ci1 _ (by omega)
    · skip
      refine g_aload_n X dX12_scrap_13 rfl rfl ?_
      refine g_iload_n X dX12_scrap_14 rfl rfl ?_
      refine g_iconst X dX12_scrap_15 rfl ?_
      refine g_bipush X dX12_scrap_16 rfl (by decide) ?_
      refine g_iV3_v X w_X12_in ml_X12_146 dX12_scrap_18 rfl (n40 hN) (en40 _ _ _ _) ⟨⟨Nat.le_of_ble_eq_true rfl, Nat.le_of_ble_eq_true rfl⟩, Nat.le_of_ble_eq_true rfl, Nat.le_of_ble_eq_true rfl⟩ (Nat.le_of_ble_eq_true rfl) (c_X12_in hN (by omega) (by omega) (by omega)) ?_
      refine g_ifB_ne (tgt := 28) X dX12_scrap_21 rfl rfl (fun h21 => ?_) (fun h21 => ?_)
      · skip
        refine g_aload_n X dX12_scrap_28 rfl rfl ?_
        refine g_getI X ci12 (n40 hN) (en40 _ _ _ _) (by decide) fl_X12_243 rfl dX12_scrap_29 rfl (fun r29 => ?_)
        refine g_bipush X dX12_scrap_32 rfl (by decide) ?_
        refine g_icmp_ne (tgt := 41) X dX12_scrap_34 rfl rfl (by omega) (by omega) (fun h34 => ?_) (fun h34 => ?_)
        · skip
          refine g_iconst X dX12_scrap_41 rfl ?_
          exact ci1 _ (by omega)
        · skip
          refine g_iconst X dX12_scrap_37 rfl ?_
          refine g_goto (pc' := 42) X dX12_scrap_38 rfl ?_
          exact ci1 _ (by omega)
      · skip
        refine g_iconst X dX12_scrap_24 rfl ?_
        refine g_goto (pc' := 42) X dX12_scrap_25 rfl ?_
        exact ci1 _ (by omega)
  · skip
    refine g_iV1_v X w_X12_holds ml_X12_158 dX12_scrap_42 rfl (n40 hN) (en40 _ _ _ _) ⟨⟨Nat.le_of_ble_eq_true rfl, Nat.le_of_ble_eq_true rfl⟩, Nat.le_of_ble_eq_true rfl, Nat.le_of_ble_eq_true rfl⟩ (Nat.le_of_ble_eq_true rfl) (c_X12_holds hN (by omega)) ?_
    refine g_ifB_eq (tgt := 50) X dX12_scrap_45 rfl rfl (fun h45 => ?_) (fun h45 => ?_)
    · skip
      have w0 : (if ¬ ((0 ≤ c ∧ c ≤ 999) ∧ (0 ≤ t ∧ t ≤ 9)) then 1 else if (C.1 6 0 0 0) = 100 then 2 else 0 : Int) = 0 := by omega
      rw [w0]
      refine g_aload_n X dX12_scrap_50 rfl rfl ?_
      refine g_get X ci12 (n40 hN) (en40 _ _ _ _) (by decide) fl_X12_75 rfl dX12_scrap_51 rfl ?_
      refine g_aload_n X dX12_scrap_54 rfl rfl ?_
      refine g_getI X ci12 (n40 hN) (en40 _ _ _ _) (by decide) fl_X12_243 rfl dX12_scrap_55 rfl (fun r55 => ?_)
      refine g_int (b := M.1 40 25 0 0) rfl ?_
      have r55x := hM 40 25 0 0
      refine g_iload_n X dX12_scrap_58 rfl rfl ?_
      refine g_iast X (n60 hN) (en60 _ _ _ _) (en60 _ _ _ _) (t0 := 0) rfl (by first | omega | (simp only [setI_1, setL_1, setI_2, setL_2]; omega) | (simp only [setI_1, setL_1, setI_2, setL_2]; simp; omega)) (by first | omega | (simp only [setI_1, setL_1, setI_2, setL_2]; omega) | (simp only [setI_1, setL_1, setI_2, setL_2]; simp; omega)) (by decide) (by first | omega | (simp only [setI_1, setL_1, setI_2, setL_2]; omega) | (simp only [setI_1, setL_1, setI_2, setL_2]; simp; omega)) dX12_scrap_59 rfl ?_
      refine g_aload_n X dX12_scrap_60 rfl rfl ?_
      refine g_get X ci12 (n40 hN) (en40 _ _ _ _) (by decide) fl_X12_78 rfl dX12_scrap_61 rfl ?_
      refine g_aload_n X dX12_scrap_64 rfl rfl ?_
      refine g_getI X ci12 (n40 hN) (en40 _ _ _ _) (by decide) fl_X12_243 rfl dX12_scrap_65 rfl (fun r65 => ?_)
      refine g_int (b := M.1 40 25 0 0) rfl ?_
      have r65x := hM 40 25 0 0
      refine g_iload_n X dX12_scrap_68 rfl rfl ?_
      refine g_iast X (n61 hN) (en61 _ _ _ _) (en61 _ _ _ _) (t0 := 0) rfl (by first | omega | (simp only [setI_1, setL_1, setI_2, setL_2]; omega) | (simp only [setI_1, setL_1, setI_2, setL_2]; simp; omega)) (by first | omega | (simp only [setI_1, setL_1, setI_2, setL_2]; omega) | (simp only [setI_1, setL_1, setI_2, setL_2]; simp; omega)) (by decide) (by first | omega | (simp only [setI_1, setL_1, setI_2, setL_2]; omega) | (simp only [setI_1, setL_1, setI_2, setL_2]; simp; omega)) dX12_scrap_69 rfl ?_
      refine g_aload_n X dX12_scrap_70 rfl rfl ?_
      refine g_dup X dX12_scrap_71 rfl rfl ?_
      refine g_getI X ci12 (n40 hN) (en40 _ _ _ _) (by decide) fl_X12_243 rfl dX12_scrap_72 rfl (fun r72 => ?_)
      refine g_int (b := M.1 40 25 0 0) rfl ?_
      have r72x := hM 40 25 0 0
      refine g_iconst X dX12_scrap_75 rfl ?_
      refine g_iadd X dX12_scrap_76 rfl ?_
      refine g_putI X ci12 (n40 hN) (en40 _ _ _ _) (ep40_25 _ _ _ _ _) (by first | omega | (simp only [setI_1, setL_1, setI_2, setL_2]; omega) | (simp only [setI_1, setL_1, setI_2, setL_2]; simp; omega)) (by decide) rfl rfl rfl (Nat.le_of_ble_eq_true rfl) fl_X12_243 dX12_scrap_77 rfl ?_
      have hZ2 := (hZ.th (z := 0)).scrap (c := c) (t := t) (by omega) (by omega)
      refine g_iconst X dX12_scrap_80 rfl ?_
      refine g_istore_3 X dX12_scrap_81 rfl (lt_kN hNL rfl) rfl ?_
      refine g_iconst X dX12_scrap_82 rfl ?_
      refine g_istore_4 X dX12_scrap_83 rfl (lt_kN hNL rfl) rfl ?_
      have lp85 : ∀ (a : Int) (k : Int) (k0 : 0 ≤ k) (k1 : k ≤ (C.1 6 0 0 0) + 1) (ha : a = sm (fun j => bI ((((scM (setI M 40 46 0 0 0) c t)).1 60 0 0 j) = c)) 0 k), G κ nm ad (scM (setI M 40 46 0 0 0) c t) 85 [some (.ref (ad 40 0)), some (.int (iI c)), some (.int (iI t)), some (.int (iI a)), some (.int (iI k))] [] 0 0 := by
        refine ind2 (fun a k => (101 - k).toNat) ?_
        intro a k ih85 k0 k1 ha
        refine g_rm (fun hM85 => ?_)
        have ps := sm_s (fun j => bI ((((scM (setI M 40 46 0 0 0) c t)).1 60 0 0 j) = c)) (lo := 0) (hi := k) k0
        have e25 : (((scM (setI M 40 46 0 0 0) c t)).1 40 25 0 0) = (C.1 6 0 0 0) + 1 := by show (M.1 40 25 0 0) + 1 = _; omega
        refine g_iload X dX12_scrap_85 rfl rfl ?_
        refine g_aload_n X dX12_scrap_87 rfl rfl ?_
        refine g_getI X ci12 (n40 hN) (en40 _ _ _ _) (by decide) fl_X12_243 rfl dX12_scrap_88 rfl (fun r88 => ?_)
        refine g_icmp_ge (tgt := 119) X dX12_scrap_91 rfl rfl (by omega) (by omega) (fun h91 => ?_) (fun h91 => ?_)
        · skip
          refine g_iload_n X dX12_scrap_119 rfl rfl ?_
          have e1 : a = scN (setI (setI (setI C 7 0 0 (C.1 6 0 0 0) c) 8 0 0 (C.1 6 0 0 0) t) 6 0 0 0 ((C.1 6 0 0 0) + 1)) c := by
            rw [ha, show k = (C.1 6 0 0 0) + 1 by omega]
            unfold scN
            rw [show ((setI (setI (setI C 7 0 0 (C.1 6 0 0 0) c) 8 0 0 (C.1 6 0 0 0) t) 6 0 0 0 ((C.1 6 0 0 0) + 1))).1 6 0 0 0 = (C.1 6 0 0 0) + 1 by simp [setI_1]]
            refine sm_c (fun j j0 j1 => ?_)
            show bI _ = bI _
            rw [(hZ2.mz j j0 (by simp [setI_1]; omega)).1]
          exact g_ret Y dX12_scrap_120 ⟨_, rfl⟩ ⟨rfl, Or.inr ⟨w0, by rw [e1], rfl⟩⟩
        · skip
          refine g_iload_n X dX12_scrap_94 rfl rfl ?_
          refine g_cutB 111 ((((scM (setI M 40 46 0 0 0) c t)).1 60 0 0 k) = c) (fun ct95 cf95 => ?_) ?_
          · skip
            refine g_aload_n X dX12_scrap_95 rfl rfl ?_
            refine g_get X ci12 (n40 hN) (en40 _ _ _ _) (by decide) fl_X12_75 rfl dX12_scrap_96 rfl ?_
            refine g_iload X dX12_scrap_99 rfl rfl ?_
            refine g_iald X dX12_scrap_101 rfl (n60 hN) (en60 _ _ _ _) (t0 := 0) rfl (by omega) (by omega) (by decide) (fun r101 => ?_)
            refine g_iload_n X dX12_scrap_102 rfl rfl ?_
            refine g_icmp_ne (tgt := 110) X dX12_scrap_103 rfl rfl (by omega) (by omega) (fun h103 => ?_) (fun h103 => ?_)
            · skip
              refine g_iconst X dX12_scrap_110 rfl ?_
              exact cf95 (by first | assumption | omega)
            · skip
              refine g_iconst X dX12_scrap_106 rfl ?_
              refine g_goto (pc' := 111) X dX12_scrap_107 rfl ?_
              exact ct95 (by first | assumption | omega)
          · skip
            refine g_iadd X dX12_scrap_111 rfl ?_
            refine g_istore_3 X dX12_scrap_112 rfl (lt_kN hNL rfl) rfl ?_
            refine g_iinc_4 X dX12_scrap_113 rfl (lt_kN hNL rfl) rfl ?_
            refine g_goto (pc' := 85) X dX12_scrap_116 rfl ?_
            exact ih85 _ (k + 1) (by omega) (by omega) (by omega) (by rw [ps, ha])
      exact lp85 0 0 (by omega) (by omega) (sm_0 _ (by omega)).symm
    · skip
      refine g_iconst X dX12_scrap_48 rfl ?_
      exact g_ret Y dX12_scrap_49 ⟨_, rfl⟩ (pRx (by assumption))
set_option maxRecDepth 100000 in
set_option maxHeartbeats 4000000 in
theorem c_X12_tint {δ : Dx} {nm : List (Nat × Int)} {ad : Ad} {M : Mem} {C : Mem} {n : Int} {v s : Int} (hN : NmOk nm) (hV : RelV n C M) (hZ : RelZ C M) (rv : rng v) (rs : rng s) : Ct δ md_X12_tint 0 0 nm ad M [.ref (ad 40 0), .int (iI v), .int (iI s)] (pRf (if (0 ≤ v ∧ v < (C.1 0 6 0 0)) ∧ (0 ≤ s ∧ s < (C.1 22 3 v 0)) then 0 else 1) (.int (iI (-1))) (.int (iI (win (vt C (C.1 23 0 v s) (C.1 24 0 v s)) 10))) ad M (Ex (fun k => k == 77) (setI M 40 46 0 0 0))) := by
  refine Ct_of (ins := .ireturn) (ok := okI) [some (.ref (ad 40 0)), some (.int (iI v)), some (.int (iI s)), none, none] (by decide +kernel) rfl (Nat.le_of_ble_eq_true rfl) (fun κ s hs X hr hQ hδ => endI rfl hs X hr hQ hδ) (fun κ X hNL hδ Y => ?_)
  refine g_rm (fun hM => ?_)
  have vc := hV.vc
  have ve := hV.e
  have sc := hZ.sc
  have ze := hZ.e
  refine g_aload_n X dX12_tint_0 rfl rfl ?_
  refine g_cutI 15 (if (0 ≤ v ∧ v < (C.1 0 6 0 0)) ∧ (0 ≤ s ∧ s < (C.1 22 3 v 0)) then 0 else 1) (fun ci1 => ?_) ?_
  · skip
    refine g_aload_n X dX12_tint_1 rfl rfl ?_
    refine g_iload_n X dX12_tint_2 rfl rfl ?_
    refine g_iload_n X dX12_tint_3 rfl rfl ?_
    refine g_iV2_v X w_X12_isShot ml_X12_228 dX12_tint_4 rfl (n40 hN) (en40 _ _ _ _) ⟨⟨Nat.le_of_ble_eq_true rfl, Nat.le_of_ble_eq_true rfl⟩, Nat.le_of_ble_eq_true rfl, Nat.le_of_ble_eq_true rfl⟩ (Nat.le_of_ble_eq_true rfl) (c_X12_isShot hN (by omega) (by omega) (by omega) hV.vn) ?_
    have mvs : (0 ≤ v ∧ v < (C.1 0 6 0 0)) → (M.1 55 0 0 v) = (C.1 22 3 v 0) := fun z => (hV.mv v z.1 z.2).2.2.2
    refine g_ifB_eq (tgt := 14) X dX12_tint_7 rfl rfl (fun h7 => ?_) (fun h7 => ?_)
    · skip
      refine g_iconst X dX12_tint_14 rfl ?_
      exact ci1 _ (by omega)
    · skip
      refine g_iconst X dX12_tint_10 rfl ?_
      refine g_goto (pc' := 15) X dX12_tint_11 rfl ?_
      exact ci1 _ (by omega)
  · skip
    refine g_iV1_v X w_X12_holds ml_X12_158 dX12_tint_15 rfl (n40 hN) (en40 _ _ _ _) ⟨⟨Nat.le_of_ble_eq_true rfl, Nat.le_of_ble_eq_true rfl⟩, Nat.le_of_ble_eq_true rfl, Nat.le_of_ble_eq_true rfl⟩ (Nat.le_of_ble_eq_true rfl) (c_X12_holds hN (by omega)) ?_
    refine g_ifB_eq (tgt := 23) X dX12_tint_18 rfl rfl (fun h18 => ?_) (fun h18 => ?_)
    · skip
      have w0 : (if (0 ≤ v ∧ v < (C.1 0 6 0 0)) ∧ (0 ≤ s ∧ s < (C.1 22 3 v 0)) then 0 else 1 : Int) = 0 := by omega
      rw [w0]
      have sh := hV.sh v s (by omega) (by omega) (by omega) (by omega)
      have s0 := (hV.ok v (by omega) (by omega)).1
      refine g_iconst X dX12_tint_23 rfl ?_
      refine g_istore_3 X dX12_tint_24 rfl (lt_kN hNL rfl) rfl ?_
      have lp25 : ∀ (d : Int) (M1 : Mem) (d0 : 0 ≤ d) (d1 : d ≤ 10) (hE1 : Ex (fun k => k == 77) (setI M 40 46 0 0 0) M1) (hv1 : ∀ e, 0 ≤ e → e < d → (M1.1 77 0 0 e) = 0), G κ nm ad M1 25 [some (.ref (ad 40 0)), some (.int (iI v)), some (.int (iI s)), some (.int (iI d)), none] [] 0 0 := by
        refine ind2 (fun d M1 => (10 - d).toNat) ?_
        intro d M1 ih25 d0 d1 hE1 hv1
        refine g_rm (fun hM25 => ?_)
        refine g_iload_n X dX12_tint_25 rfl rfl ?_
        refine g_bipush X dX12_tint_26 rfl (by decide) ?_
        refine g_icmp_ge (tgt := 44) X dX12_tint_28 rfl rfl (by omega) (by omega) (fun h28 => ?_) (fun h28 => ?_)
        · skip
          refine g_iconst X dX12_tint_44 rfl ?_
          refine g_istore_3 X dX12_tint_45 rfl (lt_kN hNL rfl) rfl ?_
          have lp46 : ∀ (k : Int) (M2 : Mem) (k0 : 0 ≤ k) (k1 : k ≤ (C.1 6 0 0 0)) (hE2 : Ex (fun k => k == 77) (setI M 40 46 0 0 0) M2) (hv2 : ∀ d, 0 ≤ d → d < 10 → (M2.1 77 0 0 d) = sm (vtT C (C.1 23 0 v s) (C.1 24 0 v s) d) 0 k), G κ nm ad M2 46 [some (.ref (ad 40 0)), some (.int (iI v)), some (.int (iI s)), some (.int (iI k)), none] [] 0 0 := by
            refine ind2 (fun k M2 => (100 - k).toNat) ?_
            intro k M2 ih46 k0 k1 hE2 hv2
            refine g_rm (fun hM46 => ?_)
            have e25 : (M2.1 40 25 0 0) = (M.1 40 25 0 0) := hE2.i 40 25 0 0 rfl
            refine g_iload_n X dX12_tint_46 rfl rfl ?_
            refine g_aload_n X dX12_tint_47 rfl rfl ?_
            refine g_getI X ci12 (n40 hN) (en40 _ _ _ _) (by decide) fl_X12_243 rfl dX12_tint_48 rfl (fun r48 => ?_)
            refine g_icmp_ge (tgt := 114) X dX12_tint_51 rfl rfl (by omega) (by omega) (fun h51 => ?_) (fun h51 => ?_)
            · skip
              refine g_iconst X dX12_tint_114 rfl ?_
              refine g_istore_3 X dX12_tint_115 rfl (lt_kN hNL rfl) rfl ?_
              refine g_iconst X dX12_tint_116 rfl ?_
              refine g_istore_4 X dX12_tint_117 rfl (lt_kN hNL rfl) rfl ?_
              have hv3 : ∀ d, 0 ≤ d → d < 10 → (M2.1 77 0 0 d) = vt C (C.1 23 0 v s) (C.1 24 0 v s) d := fun d h1 h2 => by rw [hv2 d h1 h2]; unfold vt; rw [show (C.1 6 0 0 0) = k by omega]
              have lp119 : ∀ (k : Int) (k0 : 0 ≤ k) (k1 : k ≤ 10), G κ nm ad M2 119 [some (.ref (ad 40 0)), some (.int (iI v)), some (.int (iI s)), some (.int (iI (win (vt C (C.1 23 0 v s) (C.1 24 0 v s)) k.toNat))), some (.int (iI k))] [] 0 0 := by
                refine ind1 (fun k => (10 - k).toNat) ?_
                intro k ih119 k0 k1
                refine g_rm (fun hM119 => ?_)
                refine g_iload X dX12_tint_119 rfl rfl ?_
                refine g_bipush X dX12_tint_121 rfl (by decide) ?_
                refine g_icmp_ge (tgt := 163) X dX12_tint_123 rfl rfl (by omega) (by omega) (fun h123 => ?_) (fun h123 => ?_)
                · skip
                  refine g_iload_n X dX12_tint_163 rfl rfl ?_
                  exact g_ret Y dX12_tint_164 ⟨_, rfl⟩ ⟨rfl, Or.inr ⟨w0, by rw [show k = 10 by omega]; rfl, hE2⟩⟩
                · skip
                  have wb := win_b (vt C (C.1 23 0 v s) (C.1 24 0 v s)) k.toNat
                  have ek := hv3 k k0 (by omega)
                  have vb := fun d => vt_b C (C.1 23 0 v s) (C.1 24 0 v s) d sc.1
                  have vb1 := vb k
                  have vb2 := vb (win (vt C (C.1 23 0 v s) (C.1 24 0 v s)) k.toNat)
                  refine g_cutI 156 (win (vt C (C.1 23 0 v s) (C.1 24 0 v s)) (k + 1).toNat) (fun ci126 => ?_) ?_
                  · skip
                    have wb := win_b (vt C (C.1 23 0 v s) (C.1 24 0 v s)) k.toNat
                    have ek := hv3 k k0 (by omega)
                    have vb := fun d => vt_b C (C.1 23 0 v s) (C.1 24 0 v s) d sc.1
                    have vb1 := vb k
                    have vb2 := vb (win (vt C (C.1 23 0 v s) (C.1 24 0 v s)) k.toNat)
                    refine g_aload_n X dX12_tint_126 rfl rfl ?_
                    refine g_get X ci12 (n40 hN) (en40 _ _ _ _) (by decide) fl_X12_130 rfl dX12_tint_127 rfl ?_
                    refine g_iload X dX12_tint_130 rfl rfl ?_
                    refine g_iald X dX12_tint_132 rfl (n77 hN) (en77 _ _ _ _) (t0 := 0) rfl (by omega) (by omega) (by decide) (fun r132 => ?_)
                    refine g_cutI 147 (if win (vt C (C.1 23 0 v s) (C.1 24 0 v s)) k.toNat < 0 then 0 else vt C (C.1 23 0 v s) (C.1 24 0 v s) (win (vt C (C.1 23 0 v s) (C.1 24 0 v s)) k.toNat)) (fun ci133 => ?_) ?_
                    · skip
                      refine g_iload_n X dX12_tint_133 rfl rfl ?_
                      refine g_if_ge (tgt := 141) X dX12_tint_134 rfl rfl (by omega) (fun h134 => ?_) (fun h134 => ?_)
                      · skip
                        have ew := hv3 (win (vt C (C.1 23 0 v s) (C.1 24 0 v s)) k.toNat) (by omega) (by omega)
                        refine g_aload_n X dX12_tint_141 rfl rfl ?_
                        refine g_get X ci12 (n40 hN) (en40 _ _ _ _) (by decide) fl_X12_130 rfl dX12_tint_142 rfl ?_
                        refine g_iload_n X dX12_tint_145 rfl rfl ?_
                        refine g_iald X dX12_tint_146 rfl (n77 hN) (en77 _ _ _ _) (t0 := 0) rfl (by omega) (by omega) (by decide) (fun r146 => ?_)
                        exact ci133 _ (by omega)
                      · skip
                        refine g_iconst X dX12_tint_137 rfl ?_
                        refine g_goto (pc' := 147) X dX12_tint_138 rfl ?_
                        exact ci133 _ (by omega)
                    · skip
                      refine g_icmp_le (tgt := 155) X dX12_tint_147 rfl rfl (by omega) (by omega) (fun h147 => ?_) (fun h147 => ?_)
                      · skip
                        refine g_iload_n X dX12_tint_155 rfl rfl ?_
                        exact ci126 _ (by rw [win_s k0]; omega)
                      · skip
                        refine g_iload X dX12_tint_150 rfl rfl ?_
                        refine g_goto (pc' := 156) X dX12_tint_152 rfl ?_
                        exact ci126 _ (by rw [win_s k0]; omega)
                  · skip
                    refine g_istore_3 X dX12_tint_156 rfl (lt_kN hNL rfl) rfl ?_
                    refine g_iinc_4 X dX12_tint_157 rfl (lt_kN hNL rfl) rfl ?_
                    refine g_goto (pc' := 119) X dX12_tint_160 rfl ?_
                    exact ih119 (k + 1) (by omega) (by omega) (by omega)
              exact lp119 0 (by omega) (by omega)
            · skip
              have mz := hZ.mz k k0 (by omega)
              have tn := hZ.tn k k0 (by omega)
              have ec := hv2 (C.1 8 0 0 k) (by omega) (by omega)
              have e56 := hE2.i 56 0 0 (10 * v + s) rfl
              have e57 := hE2.i 57 0 0 (10 * v + s) rfl
              have e60 := hE2.i 60 0 0 k rfl
              have e61 := hE2.i 61 0 0 k rfl
              have z56 : (((setI M 40 46 0 0 0)).1 56 0 0 (10 * v + s)) = (M.1 56 0 0 (10 * v + s)) := rfl
              have z57 : (((setI M 40 46 0 0 0)).1 57 0 0 (10 * v + s)) = (M.1 57 0 0 (10 * v + s)) := rfl
              have z60 : (((setI M 40 46 0 0 0)).1 60 0 0 k) = (M.1 60 0 0 k) := rfl
              have z61 : (((setI M 40 46 0 0 0)).1 61 0 0 k) = (M.1 61 0 0 k) := rfl
              refine g_aload_n X dX12_tint_54 rfl rfl ?_
              refine g_get X ci12 (n40 hN) (en40 _ _ _ _) (by decide) fl_X12_130 rfl dX12_tint_55 rfl ?_
              refine g_aload_n X dX12_tint_58 rfl rfl ?_
              refine g_get X ci12 (n40 hN) (en40 _ _ _ _) (by decide) fl_X12_78 rfl dX12_tint_59 rfl ?_
              refine g_iload_n X dX12_tint_62 rfl rfl ?_
              refine g_iald X dX12_tint_63 rfl (n61 hN) (en61 _ _ _ _) (t0 := 0) rfl (by omega) (by omega) (by decide) (fun r63 => ?_)
              refine g_dup2 X dX12_tint_64 rfl rfl rfl ?_
              refine g_iald X dX12_tint_65 rfl (n77 hN) (en77 _ _ _ _) (t0 := 0) rfl (by omega) (by omega) (by decide) (fun r65 => ?_)
              refine g_cutB 106 ((C.1 23 0 v s) ≤ (C.1 7 0 0 k) ∧ (C.1 7 0 0 k) ≤ (C.1 24 0 v s)) (fun ct66 cf66 => ?_) ?_
              · skip
                refine g_aload_n X dX12_tint_66 rfl rfl ?_
                refine g_aload_n X dX12_tint_67 rfl rfl ?_
                refine g_get X ci12 (n40 hN) (en40 _ _ _ _) (by decide) fl_X12_75 rfl dX12_tint_68 rfl ?_
                refine g_iload_n X dX12_tint_71 rfl rfl ?_
                refine g_iald X dX12_tint_72 rfl (n60 hN) (en60 _ _ _ _) (t0 := 0) rfl (by omega) (by omega) (by decide) (fun r72 => ?_)
                refine g_aload_n X dX12_tint_73 rfl rfl ?_
                refine g_get X ci12 (n40 hN) (en40 _ _ _ _) (by decide) fl_X12_63 rfl dX12_tint_74 rfl ?_
                refine g_bipush X dX12_tint_77 rfl (by decide) ?_
                refine g_iload_n X dX12_tint_79 rfl rfl ?_
                refine g_imul X dX12_tint_80 rfl ?_
                refine g_iload_n X dX12_tint_81 rfl rfl ?_
                refine g_iadd X dX12_tint_82 rfl ?_
                refine g_iald X dX12_tint_83 rfl (n56 hN) (en56 _ _ _ _) (t0 := 0) rfl (by omega) (by omega) (by decide) (fun r83 => ?_)
                refine g_aload_n X dX12_tint_84 rfl rfl ?_
                refine g_get X ci12 (n40 hN) (en40 _ _ _ _) (by decide) fl_X12_66 rfl dX12_tint_85 rfl ?_
                refine g_bipush X dX12_tint_88 rfl (by decide) ?_
                refine g_iload_n X dX12_tint_90 rfl rfl ?_
                refine g_imul X dX12_tint_91 rfl ?_
                refine g_iload_n X dX12_tint_92 rfl rfl ?_
                refine g_iadd X dX12_tint_93 rfl ?_
                refine g_iald X dX12_tint_94 rfl (n57 hN) (en57 _ _ _ _) (t0 := 0) rfl (by omega) (by omega) (by decide) (fun r94 => ?_)
                refine g_iV3_v X w_X12_in ml_X12_146 dX12_tint_95 rfl (n40 hN) (en40 _ _ _ _) ⟨⟨Nat.le_of_ble_eq_true rfl, Nat.le_of_ble_eq_true rfl⟩, Nat.le_of_ble_eq_true rfl, Nat.le_of_ble_eq_true rfl⟩ (Nat.le_of_ble_eq_true rfl) (c_X12_in hN (by omega) (by omega) (by omega)) ?_
                refine g_ifB_eq (tgt := 105) X dX12_tint_98 rfl rfl (fun h98 => ?_) (fun h98 => ?_)
                · skip
                  refine g_iconst X dX12_tint_105 rfl ?_
                  exact cf66 (by omega)
                · skip
                  refine g_iconst X dX12_tint_101 rfl ?_
                  refine g_goto (pc' := 106) X dX12_tint_102 rfl ?_
                  exact ct66 (by omega)
              · skip
                refine g_iadd X dX12_tint_106 rfl ?_
                refine g_iast X (n77 hN) (en77 _ _ _ _) (en77 _ _ _ _) (t0 := 0) rfl (by omega) (by omega) (by decide) (by rw [show (M2.1 61 0 0 k) = (C.1 8 0 0 k) by omega, ec]; have q := sm_b1 (f := vtT C (C.1 23 0 v s) (C.1 24 0 v s) (C.1 8 0 0 k)) (lo := 0) (hi := k) k0 (fun _ _ _ => bI_b _); have q2 := bI_b ((C.1 23 0 v s) ≤ (C.1 7 0 0 k) ∧ (C.1 7 0 0 k) ≤ (C.1 24 0 v s)); constructor <;> omega) dX12_tint_107 rfl ?_
                refine g_iinc_3 X dX12_tint_108 rfl (lt_kN hNL rfl) rfl ?_
                refine g_goto (pc' := 46) X dX12_tint_111 rfl ?_
                exact ih46 (k + 1) _ (by omega) (by omega) (by omega) (hE2.setI rfl) (fun d h1 h2 => by
                        rw [setI_1, sm_s _ k0]
                        unfold vtT
                        by_cases z : d = (C.1 8 0 0 k)
                        · rw [if_pos ⟨rfl, rfl, rfl, by omega⟩, show (M2.1 61 0 0 k) = (C.1 8 0 0 k) by omega, ec, z]
                          exact congrArg _ (bI_c ⟨fun q => ⟨q, rfl⟩, fun q => q.1⟩)
                        · rw [if_neg (by omega), hv2 d h1 h2, bI_f (P := _ ∧ _) (fun q => z q.2.symm)]
                          exact (Int.add_zero _).symm)
          exact lp46 0 _ (by omega) (by omega) hE1 (fun d h1 h2 => by rw [sm_0 _ (Int.le_refl _)]; exact hv1 d h1 (by omega))
        · skip
          refine g_aload_n X dX12_tint_31 rfl rfl ?_
          refine g_get X ci12 (n40 hN) (en40 _ _ _ _) (by decide) fl_X12_130 rfl dX12_tint_32 rfl ?_
          refine g_iload_n X dX12_tint_35 rfl rfl ?_
          refine g_iconst X dX12_tint_36 rfl ?_
          refine g_iast X (n77 hN) (en77 _ _ _ _) (en77 _ _ _ _) (t0 := 0) rfl (by omega) (by omega) (by decide) (by omega) dX12_tint_37 rfl ?_
          refine g_iinc_3 X dX12_tint_38 rfl (lt_kN hNL rfl) rfl ?_
          refine g_goto (pc' := 25) X dX12_tint_41 rfl ?_
          exact ih25 (d + 1) _ (by omega) (by omega) (by omega) (hE1.setI rfl) (fun e h1 h2 => by
                  rw [setI_1]
                  by_cases z : e = d
                  · subst z; rw [if_pos ⟨rfl, rfl, rfl, rfl⟩]
                  · rw [if_neg (by omega)]; exact hv1 e h1 (by omega))
      exact lp25 0 _ (by omega) (by omega) (Ex.rf _) (fun e h1 h2 => by omega)
    · skip
      refine g_iconst X dX12_tint_21 rfl ?_
      exact g_ret Y dX12_tint_22 ⟨_, rfl⟩ (pRx (by assumption))
