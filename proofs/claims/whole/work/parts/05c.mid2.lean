set_option maxRecDepth 100000 in
set_option maxHeartbeats 4000000 in
theorem c_X3_begin {δ : Dx} {nm : List (Nat × Int)} {ad : Ad} {M : Mem} {k c r p : Int} {x : Int64} (hN : NmOk nm) (k0 : 0 ≤ k) (k1 : k < 120) (rc : rng c) (rr : rng r) (rp : rng p) : Ct δ md_X3_begin 0 0 nm ad M [.ref (ad 31 k), .int (iI c), .int (iI r), .int (iI p), .long x] (pN ad (begM M k c r p x)) := by
  refine Ct_of (ins := .return_) (ok := okN) [some (.ref (ad 31 k)), some (.int (iI c)), some (.int (iI r)), some (.int (iI p)), some (.long x), none] (by decide +kernel) rfl (Nat.le_of_ble_eq_true rfl) (fun κ s hs X hr hQ hδ => endN rfl hs X hr hQ hδ) (fun κ X hNL hδ Y => ?_)
  refine g_rm (fun hM => ?_)
  refine g_aload_n X dX3_begin_0 rfl rfl ?_
  refine g_iload_n X dX3_begin_1 rfl rfl ?_
  refine g_putI X ci3 (n31 hN (by omega) (by omega)) (en31 _ _ _ _) (ep31_0 _ _ _ _ _) (by omega) (by decide) rfl rfl rfl (Nat.le_of_ble_eq_true rfl) fl_X3_9 dX3_begin_2 rfl ?_
  refine g_aload_n X dX3_begin_5 rfl rfl ?_
  refine g_iload_n X dX3_begin_6 rfl rfl ?_
  refine g_putI X ci3 (n31 hN (by omega) (by omega)) (en31 _ _ _ _) (ep31_1 _ _ _ _ _) (by first | omega | (simp only [setI_1, setL_1, setI_2, setL_2]; omega) | (simp only [setI_1, setL_1, setI_2, setL_2]; simp; omega)) (by decide) rfl rfl rfl (Nat.le_of_ble_eq_true rfl) fl_X3_15 dX3_begin_7 rfl ?_
  refine g_aload_n X dX3_begin_10 rfl rfl ?_
  refine g_iload_n X dX3_begin_11 rfl rfl ?_
  refine g_putI X ci3 (n31 hN (by omega) (by omega)) (en31 _ _ _ _) (ep31_2 _ _ _ _ _) (by first | omega | (simp only [setI_1, setL_1, setI_2, setL_2]; omega) | (simp only [setI_1, setL_1, setI_2, setL_2]; simp; omega)) (by decide) rfl rfl rfl (Nat.le_of_ble_eq_true rfl) fl_X3_18 dX3_begin_12 rfl ?_
  refine g_aload_n X dX3_begin_15 rfl rfl ?_
  refine g_lload X dX3_begin_16 rfl rfl ?_
  refine g_putL X ci3 (n31 hN (by omega) (by omega)) (en31 _ _ _ _) (ep31_3 _ _ _ _ _) (by decide) rfl rfl rfl (Nat.le_of_ble_eq_true rfl) fl_X3_21 dX3_begin_18 rfl ?_
  refine g_aload_n X dX3_begin_21 rfl rfl ?_
  refine g_lload X dX3_begin_22 rfl rfl ?_
  refine g_putL X ci3 (n31 hN (by omega) (by omega)) (en31 _ _ _ _) (ep31_4 _ _ _ _ _) (by decide) rfl rfl rfl (Nat.le_of_ble_eq_true rfl) fl_X3_25 dX3_begin_24 rfl ?_
  refine g_aload_n X dX3_begin_27 rfl rfl ?_
  refine g_iconst X dX3_begin_28 rfl ?_
  refine g_putI X ci3 (n31 hN (by omega) (by omega)) (en31 _ _ _ _) (ep31_5 _ _ _ _ _) (by first | decide | omega) (by decide) rfl (nar01 (by first | exact Or.inl rfl | exact Or.inr rfl | omega)) (fit01 (by first | exact Or.inl rfl | exact Or.inr rfl | omega)) (Nat.le_of_ble_eq_true rfl) fl_X3_28 dX3_begin_29 rfl ?_
  refine g_aload_n X dX3_begin_32 rfl rfl ?_
  refine g_iconst X dX3_begin_33 rfl ?_
  refine g_putI X ci3 (n31 hN (by omega) (by omega)) (en31 _ _ _ _) (ep31_6 _ _ _ _ _) (by first | omega | (simp only [setI_1, setL_1, setI_2, setL_2]; omega) | (simp only [setI_1, setL_1, setI_2, setL_2]; simp; omega)) (by decide) rfl rfl rfl (Nat.le_of_ble_eq_true rfl) fl_X3_32 dX3_begin_34 rfl ?_
  refine g_aload_n X dX3_begin_37 rfl rfl ?_
  refine g_iconst X dX3_begin_38 rfl ?_
  refine g_putI X ci3 (n31 hN (by omega) (by omega)) (en31 _ _ _ _) (ep31_7 _ _ _ _ _) (by first | omega | (simp only [setI_1, setL_1, setI_2, setL_2]; omega) | (simp only [setI_1, setL_1, setI_2, setL_2]; simp; omega)) (by decide) rfl rfl rfl (Nat.le_of_ble_eq_true rfl) fl_X3_35 dX3_begin_39 rfl ?_
  exact g_retn Y dX3_begin_42 rfl ⟨rfl, rfl, rfl⟩
set_option maxRecDepth 100000 in
set_option maxHeartbeats 4000000 in
theorem c_X3_isGap {δ : Dx} {nm : List (Nat × Int)} {ad : Ad} {M : Mem} {k : Int} (hN : NmOk nm) (k0 : 0 ≤ k) (k1 : k < 120) : Ct δ md_X3_isGap 0 0 nm ad M [.ref (ad 31 k)] (pV (.int (iI (bI ((M.1 31 1 k 0) = -1)))) ad M) := by
  refine Ct_of (ins := .ireturn) (ok := okZ) [some (.ref (ad 31 k))] (by decide +kernel) rfl (Nat.le_of_ble_eq_true rfl) (fun κ s hs X hr hQ hδ => endZ rfl hs X hr hQ hδ) (fun κ X hNL hδ Y => ?_)
  refine g_rm (fun hM => ?_)
  refine g_aload_n X dX3_isGap_0 rfl rfl ?_
  refine g_getI X ci3 (n31 hN (by omega) (by omega)) (en31 _ _ _ _) (by decide) fl_X3_15 rfl dX3_isGap_1 rfl (fun r1 => ?_)
  refine g_iconst X dX3_isGap_4 rfl ?_
  refine g_icmp_ne (tgt := 12) X dX3_isGap_5 rfl rfl (by omega) (by omega) (fun h5 => ?_) (fun h5 => ?_)
  · skip
    refine g_iconst X dX3_isGap_12 rfl ?_
    exact g_ret Y dX3_isGap_13 okZ0 (pVf (by omega))
  · skip
    refine g_iconst X dX3_isGap_8 rfl ?_
    refine g_goto (pc' := 13) X dX3_isGap_9 rfl ?_
    exact g_ret Y dX3_isGap_13 okZ1 (pVt (by omega))
set_option maxRecDepth 100000 in
set_option maxHeartbeats 4000000 in
theorem c_X3_mayBeMended {δ : Dx} {nm : List (Nat × Int)} {ad : Ad} {M : Mem} {k : Int} (hN : NmOk nm) (k0 : 0 ≤ k) (k1 : k < 120) : Ct δ md_X3_mayBeMended 0 0 nm ad M [.ref (ad 31 k)] (pV (.int (iI (bI (mayB M k)))) ad M) := by
  refine Ct_of (ins := .ireturn) (ok := okZ) [some (.ref (ad 31 k))] (by decide +kernel) rfl (Nat.le_of_ble_eq_true rfl) (fun κ s hs X hr hQ hδ => endZ rfl hs X hr hQ hδ) (fun κ X hNL hδ Y => ?_)
  refine g_rm (fun hM => ?_)
  refine g_aload_n X dX3_mayBeMended_0 rfl rfl ?_
  refine g_getI X ci3 (n31 hN (by omega) (by omega)) (en31 _ _ _ _) (by decide) fl_X3_28 rfl dX3_mayBeMended_1 rfl (fun r1 => ?_)
  refine g_if_ne (tgt := 18) X dX3_mayBeMended_4 rfl rfl (by omega) (fun h4 => ?_) (fun h4 => ?_)
  · skip
    refine g_iconst X dX3_mayBeMended_18 rfl ?_
    exact g_ret Y dX3_mayBeMended_19 okZ0 (pVf (by unfold mayB; omega))
  · skip
    refine g_aload_n X dX3_mayBeMended_7 rfl rfl ?_
    refine g_iV0_v X w_X3_isGap ml_X3_38 dX3_mayBeMended_8 rfl (n31 hN (by omega) (by omega)) (en31 _ _ _ _) ⟨⟨Nat.le_of_ble_eq_true rfl, Nat.le_of_ble_eq_true rfl⟩, Nat.le_of_ble_eq_true rfl, Nat.le_of_ble_eq_true rfl⟩ (Nat.le_of_ble_eq_true rfl) (c_X3_isGap hN (by omega) (by omega)) ?_
    refine g_ifB_ne (tgt := 18) X dX3_mayBeMended_11 rfl rfl (fun h11 => ?_) (fun h11 => ?_)
    · skip
      refine g_iconst X dX3_mayBeMended_18 rfl ?_
      exact g_ret Y dX3_mayBeMended_19 okZ0 (pVf (by unfold mayB; omega))
    · skip
      refine g_iconst X dX3_mayBeMended_14 rfl ?_
      refine g_goto (pc' := 19) X dX3_mayBeMended_15 rfl ?_
      exact g_ret Y dX3_mayBeMended_19 okZ1 (pVt (by unfold mayB; omega))
set_option maxRecDepth 100000 in
set_option maxHeartbeats 4000000 in
theorem c_X0_isFull {δ : Dx} {nm : List (Nat × Int)} {ad : Ad} {M : Mem} (hN : NmOk nm) : Ct δ md_X0_isFull 0 0 nm ad M [.ref (ad 12 0)] (pV (.int (iI (bI (61440 ≤ (M.1 12 0 0 0))))) ad M) := by
  refine Ct_of (ins := .ireturn) (ok := okZ) [some (.ref (ad 12 0))] (by decide +kernel) rfl (Nat.le_of_ble_eq_true rfl) (fun κ s hs X hr hQ hδ => endZ rfl hs X hr hQ hδ) (fun κ X hNL hδ Y => ?_)
  refine g_rm (fun hM => ?_)
  refine g_aload_n X dX0_isFull_0 rfl rfl ?_
  refine g_getI X ci0 (n12 hN) (en12 _ _ _ _) (by decide) fl_X0_22 rfl dX0_isFull_1 rfl (fun r1 => ?_)
  refine g_ldc X dX0_isFull_4 rfl kc_X0_26 ?_
  refine g_icmp_lt (tgt := 13) X dX0_isFull_6 rfl rfl (by omega) (by omega) (fun h6 => ?_) (fun h6 => ?_)
  · skip
    refine g_iconst X dX0_isFull_13 rfl ?_
    exact g_ret Y dX0_isFull_14 okZ0 (pVf (by omega))
  · skip
    refine g_iconst X dX0_isFull_9 rfl ?_
    refine g_goto (pc' := 14) X dX0_isFull_10 rfl ?_
    exact g_ret Y dX0_isFull_14 okZ1 (pVt (by omega))
set_option maxRecDepth 100000 in
set_option maxHeartbeats 4000000 in
theorem c_X2_begin {δ : Dx} {nm : List (Nat × Int)} {ad : Ad} {M : Mem} (hN : NmOk nm) : Ct δ md_X2_begin 0 0 nm ad M [.ref (ad 10 0)] (pN ad (setI (setI M 10 0 0 0 0) 12 0 0 0 0)) := by
  refine Ct_of (ins := .return_) (ok := okN) [some (.ref (ad 10 0))] (by decide +kernel) rfl (Nat.le_of_ble_eq_true rfl) (fun κ s hs X hr hQ hδ => endN rfl hs X hr hQ hδ) (fun κ X hNL hδ Y => ?_)
  refine g_rm (fun hM => ?_)
  refine g_aload_n X dX2_begin_0 rfl rfl ?_
  refine g_iconst X dX2_begin_1 rfl ?_
  refine g_putI X ci2 (n10 hN) (en10 _ _ _ _) (ep10_0 _ _ _ _ _) (by omega) (by decide) rfl rfl rfl (Nat.le_of_ble_eq_true rfl) fl_X2_29 dX2_begin_2 rfl ?_
  refine g_aload_n X dX2_begin_5 rfl rfl ?_
  refine g_get X ci2 (n10 hN) (en10 _ _ _ _) (by decide) fl_X2_24 rfl dX2_begin_6 rfl ?_
  refine g_iconst X dX2_begin_9 rfl ?_
  refine g_putI X ci0 (n12 hN) (en12 _ _ _ _) (ep12_0 _ _ _ _ _) (by first | omega | (simp only [setI_1, setL_1, setI_2, setL_2]; omega) | (simp only [setI_1, setL_1, setI_2, setL_2]; simp; omega)) (by decide) rfl rfl rfl (Nat.le_of_ble_eq_true rfl) fl_X2_32 dX2_begin_10 rfl ?_
  exact g_retn Y dX2_begin_13 rfl ⟨rfl, rfl, rfl⟩
set_option maxRecDepth 100000 in
set_option maxHeartbeats 4000000 in
theorem c_X2_take {δ : Dx} {nm : List (Nat × Int)} {ad : Ad} {M : Mem} {c r p : Int} {x : Int64} (hN : NmOk nm) (e0 : 0 ≤ (M.1 10 0 0 0) ∧ (M.1 10 0 0 0) < 120) (rc : rng c) (rr : rng r) (rp : rng p) : Ct δ md_X2_take 0 0 nm ad M [.ref (ad 10 0), .int (iI c), .int (iI r), .int (iI p), .long x] (pN ad (takeM M c r p x)) := by
  refine Ct_of (ins := .return_) (ok := okN) [some (.ref (ad 10 0)), some (.int (iI c)), some (.int (iI r)), some (.int (iI p)), some (.long x), none] (by decide +kernel) rfl (Nat.le_of_ble_eq_true rfl) (fun κ s hs X hr hQ hδ => endN rfl hs X hr hQ hδ) (fun κ X hNL hδ Y => ?_)
  refine g_rm (fun hM => ?_)
  refine g_aload_n X dX2_take_0 rfl rfl ?_
  refine g_getI X ci2 (n10 hN) (en10 _ _ _ _) (by decide) fl_X2_29 rfl dX2_take_1 rfl (fun r1 => ?_)
  refine g_bipush X dX2_take_4 rfl (by decide) ?_
  refine g_icmp_ge (tgt := 36) X dX2_take_6 rfl rfl (by omega) (by omega) (fun h6 => ?_) (fun h6 => ?_)
  · skip
    exfalso; omega
  · skip
    refine g_aload_n X dX2_take_9 rfl rfl ?_
    refine g_get X ci2 (n10 hN) (en10 _ _ _ _) (by decide) fl_X2_17 rfl dX2_take_10 rfl ?_
    refine g_aload_n X dX2_take_13 rfl rfl ?_
    refine g_getI X ci2 (n10 hN) (en10 _ _ _ _) (by decide) fl_X2_29 rfl dX2_take_14 rfl (fun r14 => ?_)
    refine g_rald X (n11 hN) (en11 _ _ _ _) (t0 := 6) rfl (by omega) (by omega) (by decide) dX2_take_17 rfl ?_
    refine g_iload_n X dX2_take_18 rfl rfl ?_
    refine g_iload_n X dX2_take_19 rfl rfl ?_
    refine g_iload_n X dX2_take_20 rfl rfl ?_
    refine g_lload X dX2_take_21 rfl rfl ?_
    refine g_iV4_n X w_X3_begin ml_X2_33 dX2_take_23 rfl (n31 hN (by omega) (by omega)) (en31 _ _ _ _) ⟨⟨Nat.le_of_ble_eq_true rfl, Nat.le_of_ble_eq_true rfl⟩, Nat.le_of_ble_eq_true rfl, Nat.le_of_ble_eq_true rfl⟩ (Nat.le_of_ble_eq_true rfl) (c_X3_begin hN (by omega) (by omega) (by omega) (by omega) (by omega)) ?_
    refine g_aload_n X dX2_take_26 rfl rfl ?_
    refine g_dup X dX2_take_27 rfl rfl ?_
    refine g_getI X ci2 (n10 hN) (en10 _ _ _ _) (by decide) fl_X2_29 rfl dX2_take_28 rfl (fun r28 => ?_)
    refine g_int (b := M.1 10 0 0 0) rfl ?_
    have r28x := hM 10 0 0 0
    refine g_iconst X dX2_take_31 rfl ?_
    refine g_iadd X dX2_take_32 rfl ?_
    refine g_putI X ci2 (n10 hN) (en10 _ _ _ _) (ep10_0 _ _ _ _ _) (by first | omega | (simp only [setI_1, setL_1, setI_2, setL_2]; omega) | (simp only [setI_1, setL_1, setI_2, setL_2]; simp; omega)) (by decide) rfl rfl rfl (Nat.le_of_ble_eq_true rfl) fl_X2_29 dX2_take_33 rfl ?_
    exact g_retn Y dX2_take_36 rfl ⟨rfl, rfl, rfl⟩
set_option maxRecDepth 100000 in
set_option maxHeartbeats 4000000 in
theorem c_X2_gaps {δ : Dx} {nm : List (Nat × Int)} {ad : Ad} {M : Mem} (hN : NmOk nm) (e0 : 0 ≤ (M.1 10 0 0 0) ∧ (M.1 10 0 0 0) ≤ 120) : Ct δ md_X2_gaps 0 0 nm ad M [.ref (ad 10 0)] (pV (.int (iI (gapN M))) ad M) := by
  refine Ct_of (ins := .ireturn) (ok := okI) [some (.ref (ad 10 0)), none, none] (by decide +kernel) rfl (Nat.le_of_ble_eq_true rfl) (fun κ s hs X hr hQ hδ => endI rfl hs X hr hQ hδ) (fun κ X hNL hδ Y => ?_)
  refine g_rm (fun hM => ?_)
  refine g_iconst X dX2_gaps_0 rfl ?_
  refine g_istore_1 X dX2_gaps_1 rfl (lt_kN hNL rfl) rfl ?_
  refine g_iconst X dX2_gaps_2 rfl ?_
  refine g_istore_2 X dX2_gaps_3 rfl (lt_kN hNL rfl) rfl ?_
  have lp4 : ∀ (a : Int) (k : Int) (k0 : 0 ≤ k) (k1 : k ≤ (M.1 10 0 0 0)) (ha : a = sm (gapT M) 0 k), G κ nm ad M 4 [some (.ref (ad 10 0)), some (.int (iI a)), some (.int (iI k))] [] 0 0 := by
    refine ind2 (fun a k => (120 - k).toNat) ?_
    intro a k ih4 k0 k1 ha
    refine g_rm (fun hM4 => ?_)
    have ps := sm_s (gapT M) (lo := 0) (hi := k) k0
    have pb := sm_b1 (f := gapT M) (lo := 0) (hi := k) k0 (fun k _ _ => bI_b _)
    refine g_iload_n X dX2_gaps_4 rfl rfl ?_
    refine g_aload_n X dX2_gaps_5 rfl rfl ?_
    refine g_getI X ci2 (n10 hN) (en10 _ _ _ _) (by decide) fl_X2_29 rfl dX2_gaps_6 rfl (fun r6 => ?_)
    refine g_icmp_ge (tgt := 33) X dX2_gaps_9 rfl rfl (by omega) (by omega) (fun h9 => ?_) (fun h9 => ?_)
    · skip
      refine g_iload_n X dX2_gaps_33 rfl rfl ?_
      exact g_ret Y dX2_gaps_34 ⟨_, rfl⟩ (pVI (by rw [ha, show k = (M.1 10 0 0 0) by omega]; rfl))
    · skip
      refine g_aload_n X dX2_gaps_12 rfl rfl ?_
      refine g_get X ci2 (n10 hN) (en10 _ _ _ _) (by decide) fl_X2_17 rfl dX2_gaps_13 rfl ?_
      refine g_iload_n X dX2_gaps_16 rfl rfl ?_
      refine g_rald X (n11 hN) (en11 _ _ _ _) (t0 := 6) rfl (by omega) (by omega) (by decide) dX2_gaps_17 rfl ?_
      refine g_iV0_v X w_X3_isGap ml_X2_37 dX2_gaps_18 rfl (n31 hN (by omega) (by omega)) (en31 _ _ _ _) ⟨⟨Nat.le_of_ble_eq_true rfl, Nat.le_of_ble_eq_true rfl⟩, Nat.le_of_ble_eq_true rfl, Nat.le_of_ble_eq_true rfl⟩ (Nat.le_of_ble_eq_true rfl) (c_X3_isGap hN (by omega) (by omega)) ?_
      refine g_ifB_eq (tgt := 27) X dX2_gaps_21 rfl rfl (fun h21 => ?_) (fun h21 => ?_)
      · skip
        refine g_iinc_2 X dX2_gaps_27 rfl (lt_kN hNL rfl) rfl ?_
        refine g_goto (pc' := 4) X dX2_gaps_30 rfl ?_
        exact ih4 _ (k + 1) (by omega) (by omega) (by omega) (by rw [ps, ha]; unfold gapT; first | (rw [bI_t (by assumption)]; done) | (rw [bI_f (by assumption)]; omega) | (rw [bI_t (by omega)]; done) | (rw [bI_f (by omega)]; omega))
      · skip
        refine g_iinc_1 X dX2_gaps_24 rfl (lt_kN hNL rfl) rfl ?_
        refine g_iinc_2 X dX2_gaps_27 rfl (lt_kN hNL rfl) rfl ?_
        refine g_goto (pc' := 4) X dX2_gaps_30 rfl ?_
        exact ih4 _ (k + 1) (by omega) (by omega) (by omega) (by rw [ps, ha]; unfold gapT; first | (rw [bI_t (by assumption)]; done) | (rw [bI_f (by assumption)]; omega) | (rw [bI_t (by omega)]; done) | (rw [bI_f (by omega)]; omega))
  exact lp4 0 0 (by omega) (by omega) (sm_0 _ (by omega)).symm
set_option maxRecDepth 100000 in
set_option maxHeartbeats 4000000 in
theorem c_X2_isScratched {δ : Dx} {nm : List (Nat × Int)} {ad : Ad} {M : Mem} {x : Int64} {p t : Int} (hN : NmOk nm) (p0 : 1 ≤ p ∧ p ≤ 6) (rt : rng t) : Ct δ md_X2_isScratched 0 0 nm ad M [.long x, .int (iI p), .int (iI t)] (pV (.int (iI (bI (scrP x p t)))) ad M) := by
  refine Ct_of (ins := .ireturn) (ok := okZ) [some (.long x), none, some (.int (iI p)), some (.int (iI t)), none] (by decide +kernel) rfl (Nat.le_of_ble_eq_true rfl) (fun κ s hs X hr hQ hδ => endZ rfl hs X hr hQ hδ) (fun κ X hNL hδ Y => ?_)
  refine g_rm (fun hM => ?_)
  have b1 := pt_b x p
  have b2 := pt_b x (p - 1)
  have b3 := pt_b x (p + 1)
  refine g_lload_n X dX2_isScratched_0 rfl rfl ?_
  refine g_iload_n X dX2_isScratched_1 rfl rfl ?_
  refine g_iconst X dX2_isScratched_2 rfl ?_
  refine g_isub X dX2_isScratched_3 rfl ?_
  refine g_iS2_v X w_X7_at ml_X2_62 dX2_isScratched_4 rfl ⟨⟨Nat.le_of_ble_eq_true rfl, Nat.le_of_ble_eq_true rfl⟩, Nat.le_of_ble_eq_true rfl, Nat.le_of_ble_eq_true rfl⟩ (Nat.le_of_ble_eq_true rfl) (c_X7_at hN) ?_
  refine g_lload_n X dX2_isScratched_7 rfl rfl ?_
  refine g_iload_n X dX2_isScratched_8 rfl rfl ?_
  refine g_iconst X dX2_isScratched_9 rfl ?_
  refine g_iadd X dX2_isScratched_10 rfl ?_
  refine g_iS2_v X w_X7_at ml_X2_62 dX2_isScratched_11 rfl ⟨⟨Nat.le_of_ble_eq_true rfl, Nat.le_of_ble_eq_true rfl⟩, Nat.le_of_ble_eq_true rfl, Nat.le_of_ble_eq_true rfl⟩ (Nat.le_of_ble_eq_true rfl) (c_X7_at hN) ?_
  refine g_mmax X wm_max ml_X2_72 dX2_isScratched_14 rfl ⟨Nat.le_of_ble_eq_true rfl, Nat.le_of_ble_eq_true rfl, Nat.le_of_ble_eq_true rfl⟩ (Nat.le_of_ble_eq_true rfl) (by omega) (by omega) ?_
  refine g_istore_4 X dX2_isScratched_17 rfl (lt_kN hNL rfl) rfl ?_
  refine g_lload_n X dX2_isScratched_19 rfl rfl ?_
  refine g_iload_n X dX2_isScratched_20 rfl rfl ?_
  refine g_iS2_v X w_X7_at ml_X2_62 dX2_isScratched_21 rfl ⟨⟨Nat.le_of_ble_eq_true rfl, Nat.le_of_ble_eq_true rfl⟩, Nat.le_of_ble_eq_true rfl, Nat.le_of_ble_eq_true rfl⟩ (Nat.le_of_ble_eq_true rfl) (c_X7_at hN) ?_
  refine g_iload X dX2_isScratched_24 rfl rfl ?_
  refine g_isub X dX2_isScratched_26 rfl ?_
  refine g_iload_n X dX2_isScratched_27 rfl rfl ?_
  refine g_icmp_le (tgt := 35) X dX2_isScratched_28 rfl rfl (by omega) (by omega) (fun h28 => ?_) (fun h28 => ?_)
  · skip
    refine g_iconst X dX2_isScratched_35 rfl ?_
    exact g_ret Y dX2_isScratched_36 okZ0 (pVf (by unfold scrP maxI; omega))
  · skip
    refine g_iconst X dX2_isScratched_31 rfl ?_
    refine g_goto (pc' := 36) X dX2_isScratched_32 rfl ?_
    exact g_ret Y dX2_isScratched_36 okZ1 (pVt (by unfold scrP maxI; omega))
set_option maxRecDepth 100000 in
set_option maxHeartbeats 4000000 in
theorem c_X2_isOnTop {δ : Dx} {nm : List (Nat × Int)} {ad : Ad} {M : Mem} {c : Int} (hN : NmOk nm) (c0 : 0 ≤ c) (c1 : c < (M.1 12 0 0 0)) (c2 : (M.1 12 0 0 0) ≤ (M.1 13 1 0 0) ∧ (M.1 13 1 0 0) ≤ 61440) (pl : 0 ≤ (M.1 13 0 0 c) ∧ (M.1 13 0 0 c) < 120) : Ct δ md_X2_isOnTop 0 0 nm ad M [.ref (ad 10 0), .int (iI c)] (pV (.int (iI (bI ((M.1 31 7 ((M.1 13 0 0 c)) 0) = c)))) ad M) := by
  refine Ct_of (ins := .ireturn) (ok := okZ) [some (.ref (ad 10 0)), some (.int (iI c))] (by decide +kernel) rfl (Nat.le_of_ble_eq_true rfl) (fun κ s hs X hr hQ hδ => endZ rfl hs X hr hQ hδ) (fun κ X hNL hδ Y => ?_)
  refine g_rm (fun hM => ?_)
  refine g_aload_n X dX2_isOnTop_0 rfl rfl ?_
  refine g_get X ci2 (n10 hN) (en10 _ _ _ _) (by decide) fl_X2_17 rfl dX2_isOnTop_1 rfl ?_
  refine g_aload_n X dX2_isOnTop_4 rfl rfl ?_
  refine g_get X ci2 (n10 hN) (en10 _ _ _ _) (by decide) fl_X2_24 rfl dX2_isOnTop_5 rfl ?_
  refine g_get X ci0 (n12 hN) (en12 _ _ _ _) (by decide) fl_X2_98 rfl dX2_isOnTop_8 rfl ?_
  refine g_iload_n X dX2_isOnTop_11 rfl rfl ?_
  refine g_iald X dX2_isOnTop_12 rfl (n13 hN) (en13 _ _ _ _) (t0 := 0) rfl (by omega) (by omega) (by omega) (fun r12 => ?_)
  refine g_rald X (n11 hN) (en11 _ _ _ _) (t0 := 6) rfl (by omega) (by omega) (by decide) dX2_isOnTop_13 rfl ?_
  refine g_getI X ci3 (n31 hN (by omega) (by omega)) (en31 _ _ _ _) (by decide) fl_X2_88 rfl dX2_isOnTop_14 rfl (fun r14 => ?_)
  refine g_iload_n X dX2_isOnTop_17 rfl rfl ?_
  refine g_icmp_ne (tgt := 25) X dX2_isOnTop_18 rfl rfl (by omega) (by omega) (fun h18 => ?_) (fun h18 => ?_)
  · skip
    refine g_iconst X dX2_isOnTop_25 rfl ?_
    exact g_ret Y dX2_isOnTop_26 okZ0 (pVf (by omega))
  · skip
    refine g_iconst X dX2_isOnTop_21 rfl ?_
    refine g_goto (pc' := 26) X dX2_isOnTop_22 rfl ?_
    exact g_ret Y dX2_isOnTop_26 okZ1 (pVt (by omega))
set_option maxRecDepth 100000 in
set_option maxHeartbeats 4000000 in
theorem c_X2_undo {δ : Dx} {nm : List (Nat × Int)} {ad : Ad} {M : Mem} {c : Int} (hN : NmOk nm) (c0 : 0 ≤ c) (c1 : c < (M.1 12 0 0 0)) (c2 : (M.1 12 0 0 0) ≤ (M.1 13 1 0 0) ∧ (M.1 13 1 0 0) ≤ 61440) (pl : 0 ≤ (M.1 13 0 0 c) ∧ (M.1 13 0 0 c) < 120) (c3 : (M.1 14 1 0 0) = (M.1 13 1 0 0) ∧ (M.1 15 1 0 0) = (M.1 13 1 0 0)) (nc : 0 ≤ (M.1 31 6 ((M.1 13 0 0 c)) 0) ∧ (M.1 31 6 ((M.1 13 0 0 c)) 0) ≤ 100000) : Ct δ md_X2_undo 0 0 nm ad M [.ref (ad 10 0), .int (iI c)] (pV (.int (iI (M.1 13 0 0 c))) ad (undoM M c)) := by
  refine Ct_of (ins := .ireturn) (ok := okI) [some (.ref (ad 10 0)), some (.int (iI c)), none, none] (by decide +kernel) rfl (Nat.le_of_ble_eq_true rfl) (fun κ s hs X hr hQ hδ => endI rfl hs X hr hQ hδ) (fun κ X hNL hδ Y => ?_)
  refine g_rm (fun hM => ?_)
  refine g_aload_n X dX2_undo_0 rfl rfl ?_
  refine g_get X ci2 (n10 hN) (en10 _ _ _ _) (by decide) fl_X2_24 rfl dX2_undo_1 rfl ?_
  refine g_get X ci0 (n12 hN) (en12 _ _ _ _) (by decide) fl_X2_98 rfl dX2_undo_4 rfl ?_
  refine g_iload_n X dX2_undo_7 rfl rfl ?_
  refine g_iald X dX2_undo_8 rfl (n13 hN) (en13 _ _ _ _) (t0 := 0) rfl (by omega) (by omega) (by omega) (fun r8 => ?_)
  refine g_istore_2 X dX2_undo_9 rfl (lt_kN hNL rfl) rfl ?_
  refine g_aload_n X dX2_undo_10 rfl rfl ?_
  refine g_get X ci2 (n10 hN) (en10 _ _ _ _) (by decide) fl_X2_17 rfl dX2_undo_11 rfl ?_
  refine g_iload_n X dX2_undo_14 rfl rfl ?_
  refine g_rald X (n11 hN) (en11 _ _ _ _) (t0 := 6) rfl (by omega) (by omega) (by decide) dX2_undo_15 rfl ?_
  refine g_astore_3 X dX2_undo_16 rfl (lt_kN hNL rfl) rfl ?_
  refine g_aload_n X dX2_undo_17 rfl rfl ?_
  refine g_aload_n X dX2_undo_18 rfl rfl ?_
  refine g_get X ci2 (n10 hN) (en10 _ _ _ _) (by decide) fl_X2_24 rfl dX2_undo_19 rfl ?_
  refine g_get X ci0 (n12 hN) (en12 _ _ _ _) (by decide) fl_X2_102 rfl dX2_undo_22 rfl ?_
  refine g_iload_n X dX2_undo_25 rfl rfl ?_
  refine g_lald X dX2_undo_26 rfl (n14 hN) (en14 _ _ _ _) (t0 := 1) rfl (by omega) (by omega) (by omega) ?_
  refine g_putL X ci3 (n31 hN (by omega) (by omega)) (en31 _ _ _ _) (ep31_4 _ _ _ _ _) (by decide) rfl rfl rfl (Nat.le_of_ble_eq_true rfl) fl_X2_41 dX2_undo_27 rfl ?_
  refine g_aload_n X dX2_undo_30 rfl rfl ?_
  refine g_aload_n X dX2_undo_31 rfl rfl ?_
  refine g_get X ci2 (n10 hN) (en10 _ _ _ _) (by decide) fl_X2_24 rfl dX2_undo_32 rfl ?_
  refine g_get X ci0 (n12 hN) (en12 _ _ _ _) (by decide) fl_X2_106 rfl dX2_undo_35 rfl ?_
  refine g_iload_n X dX2_undo_38 rfl rfl ?_
  refine g_iald X dX2_undo_39 rfl (n15 hN) (en15 _ _ _ _) (t0 := 0) rfl (by first | omega | (simp only [setI_1, setL_1, setI_2, setL_2]; omega) | (simp only [setI_1, setL_1, setI_2, setL_2]; simp; omega)) (by first | omega | (simp only [setI_1, setL_1, setI_2, setL_2]; omega) | (simp only [setI_1, setL_1, setI_2, setL_2]; simp; omega)) (by first | omega | (simp only [setI_1, setL_1, setI_2, setL_2]; omega) | (simp only [setI_1, setL_1, setI_2, setL_2]; simp; omega)) (fun r39 => ?_)
  refine g_int (b := M.1 15 0 0 c) rfl ?_
  have r39x := hM 15 0 0 c
  refine g_putI X ci3 (n31 hN (by omega) (by omega)) (en31 _ _ _ _) (ep31_7 _ _ _ _ _) (by first | omega | (simp only [setI_1, setL_1, setI_2, setL_2]; omega) | (simp only [setI_1, setL_1, setI_2, setL_2]; simp; omega)) (by decide) rfl rfl rfl (Nat.le_of_ble_eq_true rfl) fl_X2_88 dX2_undo_40 rfl ?_
  refine g_aload_n X dX2_undo_43 rfl rfl ?_
  refine g_dup X dX2_undo_44 rfl rfl ?_
  refine g_getI X ci3 (n31 hN (by omega) (by omega)) (en31 _ _ _ _) (by decide) fl_X2_95 rfl dX2_undo_45 rfl (fun r45 => ?_)
  refine g_int (b := M.1 31 6 (M.1 13 0 0 c) 0) rfl ?_
  have r45x := hM 31 6 (M.1 13 0 0 c) 0
  refine g_iconst X dX2_undo_48 rfl ?_
  refine g_isub X dX2_undo_49 rfl ?_
  refine g_putI X ci3 (n31 hN (by omega) (by omega)) (en31 _ _ _ _) (ep31_6 _ _ _ _ _) (by first | omega | (simp only [setI_1, setL_1, setI_2, setL_2]; omega) | (simp only [setI_1, setL_1, setI_2, setL_2]; simp; omega)) (by decide) rfl rfl rfl (Nat.le_of_ble_eq_true rfl) fl_X2_95 dX2_undo_50 rfl ?_
  refine g_iload_n X dX2_undo_53 rfl rfl ?_
  exact g_ret Y dX2_undo_54 ⟨_, rfl⟩ ⟨rfl, rfl, rfl⟩
set_option maxRecDepth 100000 in
set_option maxHeartbeats 4000000 in
theorem c_X2_checksum {δ : Dx} {nm : List (Nat × Int)} {ad : Ad} {M : Mem} {b : Int} (hN : NmOk nm) (e0 : 0 ≤ (M.1 10 0 0 0) ∧ (M.1 10 0 0 0) ≤ 120) (rb : rng b) : Ct δ md_X2_checksum 0 0 nm ad M [.ref (ad 10 0), .int (iI b)] (pV (.long (csm M b ((M.1 10 0 0 0)).toNat)) ad M) := by
  refine Ct_of (ins := .lreturn) (ok := okL) [some (.ref (ad 10 0)), some (.int (iI b)), none, none, none] (by decide +kernel) rfl (Nat.le_of_ble_eq_true rfl) (fun κ s hs X hr hQ hδ => endL rfl hs X hr hQ hδ) (fun κ X hNL hδ Y => ?_)
  refine g_rm (fun hM => ?_)
  refine g_ldc2 X dX2_checksum_0 rfl kc_X2_109 ?_
  refine g_lstore_2 X dX2_checksum_3 rfl (lt_kN hNL rfl) rfl ?_
  refine g_iconst X dX2_checksum_4 rfl ?_
  refine g_istore_4 X dX2_checksum_5 rfl (lt_kN hNL rfl) rfl ?_
  have lp7 : ∀ (k : Int) (x : Int64) (k0 : 0 ≤ k) (k1 : k ≤ (M.1 10 0 0 0)) (hx : x = csm M b k.toNat), G κ nm ad M 7 [some (.ref (ad 10 0)), some (.int (iI b)), some (.long x), none, some (.int (iI k))] [] 0 0 := by
    refine ind2 (fun k x => (120 - k).toNat) ?_
    intro k x ih7 k0 k1 hx
    refine g_rm (fun hM7 => ?_)
    refine g_iload X dX2_checksum_7 rfl rfl ?_
    refine g_aload_n X dX2_checksum_9 rfl rfl ?_
    refine g_getI X ci2 (n10 hN) (en10 _ _ _ _) (by decide) fl_X2_29 rfl dX2_checksum_10 rfl (fun r10 => ?_)
    refine g_icmp_ge (tgt := 56) X dX2_checksum_13 rfl rfl (by omega) (by omega) (fun h13 => ?_) (fun h13 => ?_)
    · skip
      refine g_lload_n X dX2_checksum_56 rfl rfl ?_
      exact g_ret Y dX2_checksum_57 ⟨_, rfl⟩ ⟨by rw [hx, show k = (M.1 10 0 0 0) by omega], rfl, rfl⟩
    · skip
      refine g_lload_n X dX2_checksum_16 rfl rfl ?_
      refine g_iload_n X dX2_checksum_17 rfl rfl ?_
      refine g_if_eq (tgt := 34) X dX2_checksum_18 rfl rfl (by omega) (fun h18 => ?_) (fun h18 => ?_)
      · skip
        refine g_aload_n X dX2_checksum_34 rfl rfl ?_
        refine g_get X ci2 (n10 hN) (en10 _ _ _ _) (by decide) fl_X2_17 rfl dX2_checksum_35 rfl ?_
        refine g_iload X dX2_checksum_38 rfl rfl ?_
        refine g_rald X (n11 hN) (en11 _ _ _ _) (t0 := 6) rfl (by omega) (by omega) (by decide) dX2_checksum_40 rfl ?_
        refine g_get X ci3 (n31 hN (by omega) (by omega)) (en31 _ _ _ _) (by decide) fl_X2_78 rfl dX2_checksum_41 rfl ?_
        refine g_lxor X dX2_checksum_44 rfl ?_
        refine g_ldc2 X dX2_checksum_45 rfl kc_X2_111 ?_
        refine g_lmul X dX2_checksum_48 rfl ?_
        refine g_lstore_2 X dX2_checksum_49 rfl (lt_kN hNL rfl) rfl ?_
        refine g_iinc_4 X dX2_checksum_50 rfl (lt_kN hNL rfl) rfl ?_
        refine g_goto (pc' := 7) X dX2_checksum_53 rfl ?_
        exact ih7 (k + 1) _ (by omega) (by omega) (by omega) (by rw [csm_s _ _ k0, ← hx]; first | (rw [if_neg (by assumption)]; done) | (rw [if_pos (by assumption)]; done))
      · skip
        refine g_aload_n X dX2_checksum_21 rfl rfl ?_
        refine g_get X ci2 (n10 hN) (en10 _ _ _ _) (by decide) fl_X2_17 rfl dX2_checksum_22 rfl ?_
        refine g_iload X dX2_checksum_25 rfl rfl ?_
        refine g_rald X (n11 hN) (en11 _ _ _ _) (t0 := 6) rfl (by omega) (by omega) (by decide) dX2_checksum_27 rfl ?_
        refine g_get X ci3 (n31 hN (by omega) (by omega)) (en31 _ _ _ _) (by decide) fl_X2_41 rfl dX2_checksum_28 rfl ?_
        refine g_goto (pc' := 44) X dX2_checksum_31 rfl ?_
        refine g_lxor X dX2_checksum_44 rfl ?_
        refine g_ldc2 X dX2_checksum_45 rfl kc_X2_111 ?_
        refine g_lmul X dX2_checksum_48 rfl ?_
        refine g_lstore_2 X dX2_checksum_49 rfl (lt_kN hNL rfl) rfl ?_
        refine g_iinc_4 X dX2_checksum_50 rfl (lt_kN hNL rfl) rfl ?_
        refine g_goto (pc' := 7) X dX2_checksum_53 rfl ?_
        exact ih7 (k + 1) _ (by omega) (by omega) (by omega) (by rw [csm_s _ _ k0, ← hx]; first | (rw [if_neg (by assumption)]; done) | (rw [if_pos (by assumption)]; done))
  exact lp7 0 _ (by omega) (by omega) rfl
set_option maxRecDepth 100000 in
set_option maxHeartbeats 4000000 in
theorem c_X9_tintOfCodes {δ : Dx} {nm : List (Nat × Int)} {ad : Ad} {M : Mem} {f t : Int} (hN : NmOk nm) (s0 : 0 ≤ (M.1 6 0 0 0) ∧ (M.1 6 0 0 0) ≤ 100) (ht : ∀ j, 0 ≤ j → j < (M.1 6 0 0 0) → 0 ≤ (M.1 8 0 0 j) ∧ (M.1 8 0 0 j) ≤ 9) (rf : rng f) (rt : rng t) : Ct δ md_X9_tintOfCodes 0 0 nm ad M [.ref (ad 6 0), .int (iI f), .int (iI t)] (pG (.int (iI (win (vt M f t) 10))) ad (fun M' => Ex (fun k => k == 9) M M')) := by
  refine Ct_of (ins := .ireturn) (ok := okI) [some (.ref (ad 6 0)), some (.int (iI f)), some (.int (iI t)), none, none, none] (by decide +kernel) rfl (Nat.le_of_ble_eq_true rfl) (fun κ s hs X hr hQ hδ => endI rfl hs X hr hQ hδ) (fun κ X hNL hδ Y => ?_)
  refine g_rm (fun hM => ?_)
  refine g_aload_n X dX9_tintOfCodes_0 rfl rfl ?_
  refine g_get X ci9 (n6 hN) (en6 _ _ _ _) (by decide) fl_X9_18 rfl dX9_tintOfCodes_1 rfl ?_
  refine g_iconst X dX9_tintOfCodes_4 rfl ?_
  refine g_iS2_n X w_J7_fill_53178 ml_X9_25 dX9_tintOfCodes_5 rfl ⟨⟨Nat.le_of_ble_eq_true rfl, Nat.le_of_ble_eq_true rfl⟩, Nat.le_of_ble_eq_true rfl, Nat.le_of_ble_eq_true rfl⟩ (Nat.le_of_ble_eq_true rfl) (c_fill (fun ad M => en9 _ ad M _) (n9 hN) (by decide) (by decide)) ?_
  refine g_iconst X dX9_tintOfCodes_8 rfl ?_
  refine g_istore_3 X dX9_tintOfCodes_9 rfl (lt_kN hNL rfl) rfl ?_
  have lp10 : ∀ (j : Int) (M1 : Mem) (k0 : 0 ≤ j) (k1 : j ≤ (M.1 6 0 0 0)) (hE : Ex (fun k => k == 9) M M1) (hv : ∀ k, 0 ≤ k → k < 10 → (M1.1 9 0 0 k) = sm (vtT M f t k) 0 j), G κ nm ad M1 10 [some (.ref (ad 6 0)), some (.int (iI f)), some (.int (iI t)), some (.int (iI j)), none, none] [] 0 0 := by
    refine ind2 (fun j M1 => (100 - j).toNat) ?_
    intro j M1 ih10 k0 k1 hE hv
    refine g_rm (fun hM10 => ?_)
    have e1 := hE.i 6 0 0 0 rfl
    have e2 := hE.i 7 0 0 j rfl
    have e3 := hE.i 8 0 0 j rfl
    refine g_iload_n X dX9_tintOfCodes_10 rfl rfl ?_
    refine g_aload_n X dX9_tintOfCodes_11 rfl rfl ?_
    refine g_getI X ci9 (n6 hN) (en6 _ _ _ _) (by decide) fl_X9_21 rfl dX9_tintOfCodes_12 rfl (fun r12 => ?_)
    refine g_icmp_ge (tgt := 53) X dX9_tintOfCodes_15 rfl rfl (by omega) (by omega) (fun h15 => ?_) (fun h15 => ?_)
    · skip
      refine g_iconst X dX9_tintOfCodes_53 rfl ?_
      refine g_istore_3 X dX9_tintOfCodes_54 rfl (lt_kN hNL rfl) rfl ?_
      refine g_iconst X dX9_tintOfCodes_55 rfl ?_
      refine g_istore_4 X dX9_tintOfCodes_56 rfl (lt_kN hNL rfl) rfl ?_
      refine g_iconst X dX9_tintOfCodes_58 rfl ?_
      refine g_istore_5 X dX9_tintOfCodes_59 rfl (lt_kN hNL rfl) rfl ?_
      have lp61 : ∀ (u : Int) (w : Int) (b : Int) (u0 : 0 ≤ u) (u1 : u ≤ 10) (hw : w = win (vt M f t) u.toNat) (hb : b = if w < 0 then 0 else vt M f t w), G κ nm ad M1 61 [some (.ref (ad 6 0)), some (.int (iI f)), some (.int (iI t)), some (.int (iI w)), some (.int (iI b)), some (.int (iI u))] [] 0 0 := by
        refine ind3 (fun u w b => (10 - u).toNat) ?_
        intro u w b ih61 u0 u1 hw hb
        refine g_rm (fun hM61 => ?_)
        have wb := win_b (vt M f t) u.toNat
        have bb : 0 ≤ b ∧ b ≤ 100 := by
              rw [hb]; split
              · decide
              · have := sm_b1 (f := vtT M f t w) (lo := 0) (hi := (M.1 6 0 0 0)) (by omega) (fun k _ _ => bI_b _); unfold vt; omega
        refine g_iload X dX9_tintOfCodes_61 rfl rfl ?_
        refine g_bipush X dX9_tintOfCodes_63 rfl (by decide) ?_
        refine g_icmp_gt (tgt := 98) X dX9_tintOfCodes_65 rfl rfl (by omega) (by omega) (fun h65 => ?_) (fun h65 => ?_)
        · skip
          refine g_iload_n X dX9_tintOfCodes_98 rfl rfl ?_
          exact g_ret Y dX9_tintOfCodes_99 ⟨_, rfl⟩ ⟨by rw [hw, show u = 10 by omega]; rfl, rfl, hE⟩
        · skip
          have vu := hv u (by omega) (by omega)
          rw [show j = (M.1 6 0 0 0) by omega] at vu
          have vu2 : (M1.1 9 0 0 u) = vt M f t u := vu
          refine g_aload_n X dX9_tintOfCodes_68 rfl rfl ?_
          refine g_get X ci9 (n6 hN) (en6 _ _ _ _) (by decide) fl_X9_18 rfl dX9_tintOfCodes_69 rfl ?_
          refine g_iload X dX9_tintOfCodes_72 rfl rfl ?_
          refine g_iald X dX9_tintOfCodes_74 rfl (n9 hN) (en9 _ _ _ _) (t0 := 0) rfl (by omega) (by omega) (by decide) (fun r74 => ?_)
          refine g_iload X dX9_tintOfCodes_75 rfl rfl ?_
          refine g_icmp_le (tgt := 92) X dX9_tintOfCodes_77 rfl rfl (by omega) (by omega) (fun h77 => ?_) (fun h77 => ?_)
          · skip
            refine g_iinc_5 X dX9_tintOfCodes_92 rfl (lt_kN hNL rfl) rfl ?_
            refine g_goto (pc' := 61) X dX9_tintOfCodes_95 rfl ?_
            exact ih61 (u + 1) _ _ (by omega) (by omega) (by omega) (by
                      rw [show (u + 1).toNat = u.toNat + 1 by omega]; unfold win; rw [← hw, ← hb, show ((u.toNat : Nat) : Int) = u by omega]
                      first | (rw [if_pos (by omega)]; done) | (rw [if_neg (by omega)]; done)) (by first | assumption | (rw [if_neg (by omega)]; omega))
          · skip
            refine g_iload X dX9_tintOfCodes_80 rfl rfl ?_
            refine g_istore_3 X dX9_tintOfCodes_82 rfl (lt_kN hNL rfl) rfl ?_
            refine g_aload_n X dX9_tintOfCodes_83 rfl rfl ?_
            refine g_get X ci9 (n6 hN) (en6 _ _ _ _) (by decide) fl_X9_18 rfl dX9_tintOfCodes_84 rfl ?_
            refine g_iload X dX9_tintOfCodes_87 rfl rfl ?_
            refine g_iald X dX9_tintOfCodes_89 rfl (n9 hN) (en9 _ _ _ _) (t0 := 0) rfl (by omega) (by omega) (by decide) (fun r89 => ?_)
            refine g_istore_4 X dX9_tintOfCodes_90 rfl (lt_kN hNL rfl) rfl ?_
            refine g_iinc_5 X dX9_tintOfCodes_92 rfl (lt_kN hNL rfl) rfl ?_
            refine g_goto (pc' := 61) X dX9_tintOfCodes_95 rfl ?_
            exact ih61 (u + 1) _ _ (by omega) (by omega) (by omega) (by
                      rw [show (u + 1).toNat = u.toNat + 1 by omega]; unfold win; rw [← hw, ← hb, show ((u.toNat : Nat) : Int) = u by omega]
                      first | (rw [if_pos (by omega)]; done) | (rw [if_neg (by omega)]; done)) (by first | assumption | (rw [if_neg (by omega)]; omega))
      exact lp61 0 (-1) 0 (by omega) (by omega) rfl rfl
    · skip
      have q8 := ht j (by omega) (by omega)
      refine g_aload_n X dX9_tintOfCodes_18 rfl rfl ?_
      refine g_get X ci9 (n6 hN) (en6 _ _ _ _) (by decide) fl_X9_9 rfl dX9_tintOfCodes_19 rfl ?_
      refine g_iload_n X dX9_tintOfCodes_22 rfl rfl ?_
      refine g_iald X dX9_tintOfCodes_23 rfl (n7 hN) (en7 _ _ _ _) (t0 := 0) rfl (by omega) (by omega) (by decide) (fun r23 => ?_)
      refine g_iload_n X dX9_tintOfCodes_24 rfl rfl ?_
      refine g_iload_n X dX9_tintOfCodes_25 rfl rfl ?_
      refine g_iN3_v X w_X11_isWithin ml_X9_31 dX9_tintOfCodes_26 rfl ⟨⟨Nat.le_of_ble_eq_true rfl, Nat.le_of_ble_eq_true rfl⟩, Nat.le_of_ble_eq_true rfl, Nat.le_of_ble_eq_true rfl⟩ (Nat.le_of_ble_eq_true rfl) (c_X11_isWithin hN (by omega) (by omega) (by omega)) ?_
      refine g_ifB_eq (tgt := 47) X dX9_tintOfCodes_29 rfl rfl (fun h29 => ?_) (fun h29 => ?_)
      · skip
        have hq : ¬ (f ≤ (M.1 7 0 0 j) ∧ (M.1 7 0 0 j) ≤ t) := by omega
        refine g_iinc_3 X dX9_tintOfCodes_47 rfl (lt_kN hNL rfl) rfl ?_
        refine g_goto (pc' := 10) X dX9_tintOfCodes_50 rfl ?_
        exact ih10 (j + 1) _ (by omega) (by omega) (by omega) (by first | exact hE | exact hE.setI rfl) (fun k h1 h2 => by
                rw [sm_s _ k0, ← hv k h1 h2]
                first
                | (rw [show vtT M f t k j = 0 from bI_f (fun q => hq q.1)]; omega)
                | (rw [setI_1]
                   by_cases q : k = (M1.1 8 0 0 j)
                   · rw [if_pos ⟨rfl, rfl, rfl, q⟩, show vtT M f t k j = 1 from bI_t ⟨hq, by omega⟩, q]
                   · rw [if_neg (fun z => q z.2.2.2), show vtT M f t k j = 0 from bI_f (fun z => q (by omega))]; omega))
      · skip
        have hq : f ≤ (M.1 7 0 0 j) ∧ (M.1 7 0 0 j) ≤ t := by omega
        have vb := hv (M1.1 8 0 0 j) (by omega) (by omega)
        have vb2 := sm_b1 (f := vtT M f t (M1.1 8 0 0 j)) (lo := 0) (hi := j) k0 (fun k _ _ => bI_b _)
        refine g_aload_n X dX9_tintOfCodes_32 rfl rfl ?_
        refine g_get X ci9 (n6 hN) (en6 _ _ _ _) (by decide) fl_X9_18 rfl dX9_tintOfCodes_33 rfl ?_
        refine g_aload_n X dX9_tintOfCodes_36 rfl rfl ?_
        refine g_get X ci9 (n6 hN) (en6 _ _ _ _) (by decide) fl_X9_15 rfl dX9_tintOfCodes_37 rfl ?_
        refine g_iload_n X dX9_tintOfCodes_40 rfl rfl ?_
        refine g_iald X dX9_tintOfCodes_41 rfl (n8 hN) (en8 _ _ _ _) (t0 := 0) rfl (by omega) (by omega) (by decide) (fun r41 => ?_)
        refine g_dup2 X dX9_tintOfCodes_42 rfl rfl rfl ?_
        refine g_iald X dX9_tintOfCodes_43 rfl (n9 hN) (en9 _ _ _ _) (t0 := 0) rfl (by omega) (by omega) (by decide) (fun r43 => ?_)
        refine g_iconst X dX9_tintOfCodes_44 rfl ?_
        refine g_iadd X dX9_tintOfCodes_45 rfl ?_
        refine g_iast X (n9 hN) (en9 _ _ _ _) (en9 _ _ _ _) (t0 := 0) rfl (by omega) (by omega) (by decide) (by omega) dX9_tintOfCodes_46 rfl ?_
        refine g_iinc_3 X dX9_tintOfCodes_47 rfl (lt_kN hNL rfl) rfl ?_
        refine g_goto (pc' := 10) X dX9_tintOfCodes_50 rfl ?_
        exact ih10 (j + 1) _ (by omega) (by omega) (by omega) (by first | exact hE | exact hE.setI rfl) (fun k h1 h2 => by
                rw [sm_s _ k0, ← hv k h1 h2]
                first
                | (rw [show vtT M f t k j = 0 from bI_f (fun q => hq q.1)]; omega)
                | (rw [setI_1]
                   by_cases q : k = (M1.1 8 0 0 j)
                   · rw [if_pos ⟨rfl, rfl, rfl, q⟩, show vtT M f t k j = 1 from bI_t ⟨hq, by omega⟩, q]
                   · rw [if_neg (fun z => q z.2.2.2), show vtT M f t k j = 0 from bI_f (fun z => q (by omega))]; omega))
  exact lp10 0 _ (by omega) (by omega) ((Ex.rf M).fillI rfl) (fun k h1 h2 => by rw [sm_0 _ (by omega), fillI_1, if_pos ⟨rfl, rfl, rfl, h1, by omega⟩])
set_option maxRecDepth 100000 in
set_option maxHeartbeats 4000000 in
theorem c_X7_total {δ : Dx} {nm : List (Nat × Int)} {ad : Ad} {M : Mem} {x : Int64} (hN : NmOk nm) : Ct δ md_X7_total 0 0 nm ad M [.long x] (pV (.int (iI (tot x))) ad M) := by
  refine Ct_of (ins := .ireturn) (ok := okI) [some (.long x), none, none, none] (by decide +kernel) rfl (Nat.le_of_ble_eq_true rfl) (fun κ s hs X hr hQ hδ => endI rfl hs X hr hQ hδ) (fun κ X hNL hδ Y => ?_)
  refine g_rm (fun hM => ?_)
  refine g_iconst X dX7_total_0 rfl ?_
  refine g_istore_2 X dX7_total_1 rfl (lt_kN hNL rfl) rfl ?_
  refine g_iconst X dX7_total_2 rfl ?_
  refine g_istore_3 X dX7_total_3 rfl (lt_kN hNL rfl) rfl ?_
  have lp4 : ∀ (k : Int) (a : Int) (k0 : 0 ≤ k) (k1 : k ≤ 8) (ha : a = sm (pt x) 0 k), G κ nm ad M 4 [some (.long x), none, some (.int (iI a)), some (.int (iI k))] [] 0 0 := by
    refine ind2 (fun k a => (8 - k).toNat) ?_
    intro k a ih4 k0 k1 ha
    refine g_rm (fun hM4 => ?_)
    have pb := sm_b (f := pt x) (lo := 0) (hi := k) (c := 255) (by omega) (fun k _ _ => pt_b x k)
    have ps := sm_s (pt x) (lo := 0) (hi := k) (by omega)
    have px := pt_b x k
    refine g_iload_n X dX7_total_4 rfl rfl ?_
    refine g_bipush X dX7_total_5 rfl (by decide) ?_
    refine g_icmp_ge (tgt := 24) X dX7_total_7 rfl rfl (by omega) (by omega) (fun h7 => ?_) (fun h7 => ?_)
    · skip
      refine g_iload_n X dX7_total_24 rfl rfl ?_
      exact g_ret Y dX7_total_25 ⟨_, rfl⟩ (pVI (by have e : k = 8 := (by omega); subst e; exact ha))
    · skip
      refine g_iload_n X dX7_total_10 rfl rfl ?_
      refine g_lload_n X dX7_total_11 rfl rfl ?_
      refine g_iload_n X dX7_total_12 rfl rfl ?_
      refine g_iS2_v X w_X7_at ml_X7_13 dX7_total_13 rfl ⟨⟨Nat.le_of_ble_eq_true rfl, Nat.le_of_ble_eq_true rfl⟩, Nat.le_of_ble_eq_true rfl, Nat.le_of_ble_eq_true rfl⟩ (Nat.le_of_ble_eq_true rfl) (c_X7_at hN) ?_
      refine g_iadd X dX7_total_16 rfl ?_
      refine g_istore_2 X dX7_total_17 rfl (lt_kN hNL rfl) rfl ?_
      refine g_iinc_3 X dX7_total_18 rfl (lt_kN hNL rfl) rfl ?_
      refine g_goto (pc' := 4) X dX7_total_21 rfl ?_
      exact ih4 (k + 1) _ (by omega) (by omega) (by omega) (by rw [ps, ha])
  exact lp4 0 0 (by omega) (by omega) (sm_0 _ (by omega)).symm
set_option maxRecDepth 100000 in
set_option maxHeartbeats 4000000 in
theorem c_X7_unlike {δ : Dx} {nm : List (Nat × Int)} {ad : Ad} {M : Mem} {x y : Int64} (hN : NmOk nm) : Ct δ md_X7_unlike 0 0 nm ad M [.long x, .long y] (pV (.int (iI (unl x y))) ad M) := by
  refine Ct_of (ins := .ireturn) (ok := okI) [some (.long x), none, some (.long y), none, none, none] (by decide +kernel) rfl (Nat.le_of_ble_eq_true rfl) (fun κ s hs X hr hQ hδ => endI rfl hs X hr hQ hδ) (fun κ X hNL hδ Y => ?_)
  refine g_rm (fun hM => ?_)
  refine g_iconst X dX7_unlike_0 rfl ?_
  refine g_istore_4 X dX7_unlike_1 rfl (lt_kN hNL rfl) rfl ?_
  refine g_iconst X dX7_unlike_3 rfl ?_
  refine g_istore_5 X dX7_unlike_4 rfl (lt_kN hNL rfl) rfl ?_
  have lp6 : ∀ (k : Int) (a : Int) (k0 : 0 ≤ k) (k1 : k ≤ 8) (ha : a = sm (uterm x y) 0 k), G κ nm ad M 6 [some (.long x), none, some (.long y), none, some (.int (iI a)), some (.int (iI k))] [] 0 0 := by
    refine ind2 (fun k a => (8 - k).toNat) ?_
    intro k a ih6 k0 k1 ha
    refine g_rm (fun hM6 => ?_)
    have pb := sm_b (f := uterm x y) (lo := 0) (hi := k) (c := 1) (by omega) (fun k _ _ => bI_b _)
    have ps := sm_s (uterm x y) (lo := 0) (hi := k) (by omega)
    have px := pt_b x k
    have py := pt_b y k
    refine g_iload X dX7_unlike_6 rfl rfl ?_
    refine g_bipush X dX7_unlike_8 rfl (by decide) ?_
    refine g_icmp_ge (tgt := 37) X dX7_unlike_10 rfl rfl (by omega) (by omega) (fun h10 => ?_) (fun h10 => ?_)
    · skip
      refine g_iload X dX7_unlike_37 rfl rfl ?_
      exact g_ret Y dX7_unlike_39 ⟨_, rfl⟩ (pVI (by have e : k = 8 := (by omega); subst e; exact ha))
    · skip
      refine g_lload_n X dX7_unlike_13 rfl rfl ?_
      refine g_iload X dX7_unlike_14 rfl rfl ?_
      refine g_iS2_v X w_X7_at ml_X7_13 dX7_unlike_16 rfl ⟨⟨Nat.le_of_ble_eq_true rfl, Nat.le_of_ble_eq_true rfl⟩, Nat.le_of_ble_eq_true rfl, Nat.le_of_ble_eq_true rfl⟩ (Nat.le_of_ble_eq_true rfl) (c_X7_at hN) ?_
      refine g_lload_n X dX7_unlike_19 rfl rfl ?_
      refine g_iload X dX7_unlike_20 rfl rfl ?_
      refine g_iS2_v X w_X7_at ml_X7_13 dX7_unlike_22 rfl ⟨⟨Nat.le_of_ble_eq_true rfl, Nat.le_of_ble_eq_true rfl⟩, Nat.le_of_ble_eq_true rfl, Nat.le_of_ble_eq_true rfl⟩ (Nat.le_of_ble_eq_true rfl) (c_X7_at hN) ?_
      refine g_icmp_eq (tgt := 31) X dX7_unlike_25 rfl rfl (by omega) (by omega) (fun h25 => ?_) (fun h25 => ?_)
      · skip
        refine g_iinc_5 X dX7_unlike_31 rfl (lt_kN hNL rfl) rfl ?_
        refine g_goto (pc' := 6) X dX7_unlike_34 rfl ?_
        exact ih6 (k + 1) _ (by omega) (by omega) (by omega) (by rw [ps, ha]; unfold uterm; first | (rw [bI_t (by omega)]; first | done | omega) | (rw [bI_f (by omega)]; first | done | omega))
      · skip
        refine g_iinc_4 X dX7_unlike_28 rfl (lt_kN hNL rfl) rfl ?_
        refine g_iinc_5 X dX7_unlike_31 rfl (lt_kN hNL rfl) rfl ?_
        refine g_goto (pc' := 6) X dX7_unlike_34 rfl ?_
        exact ih6 (k + 1) _ (by omega) (by omega) (by omega) (by rw [ps, ha]; unfold uterm; first | (rw [bI_t (by omega)]; first | done | omega) | (rw [bI_f (by omega)]; first | done | omega))
  exact lp6 0 0 (by omega) (by omega) (sm_0 _ (by omega)).symm
set_option maxRecDepth 100000 in
set_option maxHeartbeats 4000000 in
theorem c_X12_sumOf {δ : Dx} {nm : List (Nat × Int)} {ad : Ad} {M : Mem} {x : Int64} (hN : NmOk nm) : Ct δ md_X12_sumOf 0 0 nm ad M [.ref (ad 40 0), .long x] (pV (.int (iI (tot x))) ad M) := by
  refine Ct_of (ins := .ireturn) (ok := okI) [some (.ref (ad 40 0)), some (.long x), none, none, none] (by decide +kernel) rfl (Nat.le_of_ble_eq_true rfl) (fun κ s hs X hr hQ hδ => endI rfl hs X hr hQ hδ) (fun κ X hNL hδ Y => ?_)
  refine g_rm (fun hM => ?_)
  refine g_iconst X dX12_sumOf_0 rfl ?_
  refine g_istore_3 X dX12_sumOf_1 rfl (lt_kN hNL rfl) rfl ?_
  refine g_iconst X dX12_sumOf_2 rfl ?_
  refine g_istore_4 X dX12_sumOf_3 rfl (lt_kN hNL rfl) rfl ?_
  have lp5 : ∀ (k : Int) (a : Int) (k0 : 0 ≤ k) (k1 : k ≤ 8) (ha : a = sm (pt x) 0 k), G κ nm ad M 5 [some (.ref (ad 40 0)), some (.long x), none, some (.int (iI a)), some (.int (iI k))] [] 0 0 := by
    refine ind2 (fun k a => (8 - k).toNat) ?_
    intro k a ih5 k0 k1 ha
    refine g_rm (fun hM5 => ?_)
    have pb := sm_b (f := pt x) (lo := 0) (hi := k) (c := 255) (by omega) (fun k _ _ => pt_b x k)
    have ps := sm_s (pt x) (lo := 0) (hi := k) (by omega)
    have px := pt_b x k
    refine g_iload X dX12_sumOf_5 rfl rfl ?_
    refine g_bipush X dX12_sumOf_7 rfl (by decide) ?_
    refine g_icmp_ge (tgt := 28) X dX12_sumOf_9 rfl rfl (by omega) (by omega) (fun h9 => ?_) (fun h9 => ?_)
    · skip
      refine g_iload_n X dX12_sumOf_28 rfl rfl ?_
      exact g_ret Y dX12_sumOf_29 ⟨_, rfl⟩ (pVI (by have e : k = 8 := (by omega); subst e; exact ha))
    · skip
      refine g_iload_n X dX12_sumOf_12 rfl rfl ?_
      refine g_aload_n X dX12_sumOf_13 rfl rfl ?_
      refine g_lload_n X dX12_sumOf_14 rfl rfl ?_
      refine g_iload X dX12_sumOf_15 rfl rfl ?_
      refine g_iV2_v X w_X12_point ml_X12_150 dX12_sumOf_17 rfl (n40 hN) (en40 _ _ _ _) ⟨⟨Nat.le_of_ble_eq_true rfl, Nat.le_of_ble_eq_true rfl⟩, Nat.le_of_ble_eq_true rfl, Nat.le_of_ble_eq_true rfl⟩ (Nat.le_of_ble_eq_true rfl) (c_X12_point hN) ?_
      refine g_iadd X dX12_sumOf_20 rfl ?_
      refine g_istore_3 X dX12_sumOf_21 rfl (lt_kN hNL rfl) rfl ?_
      refine g_iinc_4 X dX12_sumOf_22 rfl (lt_kN hNL rfl) rfl ?_
      refine g_goto (pc' := 5) X dX12_sumOf_25 rfl ?_
      exact ih5 (k + 1) _ (by omega) (by omega) (by omega) (by rw [ps, ha])
  exact lp5 0 0 (by omega) (by omega) (sm_0 _ (by omega)).symm
set_option maxRecDepth 100000 in
set_option maxHeartbeats 4000000 in
theorem c_X12_unlike {δ : Dx} {nm : List (Nat × Int)} {ad : Ad} {M : Mem} {x y : Int64} (hN : NmOk nm) : Ct δ md_X12_unlike 0 0 nm ad M [.ref (ad 40 0), .long x, .long y] (pV (.int (iI (unl x y))) ad M) := by
  refine Ct_of (ins := .ireturn) (ok := okI) [some (.ref (ad 40 0)), some (.long x), none, some (.long y), none, none, none] (by decide +kernel) rfl (Nat.le_of_ble_eq_true rfl) (fun κ s hs X hr hQ hδ => endI rfl hs X hr hQ hδ) (fun κ X hNL hδ Y => ?_)
  refine g_rm (fun hM => ?_)
  refine g_iconst X dX12_unlike_0 rfl ?_
  refine g_istore_5 X dX12_unlike_1 rfl (lt_kN hNL rfl) rfl ?_
  refine g_iconst X dX12_unlike_3 rfl ?_
  refine g_istore_6 X dX12_unlike_4 rfl (lt_kN hNL rfl) rfl ?_
  have lp6 : ∀ (k : Int) (a : Int) (k0 : 0 ≤ k) (k1 : k ≤ 8) (ha : a = sm (uterm x y) 0 k), G κ nm ad M 6 [some (.ref (ad 40 0)), some (.long x), none, some (.long y), none, some (.int (iI a)), some (.int (iI k))] [] 0 0 := by
    refine ind2 (fun k a => (8 - k).toNat) ?_
    intro k a ih6 k0 k1 ha
    refine g_rm (fun hM6 => ?_)
    have pb := sm_b (f := uterm x y) (lo := 0) (hi := k) (c := 1) (by omega) (fun k _ _ => bI_b _)
    have ps := sm_s (uterm x y) (lo := 0) (hi := k) (by omega)
    have px := pt_b x k
    have py := pt_b y k
    refine g_iload X dX12_unlike_6 rfl rfl ?_
    refine g_bipush X dX12_unlike_8 rfl (by decide) ?_
    refine g_icmp_ge (tgt := 46) X dX12_unlike_10 rfl rfl (by omega) (by omega) (fun h10 => ?_) (fun h10 => ?_)
    · skip
      refine g_iload X dX12_unlike_46 rfl rfl ?_
      exact g_ret Y dX12_unlike_48 ⟨_, rfl⟩ (pVI (by have e : k = 8 := (by omega); subst e; exact ha))
    · skip
      refine g_iload X dX12_unlike_13 rfl rfl ?_
      refine g_aload_n X dX12_unlike_15 rfl rfl ?_
      refine g_lload_n X dX12_unlike_16 rfl rfl ?_
      refine g_iload X dX12_unlike_17 rfl rfl ?_
      refine g_iV2_v X w_X12_point ml_X12_150 dX12_unlike_19 rfl (n40 hN) (en40 _ _ _ _) ⟨⟨Nat.le_of_ble_eq_true rfl, Nat.le_of_ble_eq_true rfl⟩, Nat.le_of_ble_eq_true rfl, Nat.le_of_ble_eq_true rfl⟩ (Nat.le_of_ble_eq_true rfl) (c_X12_point hN) ?_
      refine g_aload_n X dX12_unlike_22 rfl rfl ?_
      refine g_lload_n X dX12_unlike_23 rfl rfl ?_
      refine g_iload X dX12_unlike_24 rfl rfl ?_
      refine g_iV2_v X w_X12_point ml_X12_150 dX12_unlike_26 rfl (n40 hN) (en40 _ _ _ _) ⟨⟨Nat.le_of_ble_eq_true rfl, Nat.le_of_ble_eq_true rfl⟩, Nat.le_of_ble_eq_true rfl, Nat.le_of_ble_eq_true rfl⟩ (Nat.le_of_ble_eq_true rfl) (c_X12_point hN) ?_
      refine g_icmp_eq (tgt := 36) X dX12_unlike_29 rfl rfl (by omega) (by omega) (fun h29 => ?_) (fun h29 => ?_)
      · skip
        refine g_iconst X dX12_unlike_36 rfl ?_
        refine g_iadd X dX12_unlike_37 rfl ?_
        refine g_istore_5 X dX12_unlike_38 rfl (lt_kN hNL rfl) rfl ?_
        refine g_iinc_6 X dX12_unlike_40 rfl (lt_kN hNL rfl) rfl ?_
        refine g_goto (pc' := 6) X dX12_unlike_43 rfl ?_
        exact ih6 (k + 1) _ (by omega) (by omega) (by omega) (by rw [ps, ha]; unfold uterm; first | (rw [bI_t (by omega)]; first | done | omega) | (rw [bI_f (by omega)]; first | done | omega))
      · skip
        refine g_iconst X dX12_unlike_32 rfl ?_
        refine g_goto (pc' := 37) X dX12_unlike_33 rfl ?_
        refine g_iadd X dX12_unlike_37 rfl ?_
        refine g_istore_5 X dX12_unlike_38 rfl (lt_kN hNL rfl) rfl ?_
        refine g_iinc_6 X dX12_unlike_40 rfl (lt_kN hNL rfl) rfl ?_
        refine g_goto (pc' := 6) X dX12_unlike_43 rfl ?_
        exact ih6 (k + 1) _ (by omega) (by omega) (by omega) (by rw [ps, ha]; unfold uterm; first | (rw [bI_t (by omega)]; first | done | omega) | (rw [bI_f (by omega)]; first | done | omega))
  exact lp6 0 0 (by omega) (by omega) (sm_0 _ (by omega)).symm
set_option maxRecDepth 100000 in
set_option maxHeartbeats 4000000 in
theorem c_X1_isDirty {δ : Dx} {nm : List (Nat × Int)} {ad : Ad} {M : Mem} {a h b : Int} (hN : NmOk nm) (h95 : (95, 0) ∈ nm) (a0 : 0 ≤ a ∧ a ≤ 255) (b0 : 0 ≤ h ∧ h ≤ 255) (d0 : 0 ≤ b ∧ b ≤ 255) : Ct δ md_X1_isDirty 0 0 nm ad M [.ref (ad 95 0), .int (iI a), .int (iI h), .int (iI b)] (pV (.int (iI (bI (drtP (M.1 95 0 0 0) a h b)))) ad M) := by
  refine Ct_of (ins := .ireturn) (ok := okZ) [some (.ref (ad 95 0)), some (.int (iI a)), some (.int (iI h)), some (.int (iI b))] (by decide +kernel) rfl (Nat.le_of_ble_eq_true rfl) (fun κ s hs X hr hQ hδ => endZ rfl hs X hr hQ hδ) (fun κ X hNL hδ Y => ?_)
  refine g_rm (fun hM => ?_)
  refine g_iload_n X dX1_isDirty_0 rfl rfl ?_
  refine g_iload_n X dX1_isDirty_1 rfl rfl ?_
  refine g_isub X dX1_isDirty_2 rfl ?_
  refine g_mabs X wm_abs ml_X1_29 dX1_isDirty_3 rfl ⟨Nat.le_of_ble_eq_true rfl, Nat.le_of_ble_eq_true rfl, Nat.le_of_ble_eq_true rfl⟩ (Nat.le_of_ble_eq_true rfl) (by omega) ?_
  refine g_aload_n X dX1_isDirty_6 rfl rfl ?_
  refine g_getI X ci1 h95 (en95 _ _ _ _) (by decide) fl_X1_9 rfl dX1_isDirty_7 rfl (fun r7 => ?_)
  refine g_icmp_le (tgt := 43) X dX1_isDirty_10 rfl rfl (by omega) (by omega) (fun h10 => ?_) (fun h10 => ?_)
  · skip
    refine g_iconst X dX1_isDirty_43 rfl ?_
    exact g_ret Y dX1_isDirty_44 okZ0 (pVf (by unfold drtP absI; omega))
  · skip
    refine g_iload_n X dX1_isDirty_13 rfl rfl ?_
    refine g_iload_n X dX1_isDirty_14 rfl rfl ?_
    refine g_isub X dX1_isDirty_15 rfl ?_
    refine g_mabs X wm_abs ml_X1_29 dX1_isDirty_16 rfl ⟨Nat.le_of_ble_eq_true rfl, Nat.le_of_ble_eq_true rfl, Nat.le_of_ble_eq_true rfl⟩ (Nat.le_of_ble_eq_true rfl) (by omega) ?_
    refine g_aload_n X dX1_isDirty_19 rfl rfl ?_
    refine g_getI X ci1 h95 (en95 _ _ _ _) (by decide) fl_X1_9 rfl dX1_isDirty_20 rfl (fun r20 => ?_)
    refine g_icmp_le (tgt := 43) X dX1_isDirty_23 rfl rfl (by omega) (by omega) (fun h23 => ?_) (fun h23 => ?_)
    · skip
      refine g_iconst X dX1_isDirty_43 rfl ?_
      exact g_ret Y dX1_isDirty_44 okZ0 (pVf (by unfold drtP absI; omega))
    · skip
      refine g_iload_n X dX1_isDirty_26 rfl rfl ?_
      refine g_iload_n X dX1_isDirty_27 rfl rfl ?_
      refine g_isub X dX1_isDirty_28 rfl ?_
      refine g_mabs X wm_abs ml_X1_29 dX1_isDirty_29 rfl ⟨Nat.le_of_ble_eq_true rfl, Nat.le_of_ble_eq_true rfl, Nat.le_of_ble_eq_true rfl⟩ (Nat.le_of_ble_eq_true rfl) (by omega) ?_
      refine g_aload_n X dX1_isDirty_32 rfl rfl ?_
      refine g_getI X ci1 h95 (en95 _ _ _ _) (by decide) fl_X1_9 rfl dX1_isDirty_33 rfl (fun r33 => ?_)
      refine g_icmp_gt (tgt := 43) X dX1_isDirty_36 rfl rfl (by omega) (by omega) (fun h36 => ?_) (fun h36 => ?_)
      · skip
        refine g_iconst X dX1_isDirty_43 rfl ?_
        exact g_ret Y dX1_isDirty_44 okZ0 (pVf (by unfold drtP absI; omega))
      · skip
        refine g_iconst X dX1_isDirty_39 rfl ?_
        refine g_goto (pc' := 44) X dX1_isDirty_40 rfl ?_
        exact g_ret Y dX1_isDirty_44 okZ1 (pVt (by unfold drtP absI; omega))
set_option maxRecDepth 100000 in
set_option maxHeartbeats 4000000 in
theorem c_X1_mended {δ : Dx} {nm : List (Nat × Int)} {ad : Ad} {M : Mem} {a h b : Int64} (hN : NmOk nm) (h95 : (95, 0) ∈ nm) : Ct δ md_X1_mended 0 0 nm ad M [.ref (ad 95 0), .long a, .long h, .long b] (pV (.long (mdD (M.1 95 0 0 0) a h b 8)) ad M) := by
  refine Ct_of (ins := .lreturn) (ok := okL) [some (.ref (ad 95 0)), some (.long a), none, some (.long h), none, some (.long b), none, none, none, none, none, none] (by decide +kernel) rfl (Nat.le_of_ble_eq_true rfl) (fun κ s hs X hr hQ hδ => endL rfl hs X hr hQ hδ) (fun κ X hNL hδ Y => ?_)
  refine g_rm (fun hM => ?_)
  refine g_lload_n X dX1_mended_0 rfl rfl ?_
  refine g_lstore_7 X dX1_mended_1 rfl (lt_kN hNL rfl) rfl ?_
  refine g_iconst X dX1_mended_3 rfl ?_
  refine g_istore_9 X dX1_mended_4 rfl (lt_kN hNL rfl) rfl ?_
  have lp6 : ∀ (k : Int) (m : Int64) (k0 : 0 ≤ k) (k1 : k ≤ 8) (hm : m = mdD (M.1 95 0 0 0) a h b k.toNat), G κ nm ad M 6 [some (.ref (ad 95 0)), some (.long a), none, some (.long h), none, some (.long b), none, some (.long m), none, some (.int (iI k)), none, none] [] 0 0 := by
    refine ind2 (fun k m => (8 - k).toNat) ?_
    intro k m ih6 k0 k1 hm
    refine g_rm (fun hM6 => ?_)
    have b1 := pt_b a k
    have b2 := pt_b h k
    have b3 := pt_b b k
    refine g_iload X dX1_mended_6 rfl rfl ?_
    refine g_bipush X dX1_mended_8 rfl (by decide) ?_
    refine g_icmp_ge (tgt := 69) X dX1_mended_10 rfl rfl (by omega) (by omega) (fun h10 => ?_) (fun h10 => ?_)
    · skip
      refine g_lload X dX1_mended_69 rfl rfl ?_
      exact g_ret Y dX1_mended_71 ⟨_, rfl⟩ ⟨by rw [hm, show k = 8 by omega]; rfl, rfl, rfl⟩
    · skip
      refine g_lload_n X dX1_mended_13 rfl rfl ?_
      refine g_iload X dX1_mended_14 rfl rfl ?_
      refine g_iS2_v X w_X7_at ml_X1_15 dX1_mended_16 rfl ⟨⟨Nat.le_of_ble_eq_true rfl, Nat.le_of_ble_eq_true rfl⟩, Nat.le_of_ble_eq_true rfl, Nat.le_of_ble_eq_true rfl⟩ (Nat.le_of_ble_eq_true rfl) (c_X7_at hN) ?_
      refine g_istore_10 X dX1_mended_19 rfl (lt_kN hNL rfl) rfl ?_
      refine g_lload X dX1_mended_21 rfl rfl ?_
      refine g_iload X dX1_mended_23 rfl rfl ?_
      refine g_iS2_v X w_X7_at ml_X1_15 dX1_mended_25 rfl ⟨⟨Nat.le_of_ble_eq_true rfl, Nat.le_of_ble_eq_true rfl⟩, Nat.le_of_ble_eq_true rfl, Nat.le_of_ble_eq_true rfl⟩ (Nat.le_of_ble_eq_true rfl) (c_X7_at hN) ?_
      refine g_istore_11 X dX1_mended_28 rfl (lt_kN hNL rfl) rfl ?_
      refine g_aload_n X dX1_mended_30 rfl rfl ?_
      refine g_iload X dX1_mended_31 rfl rfl ?_
      refine g_lload_n X dX1_mended_33 rfl rfl ?_
      refine g_iload X dX1_mended_34 rfl rfl ?_
      refine g_iS2_v X w_X7_at ml_X1_15 dX1_mended_36 rfl ⟨⟨Nat.le_of_ble_eq_true rfl, Nat.le_of_ble_eq_true rfl⟩, Nat.le_of_ble_eq_true rfl, Nat.le_of_ble_eq_true rfl⟩ (Nat.le_of_ble_eq_true rfl) (c_X7_at hN) ?_
      refine g_iload X dX1_mended_39 rfl rfl ?_
      refine g_iV3_v X w_X1_isDirty ml_X1_21 dX1_mended_41 rfl h95 (en95 _ _ _ _) ⟨⟨Nat.le_of_ble_eq_true rfl, Nat.le_of_ble_eq_true rfl⟩, Nat.le_of_ble_eq_true rfl, Nat.le_of_ble_eq_true rfl⟩ (Nat.le_of_ble_eq_true rfl) (c_X1_isDirty hN h95 (by omega) (by omega) (by omega)) ?_
      refine g_ifB_eq (tgt := 63) X dX1_mended_44 rfl rfl (fun h44 => ?_) (fun h44 => ?_)
      · skip
        refine g_iinc_9 X dX1_mended_63 rfl (lt_kN hNL rfl) rfl ?_
        refine g_goto (pc' := 6) X dX1_mended_66 rfl ?_
        refine g_drop_10 ?_
        refine g_drop_11 ?_
        exact ih6 (k + 1) _ (by omega) (by omega) (by omega) (by rw [mdD_s _ _ _ _ k0, ← hm]; first | (rw [cif_t (by assumption)]; done) | (rw [cif_f (by assumption)]; done))
      · skip
        refine g_lload X dX1_mended_47 rfl rfl ?_
        refine g_iload X dX1_mended_49 rfl rfl ?_
        refine g_iload X dX1_mended_51 rfl rfl ?_
        refine g_iload X dX1_mended_53 rfl rfl ?_
        refine g_iadd X dX1_mended_55 rfl ?_
        refine g_iconst X dX1_mended_56 rfl ?_
        refine g_idiv X dX1_mended_57 rfl (by omega) (by omega) (by omega) (by omega) ?_
        refine g_iS3_v X w_X7_with ml_X1_25 dX1_mended_58 rfl ⟨⟨Nat.le_of_ble_eq_true rfl, Nat.le_of_ble_eq_true rfl⟩, Nat.le_of_ble_eq_true rfl, Nat.le_of_ble_eq_true rfl⟩ (Nat.le_of_ble_eq_true rfl) (c_X7_with hN) ?_
        refine g_lstore_7 X dX1_mended_61 rfl (lt_kN hNL rfl) rfl ?_
        refine g_iinc_9 X dX1_mended_63 rfl (lt_kN hNL rfl) rfl ?_
        refine g_goto (pc' := 6) X dX1_mended_66 rfl ?_
        refine g_drop_10 ?_
        refine g_drop_11 ?_
        exact ih6 (k + 1) _ (by omega) (by omega) (by omega) (by rw [mdD_s _ _ _ _ k0, ← hm]; first | (rw [cif_t (by assumption)]; done) | (rw [cif_f (by assumption)]; done))
  exact lp6 0 _ (by omega) (by omega) rfl
set_option maxRecDepth 100000 in
set_option maxHeartbeats 4000000 in
theorem c_X4_mended {δ : Dx} {nm : List (Nat × Int)} {ad : Ad} {M : Mem} {a h b : Int64} (hN : NmOk nm) : Ct δ md_X4_mended 0 0 nm ad M [.ref (ad 96 0), .long a, .long h, .long b] (pV (.long (mfF (flk a h b) h 8)) ad M) := by
  refine Ct_of (ins := .lreturn) (ok := okL) [some (.ref (ad 96 0)), some (.long a), none, some (.long h), none, some (.long b), none, none, none, none, none, none, none] (by decide +kernel) rfl (Nat.le_of_ble_eq_true rfl) (fun κ s hs X hr hQ hδ => endL rfl hs X hr hQ hδ) (fun κ X hNL hδ Y => ?_)
  refine g_rm (fun hM => ?_)
  have t1 := tot_b a
  have t2 := tot_b h
  have t3 := tot_b b
  have t4 := tdiv_b (a := tot a + tot b) (b := 2) (by omega) (by decide)
  have fb := flk_b a h b
  refine g_lload_n X dX4_mended_0 rfl rfl ?_
  refine g_iS1_v X w_X7_total ml_X4_9 dX4_mended_1 rfl ⟨⟨Nat.le_of_ble_eq_true rfl, Nat.le_of_ble_eq_true rfl⟩, Nat.le_of_ble_eq_true rfl, Nat.le_of_ble_eq_true rfl⟩ (Nat.le_of_ble_eq_true rfl) (c_X7_total hN) ?_
  refine g_lload X dX4_mended_4 rfl rfl ?_
  refine g_iS1_v X w_X7_total ml_X4_9 dX4_mended_6 rfl ⟨⟨Nat.le_of_ble_eq_true rfl, Nat.le_of_ble_eq_true rfl⟩, Nat.le_of_ble_eq_true rfl, Nat.le_of_ble_eq_true rfl⟩ (Nat.le_of_ble_eq_true rfl) (c_X7_total hN) ?_
  refine g_iadd X dX4_mended_9 rfl ?_
  refine g_iconst X dX4_mended_10 rfl ?_
  refine g_idiv X dX4_mended_11 rfl (by omega) (by omega) (by omega) (by omega) ?_
  refine g_istore_7 X dX4_mended_12 rfl (lt_kN hNL rfl) rfl ?_
  refine g_iload X dX4_mended_14 rfl rfl ?_
  refine g_lload_n X dX4_mended_16 rfl rfl ?_
  refine g_iS1_v X w_X7_total ml_X4_9 dX4_mended_17 rfl ⟨⟨Nat.le_of_ble_eq_true rfl, Nat.le_of_ble_eq_true rfl⟩, Nat.le_of_ble_eq_true rfl, Nat.le_of_ble_eq_true rfl⟩ (Nat.le_of_ble_eq_true rfl) (c_X7_total hN) ?_
  refine g_isub X dX4_mended_20 rfl ?_
  refine g_bipush X dX4_mended_21 rfl (by decide) ?_
  refine g_idiv X dX4_mended_23 rfl (by omega) (by omega) (by omega) (by omega) ?_
  refine g_istore_8 X dX4_mended_24 rfl (lt_kN hNL rfl) rfl ?_
  refine g_lload_n X dX4_mended_26 rfl rfl ?_
  refine g_lstore_9 X dX4_mended_27 rfl (lt_kN hNL rfl) rfl ?_
  refine g_iconst X dX4_mended_29 rfl ?_
  refine g_istore_11 X dX4_mended_30 rfl (lt_kN hNL rfl) rfl ?_
  refine g_drop_7 ?_
  have lp32 : ∀ (k : Int) (m : Int64) (k0 : 0 ≤ k) (k1 : k ≤ 8) (hm : m = mfF (flk a h b) h k.toNat), G κ nm ad M 32 [some (.ref (ad 96 0)), some (.long a), none, some (.long h), none, some (.long b), none, none, some (.int (iI (flk a h b))), some (.long m), none, some (.int (iI k)), none] [] 0 0 := by
    refine ind2 (fun k m => (8 - k).toNat) ?_
    intro k m ih32 k0 k1 hm
    refine g_rm (fun hM32 => ?_)
    have b2 := pt_b h k
    refine g_iload X dX4_mended_32 rfl rfl ?_
    refine g_bipush X dX4_mended_34 rfl (by decide) ?_
    refine g_icmp_ge (tgt := 77) X dX4_mended_36 rfl rfl (by omega) (by omega) (fun h36 => ?_) (fun h36 => ?_)
    · skip
      refine g_lload X dX4_mended_77 rfl rfl ?_
      exact g_ret Y dX4_mended_79 ⟨_, rfl⟩ ⟨by rw [hm, show k = 8 by omega]; rfl, rfl, rfl⟩
    · skip
      refine g_iconst X dX4_mended_39 rfl ?_
      refine g_sipush X dX4_mended_40 rfl (by decide) ?_
      refine g_lload_n X dX4_mended_43 rfl rfl ?_
      refine g_iload X dX4_mended_44 rfl rfl ?_
      refine g_iS2_v X w_X7_at ml_X4_15 dX4_mended_46 rfl ⟨⟨Nat.le_of_ble_eq_true rfl, Nat.le_of_ble_eq_true rfl⟩, Nat.le_of_ble_eq_true rfl, Nat.le_of_ble_eq_true rfl⟩ (Nat.le_of_ble_eq_true rfl) (c_X7_at hN) ?_
      refine g_iload X dX4_mended_49 rfl rfl ?_
      refine g_iadd X dX4_mended_51 rfl ?_
      refine g_mmin X wm_min ml_X4_19 dX4_mended_52 rfl ⟨Nat.le_of_ble_eq_true rfl, Nat.le_of_ble_eq_true rfl, Nat.le_of_ble_eq_true rfl⟩ (Nat.le_of_ble_eq_true rfl) (by omega) (by omega) ?_
      refine g_mmax X wm_max ml_X4_25 dX4_mended_55 rfl ⟨Nat.le_of_ble_eq_true rfl, Nat.le_of_ble_eq_true rfl, Nat.le_of_ble_eq_true rfl⟩ (Nat.le_of_ble_eq_true rfl) (by omega) (by omega) ?_
      refine g_istore_12 X dX4_mended_58 rfl (lt_kN hNL rfl) rfl ?_
      refine g_lload X dX4_mended_60 rfl rfl ?_
      refine g_iload X dX4_mended_62 rfl rfl ?_
      refine g_iload X dX4_mended_64 rfl rfl ?_
      refine g_iS3_v X w_X7_with ml_X4_28 dX4_mended_66 rfl ⟨⟨Nat.le_of_ble_eq_true rfl, Nat.le_of_ble_eq_true rfl⟩, Nat.le_of_ble_eq_true rfl, Nat.le_of_ble_eq_true rfl⟩ (Nat.le_of_ble_eq_true rfl) (c_X7_with hN) ?_
      refine g_lstore_9 X dX4_mended_69 rfl (lt_kN hNL rfl) rfl ?_
      refine g_iinc_11 X dX4_mended_71 rfl (lt_kN hNL rfl) rfl ?_
      refine g_goto (pc' := 32) X dX4_mended_74 rfl ?_
      refine g_drop_12 ?_
      exact ih32 (k + 1) _ (by omega) (by omega) (by omega) (by rw [mfF_s _ _ k0, ← hm]; exact congrArg (ptSet m k) (by unfold cl255; omega))
  exact lp32 0 _ (by omega) (by omega) rfl
set_option maxRecDepth 100000 in
set_option maxHeartbeats 4000000 in
theorem c_X8_begin {δ : Dx} {nm : List (Nat × Int)} {ad : Ad} {M : Mem} {i b y l g d : Int} (hN : NmOk nm) (i0 : 0 ≤ i) (i1 : i < 12) (rb : rng b) (ry : rng y) (rl : rng l) (rg : rng g) (rd : rng d) : Ct δ md_X8_begin 0 0 nm ad M [.ref (ad 16 i), .int (iI b), .int (iI y), .int (iI l), .int (iI g), .int (iI d)] (pN ad (beginR M i b y l g d)) := by
  refine Ct_of (ins := .return_) (ok := okN) [some (.ref (ad 16 i)), some (.int (iI b)), some (.int (iI y)), some (.int (iI l)), some (.int (iI g)), some (.int (iI d))] (by decide +kernel) rfl (Nat.le_of_ble_eq_true rfl) (fun κ s hs X hr hQ hδ => endN rfl hs X hr hQ hδ) (fun κ X hNL hδ Y => ?_)
  refine g_rm (fun hM => ?_)
  refine g_aload_n X dX8_begin_0 rfl rfl ?_
  refine g_iload_n X dX8_begin_1 rfl rfl ?_
  refine g_putI X ci8 (n16 hN (by omega) (by omega)) (en16 _ _ _ _) (ep16_0 _ _ _ _ _) (by omega) (by decide) rfl rfl rfl (Nat.le_of_ble_eq_true rfl) fl_X8_29 dX8_begin_2 rfl ?_
  refine g_aload_n X dX8_begin_5 rfl rfl ?_
  refine g_iload_n X dX8_begin_6 rfl rfl ?_
  refine g_putI X ci8 (n16 hN (by omega) (by omega)) (en16 _ _ _ _) (ep16_1 _ _ _ _ _) (by first | omega | (simp only [setI_1, setL_1, setI_2, setL_2]; omega) | (simp only [setI_1, setL_1, setI_2, setL_2]; simp; omega)) (by decide) rfl rfl rfl (Nat.le_of_ble_eq_true rfl) fl_X8_33 dX8_begin_7 rfl ?_
  refine g_aload_n X dX8_begin_10 rfl rfl ?_
  refine g_iload_n X dX8_begin_11 rfl rfl ?_
  refine g_putI X ci8 (n16 hN (by omega) (by omega)) (en16 _ _ _ _) (ep16_2 _ _ _ _ _) (by first | omega | (simp only [setI_1, setL_1, setI_2, setL_2]; omega) | (simp only [setI_1, setL_1, setI_2, setL_2]; simp; omega)) (by decide) rfl rfl rfl (Nat.le_of_ble_eq_true rfl) fl_X8_36 dX8_begin_12 rfl ?_
  refine g_aload_n X dX8_begin_15 rfl rfl ?_
  refine g_iload X dX8_begin_16 rfl rfl ?_
  refine g_putI X ci8 (n16 hN (by omega) (by omega)) (en16 _ _ _ _) (ep16_3 _ _ _ _ _) (by first | omega | (simp only [setI_1, setL_1, setI_2, setL_2]; omega) | (simp only [setI_1, setL_1, setI_2, setL_2]; simp; omega)) (by decide) rfl rfl rfl (Nat.le_of_ble_eq_true rfl) fl_X8_39 dX8_begin_18 rfl ?_
  refine g_aload_n X dX8_begin_21 rfl rfl ?_
  refine g_iload X dX8_begin_22 rfl rfl ?_
  refine g_putI X ci8 (n16 hN (by omega) (by omega)) (en16 _ _ _ _) (ep16_4 _ _ _ _ _) (by first | omega | (simp only [setI_1, setL_1, setI_2, setL_2]; omega) | (simp only [setI_1, setL_1, setI_2, setL_2]; simp; omega)) (by decide) rfl rfl rfl (Nat.le_of_ble_eq_true rfl) fl_X8_42 dX8_begin_24 rfl ?_
  refine g_aload_n X dX8_begin_27 rfl rfl ?_
  refine g_sipush X dX8_begin_28 rfl (by decide) ?_
  refine g_putI X ci8 (n16 hN (by omega) (by omega)) (en16 _ _ _ _) (ep16_8 _ _ _ _ _) (by first | omega | (simp only [setI_1, setL_1, setI_2, setL_2]; omega) | (simp only [setI_1, setL_1, setI_2, setL_2]; simp; omega)) (by decide) rfl rfl rfl (Nat.le_of_ble_eq_true rfl) fl_X8_45 dX8_begin_31 rfl ?_
  refine g_aload_n X dX8_begin_34 rfl rfl ?_
  refine g_iconst X dX8_begin_35 rfl ?_
  refine g_putI X ci8 (n16 hN (by omega) (by omega)) (en16 _ _ _ _) (ep16_9 _ _ _ _ _) (by first | omega | (simp only [setI_1, setL_1, setI_2, setL_2]; omega) | (simp only [setI_1, setL_1, setI_2, setL_2]; simp; omega)) (by decide) rfl rfl rfl (Nat.le_of_ble_eq_true rfl) fl_X8_48 dX8_begin_36 rfl ?_
  refine g_aload_n X dX8_begin_39 rfl rfl ?_
  refine g_get X ci8 (n16 hN (by omega) (by omega)) (en16 _ _ _ _) (by decide) fl_X8_23 rfl dX8_begin_40 rfl ?_
  refine g_iconst X dX8_begin_43 rfl ?_
  refine g_iS2_n X w_J7_fill_53178 ml_X8_51 dX8_begin_44 rfl ⟨⟨Nat.le_of_ble_eq_true rfl, Nat.le_of_ble_eq_true rfl⟩, Nat.le_of_ble_eq_true rfl, Nat.le_of_ble_eq_true rfl⟩ (Nat.le_of_ble_eq_true rfl) (c_fill (fun ad M => en20 _ ad M _) (n20 hN (by omega) (by omega)) (by decide) (by decide)) ?_
  exact g_retn Y dX8_begin_47 rfl ⟨rfl, rfl, rfl⟩
set_option maxRecDepth 100000 in
set_option maxHeartbeats 4000000 in
theorem c_X8_addFrame {δ : Dx} {nm : List (Nat × Int)} {ad : Ad} {M : Mem} {i c : Int} {x : Int64} (hN : NmOk nm) (i0 : 0 ≤ i) (i1 : i < 12) (l0 : 0 ≤ (M.1 16 8 i 0) ∧ (M.1 16 8 i 0) ≤ 1000) (g0 : -1 ≤ (M.1 16 9 i 0) ∧ (M.1 16 9 i 0) ≤ 999) (c0 : 0 ≤ c) (c1 : c ≤ 999) (f0 : 0 ≤ (M.1 16 6 i 0) ∧ (M.1 16 6 i 0) < 60) : Ct δ md_X8_addFrame 0 0 nm ad M [.ref (ad 16 i), .int (iI c), .long x] (pN ad (addF M i c x)) := by
  refine Ct_of (ins := .return_) (ok := okN) [some (.ref (ad 16 i)), some (.int (iI c)), some (.long x), none] (by decide +kernel) rfl (Nat.le_of_ble_eq_true rfl) (fun κ s hs X hr hQ hδ => endN rfl hs X hr hQ hδ) (fun κ X hNL hδ Y => ?_)
  refine g_rm (fun hM => ?_)
  refine g_aload_n X dX8_addFrame_0 rfl rfl ?_
  refine g_get X ci8 (n16 hN (by omega) (by omega)) (en16 _ _ _ _) (by decide) fl_X8_9 rfl dX8_addFrame_1 rfl ?_
  refine g_aload_n X dX8_addFrame_4 rfl rfl ?_
  refine g_getI X ci8 (n16 hN (by omega) (by omega)) (en16 _ _ _ _) (by decide) fl_X8_57 rfl dX8_addFrame_5 rfl (fun r5 => ?_)
  refine g_iload_n X dX8_addFrame_8 rfl rfl ?_
  refine g_iast X (n17 hN (by omega) (by omega)) (en17 _ _ _ _) (en17 _ _ _ _) (t0 := 0) rfl (by omega) (by omega) (by decide) (by omega) dX8_addFrame_9 rfl ?_
  refine g_aload_n X dX8_addFrame_10 rfl rfl ?_
  refine g_get X ci8 (n16 hN (by omega) (by omega)) (en16 _ _ _ _) (by decide) fl_X8_15 rfl dX8_addFrame_11 rfl ?_
  refine g_aload_n X dX8_addFrame_14 rfl rfl ?_
  refine g_getI X ci8 (n16 hN (by omega) (by omega)) (en16 _ _ _ _) (by decide) fl_X8_57 rfl dX8_addFrame_15 rfl (fun r15 => ?_)
  refine g_int (b := M.1 16 6 i 0) rfl ?_
  have r15x := hM 16 6 i 0
  refine g_lload_n X dX8_addFrame_18 rfl rfl ?_
  refine g_last X (n18 hN (by omega) (by omega)) (en18 _ _ _ _) (en18 _ _ _ _) (t0 := 1) rfl (by first | omega | (simp only [setI_1, setL_1, setI_2, setL_2]; omega) | (simp only [setI_1, setL_1, setI_2, setL_2]; simp; omega)) (by first | omega | (simp only [setI_1, setL_1, setI_2, setL_2]; omega) | (simp only [setI_1, setL_1, setI_2, setL_2]; simp; omega)) (by decide) dX8_addFrame_19 rfl ?_
  refine g_aload_n X dX8_addFrame_20 rfl rfl ?_
  refine g_get X ci8 (n16 hN (by omega) (by omega)) (en16 _ _ _ _) (by decide) fl_X8_23 rfl dX8_addFrame_21 rfl ?_
  refine g_iload_n X dX8_addFrame_24 rfl rfl ?_
  refine g_iald X dX8_addFrame_25 rfl (n20 hN (by omega) (by omega)) (en20 _ _ _ _) (t0 := 0) rfl (by first | omega | (simp only [setI_1, setL_1, setI_2, setL_2]; omega) | (simp only [setI_1, setL_1, setI_2, setL_2]; simp; omega)) (by first | omega | (simp only [setI_1, setL_1, setI_2, setL_2]; omega) | (simp only [setI_1, setL_1, setI_2, setL_2]; simp; omega)) (by decide) (fun r25 => ?_)
  refine g_int (b := M.1 20 0 i c) rfl ?_
  have r25x := hM 20 0 i c
  refine g_iconst X dX8_addFrame_26 rfl ?_
  refine g_icmp_ne (tgt := 40) X dX8_addFrame_27 rfl rfl (by first | omega | (simp only [setI_1, setL_1, setI_2, setL_2]; omega) | (simp only [setI_1, setL_1, setI_2, setL_2]; simp; omega)) (by first | omega | (simp only [setI_1, setL_1, setI_2, setL_2]; omega) | (simp only [setI_1, setL_1, setI_2, setL_2]; simp; omega)) (fun h27 => ?_) (fun h27 => ?_)
  · skip
    refine g_aload_n X dX8_addFrame_40 rfl rfl ?_
    refine g_aload_n X dX8_addFrame_41 rfl rfl ?_
    refine g_getI X ci8 (n16 hN (by omega) (by omega)) (en16 _ _ _ _) (by decide) fl_X8_45 rfl dX8_addFrame_42 rfl (fun r42 => ?_)
    refine g_int (b := M.1 16 8 i 0) rfl ?_
    have r42x := hM 16 8 i 0
    refine g_iload_n X dX8_addFrame_45 rfl rfl ?_
    refine g_mmin X wm_min ml_X8_60 dX8_addFrame_46 rfl ⟨Nat.le_of_ble_eq_true rfl, Nat.le_of_ble_eq_true rfl, Nat.le_of_ble_eq_true rfl⟩ (Nat.le_of_ble_eq_true rfl) (by first | omega | (simp only [setI_1, setL_1, setI_2, setL_2]; omega) | (simp only [setI_1, setL_1, setI_2, setL_2]; simp; omega)) (by first | omega | (simp only [setI_1, setL_1, setI_2, setL_2]; omega) | (simp only [setI_1, setL_1, setI_2, setL_2]; simp; omega)) ?_
    refine g_putI X ci8 (n16 hN (by omega) (by omega)) (en16 _ _ _ _) (ep16_8 _ _ _ _ _) (by first | omega | (simp only [setI_1, setL_1, setI_2, setL_2]; omega) | (simp only [setI_1, setL_1, setI_2, setL_2]; simp; omega)) (by decide) rfl rfl rfl (Nat.le_of_ble_eq_true rfl) fl_X8_45 dX8_addFrame_49 rfl ?_
    refine g_aload_n X dX8_addFrame_52 rfl rfl ?_
    refine g_aload_n X dX8_addFrame_53 rfl rfl ?_
    refine g_getI X ci8 (n16 hN (by omega) (by omega)) (en16 _ _ _ _) (by decide) fl_X8_48 rfl dX8_addFrame_54 rfl (fun r54 => ?_)
    refine g_int (b := M.1 16 9 i 0) rfl ?_
    have r54x := hM 16 9 i 0
    refine g_iload_n X dX8_addFrame_57 rfl rfl ?_
    refine g_mmax X wm_max ml_X8_66 dX8_addFrame_58 rfl ⟨Nat.le_of_ble_eq_true rfl, Nat.le_of_ble_eq_true rfl, Nat.le_of_ble_eq_true rfl⟩ (Nat.le_of_ble_eq_true rfl) (by first | omega | (simp only [setI_1, setL_1, setI_2, setL_2]; omega) | (simp only [setI_1, setL_1, setI_2, setL_2]; simp; omega)) (by first | omega | (simp only [setI_1, setL_1, setI_2, setL_2]; omega) | (simp only [setI_1, setL_1, setI_2, setL_2]; simp; omega)) ?_
    refine g_putI X ci8 (n16 hN (by omega) (by omega)) (en16 _ _ _ _) (ep16_9 _ _ _ _ _) (by first | omega | (simp only [setI_1, setL_1, setI_2, setL_2]; omega) | (simp only [setI_1, setL_1, setI_2, setL_2]; simp; omega)) (by decide) rfl rfl rfl (Nat.le_of_ble_eq_true rfl) fl_X8_48 dX8_addFrame_61 rfl ?_
    refine g_aload_n X dX8_addFrame_64 rfl rfl ?_
    refine g_dup X dX8_addFrame_65 rfl rfl ?_
    refine g_getI X ci8 (n16 hN (by omega) (by omega)) (en16 _ _ _ _) (by decide) fl_X8_57 rfl dX8_addFrame_66 rfl (fun r66 => ?_)
    refine g_int (b := M.1 16 6 i 0) rfl ?_
    have r66x := hM 16 6 i 0
    refine g_iconst X dX8_addFrame_69 rfl ?_
    refine g_iadd X dX8_addFrame_70 rfl ?_
    refine g_putI X ci8 (n16 hN (by omega) (by omega)) (en16 _ _ _ _) (ep16_6 _ _ _ _ _) (by first | omega | (simp only [setI_1, setL_1, setI_2, setL_2]; omega) | (simp only [setI_1, setL_1, setI_2, setL_2]; simp; omega)) (by decide) rfl rfl rfl (Nat.le_of_ble_eq_true rfl) fl_X8_57 dX8_addFrame_71 rfl ?_
    exact g_retn Y dX8_addFrame_74 rfl ⟨rfl, rfl, by unfold addF; first | rw [if_pos (show (M.1 20 0 i c) = -1 by assumption)] | rw [if_neg (show ¬ (M.1 20 0 i c) = -1 by assumption)]⟩
  · skip
    refine g_aload_n X dX8_addFrame_30 rfl rfl ?_
    refine g_get X ci8 (n16 hN (by omega) (by omega)) (en16 _ _ _ _) (by decide) fl_X8_23 rfl dX8_addFrame_31 rfl ?_
    refine g_iload_n X dX8_addFrame_34 rfl rfl ?_
    refine g_aload_n X dX8_addFrame_35 rfl rfl ?_
    refine g_getI X ci8 (n16 hN (by omega) (by omega)) (en16 _ _ _ _) (by decide) fl_X8_57 rfl dX8_addFrame_36 rfl (fun r36 => ?_)
    refine g_int (b := M.1 16 6 i 0) rfl ?_
    have r36x := hM 16 6 i 0
    refine g_iast X (n20 hN (by omega) (by omega)) (en20 _ _ _ _) (en20 _ _ _ _) (t0 := 0) rfl (by first | omega | (simp only [setI_1, setL_1, setI_2, setL_2]; omega) | (simp only [setI_1, setL_1, setI_2, setL_2]; simp; omega)) (by first | omega | (simp only [setI_1, setL_1, setI_2, setL_2]; omega) | (simp only [setI_1, setL_1, setI_2, setL_2]; simp; omega)) (by decide) (by first | omega | (simp only [setI_1, setL_1, setI_2, setL_2]; omega) | (simp only [setI_1, setL_1, setI_2, setL_2]; simp; omega)) dX8_addFrame_39 rfl ?_
    refine g_aload_n X dX8_addFrame_40 rfl rfl ?_
    refine g_aload_n X dX8_addFrame_41 rfl rfl ?_
    refine g_getI X ci8 (n16 hN (by omega) (by omega)) (en16 _ _ _ _) (by decide) fl_X8_45 rfl dX8_addFrame_42 rfl (fun r42 => ?_)
    refine g_int (b := M.1 16 8 i 0) rfl ?_
    have r42x := hM 16 8 i 0
    refine g_iload_n X dX8_addFrame_45 rfl rfl ?_
    refine g_mmin X wm_min ml_X8_60 dX8_addFrame_46 rfl ⟨Nat.le_of_ble_eq_true rfl, Nat.le_of_ble_eq_true rfl, Nat.le_of_ble_eq_true rfl⟩ (Nat.le_of_ble_eq_true rfl) (by first | omega | (simp only [setI_1, setL_1, setI_2, setL_2]; omega) | (simp only [setI_1, setL_1, setI_2, setL_2]; simp; omega)) (by first | omega | (simp only [setI_1, setL_1, setI_2, setL_2]; omega) | (simp only [setI_1, setL_1, setI_2, setL_2]; simp; omega)) ?_
    refine g_putI X ci8 (n16 hN (by omega) (by omega)) (en16 _ _ _ _) (ep16_8 _ _ _ _ _) (by first | omega | (simp only [setI_1, setL_1, setI_2, setL_2]; omega) | (simp only [setI_1, setL_1, setI_2, setL_2]; simp; omega)) (by decide) rfl rfl rfl (Nat.le_of_ble_eq_true rfl) fl_X8_45 dX8_addFrame_49 rfl ?_
    refine g_aload_n X dX8_addFrame_52 rfl rfl ?_
    refine g_aload_n X dX8_addFrame_53 rfl rfl ?_
    refine g_getI X ci8 (n16 hN (by omega) (by omega)) (en16 _ _ _ _) (by decide) fl_X8_48 rfl dX8_addFrame_54 rfl (fun r54 => ?_)
    refine g_int (b := M.1 16 9 i 0) rfl ?_
    have r54x := hM 16 9 i 0
    refine g_iload_n X dX8_addFrame_57 rfl rfl ?_
    refine g_mmax X wm_max ml_X8_66 dX8_addFrame_58 rfl ⟨Nat.le_of_ble_eq_true rfl, Nat.le_of_ble_eq_true rfl, Nat.le_of_ble_eq_true rfl⟩ (Nat.le_of_ble_eq_true rfl) (by first | omega | (simp only [setI_1, setL_1, setI_2, setL_2]; omega) | (simp only [setI_1, setL_1, setI_2, setL_2]; simp; omega)) (by first | omega | (simp only [setI_1, setL_1, setI_2, setL_2]; omega) | (simp only [setI_1, setL_1, setI_2, setL_2]; simp; omega)) ?_
    refine g_putI X ci8 (n16 hN (by omega) (by omega)) (en16 _ _ _ _) (ep16_9 _ _ _ _ _) (by first | omega | (simp only [setI_1, setL_1, setI_2, setL_2]; omega) | (simp only [setI_1, setL_1, setI_2, setL_2]; simp; omega)) (by decide) rfl rfl rfl (Nat.le_of_ble_eq_true rfl) fl_X8_48 dX8_addFrame_61 rfl ?_
    refine g_aload_n X dX8_addFrame_64 rfl rfl ?_
    refine g_dup X dX8_addFrame_65 rfl rfl ?_
    refine g_getI X ci8 (n16 hN (by omega) (by omega)) (en16 _ _ _ _) (by decide) fl_X8_57 rfl dX8_addFrame_66 rfl (fun r66 => ?_)
    refine g_int (b := M.1 16 6 i 0) rfl ?_
    have r66x := hM 16 6 i 0
    refine g_iconst X dX8_addFrame_69 rfl ?_
    refine g_iadd X dX8_addFrame_70 rfl ?_
    refine g_putI X ci8 (n16 hN (by omega) (by omega)) (en16 _ _ _ _) (ep16_6 _ _ _ _ _) (by first | omega | (simp only [setI_1, setL_1, setI_2, setL_2]; omega) | (simp only [setI_1, setL_1, setI_2, setL_2]; simp; omega)) (by decide) rfl rfl rfl (Nat.le_of_ble_eq_true rfl) fl_X8_57 dX8_addFrame_71 rfl ?_
    exact g_retn Y dX8_addFrame_74 rfl ⟨rfl, rfl, by unfold addF; first | rw [if_pos (show (M.1 20 0 i c) = -1 by assumption)] | rw [if_neg (show ¬ (M.1 20 0 i c) = -1 by assumption)]⟩
set_option maxRecDepth 100000 in
set_option maxHeartbeats 4000000 in
theorem c_X8_addSplice {δ : Dx} {nm : List (Nat × Int)} {ad : Ad} {M : Mem} {i p : Int} (hN : NmOk nm) (i0 : 0 ≤ i) (i1 : i < 12) (p0 : 0 ≤ p) (p1 : p < 60) (cc : 0 ≤ (M.1 17 0 i p) ∧ (M.1 17 0 i p) ≤ 999) (sc : 0 ≤ (M.1 16 7 i 0) ∧ (M.1 16 7 i 0) ≤ 60) : Ct δ md_X8_addSplice 0 0 nm ad M [.ref (ad 16 i), .int (iI p)] (pN ad (addS M i p)) := by
  refine Ct_of (ins := .return_) (ok := okN) [some (.ref (ad 16 i)), some (.int (iI p))] (by decide +kernel) rfl (Nat.le_of_ble_eq_true rfl) (fun κ s hs X hr hQ hδ => endN rfl hs X hr hQ hδ) (fun κ X hNL hδ Y => ?_)
  refine g_rm (fun hM => ?_)
  refine g_aload_n X dX8_addSplice_0 rfl rfl ?_
  refine g_get X ci8 (n16 hN (by omega) (by omega)) (en16 _ _ _ _) (by decide) fl_X8_19 rfl dX8_addSplice_1 rfl ?_
  refine g_iload_n X dX8_addSplice_4 rfl rfl ?_
  refine g_zald X dX8_addSplice_5 rfl (n19 hN (by omega) (by omega)) (en19 _ _ _ _) (t0 := 2) rfl (by omega) (by omega) (by decide) (fun r5 => ?_)
  refine g_if_ne (tgt := 38) X dX8_addSplice_6 rfl rfl (by omega) (fun h6 => ?_) (fun h6 => ?_)
  · skip
    exact g_retn Y dX8_addSplice_38 rfl ⟨rfl, rfl, by unfold addS; first | rw [if_pos (by assumption)] | rw [if_neg (by assumption)]⟩
  · skip
    refine g_aload_n X dX8_addSplice_9 rfl rfl ?_
    refine g_get X ci8 (n16 hN (by omega) (by omega)) (en16 _ _ _ _) (by decide) fl_X8_19 rfl dX8_addSplice_10 rfl ?_
    refine g_iload_n X dX8_addSplice_13 rfl rfl ?_
    refine g_iconst X dX8_addSplice_14 rfl ?_
    refine g_zast X (n19 hN (by omega) (by omega)) (en19 _ _ _ _) (en19 _ _ _ _) (t0 := 2) rfl (by omega) (by omega) (by decide) (by first | exact Or.inl rfl | exact Or.inr rfl | omega) dX8_addSplice_15 rfl ?_
    refine g_aload_n X dX8_addSplice_16 rfl rfl ?_
    refine g_get X ci8 (n16 hN (by omega) (by omega)) (en16 _ _ _ _) (by decide) fl_X8_26 rfl dX8_addSplice_17 rfl ?_
    refine g_aload_n X dX8_addSplice_20 rfl rfl ?_
    refine g_get X ci8 (n16 hN (by omega) (by omega)) (en16 _ _ _ _) (by decide) fl_X8_9 rfl dX8_addSplice_21 rfl ?_
    refine g_iload_n X dX8_addSplice_24 rfl rfl ?_
    refine g_iald X dX8_addSplice_25 rfl (n17 hN (by omega) (by omega)) (en17 _ _ _ _) (t0 := 0) rfl (by first | omega | (simp only [setI_1, setL_1, setI_2, setL_2]; omega) | (simp only [setI_1, setL_1, setI_2, setL_2]; simp; omega)) (by first | omega | (simp only [setI_1, setL_1, setI_2, setL_2]; omega) | (simp only [setI_1, setL_1, setI_2, setL_2]; simp; omega)) (by decide) (fun r25 => ?_)
    refine g_int (b := M.1 17 0 i p) rfl ?_
    have r25x := hM 17 0 i p
    refine g_iconst X dX8_addSplice_26 rfl ?_
    refine g_zast X (n21 hN (by omega) (by omega)) (en21 _ _ _ _) (en21 _ _ _ _) (t0 := 2) rfl (by first | omega | (simp only [setI_1, setL_1, setI_2, setL_2]; omega) | (simp only [setI_1, setL_1, setI_2, setL_2]; simp; omega)) (by first | omega | (simp only [setI_1, setL_1, setI_2, setL_2]; omega) | (simp only [setI_1, setL_1, setI_2, setL_2]; simp; omega)) (by decide) (by first | exact Or.inl rfl | exact Or.inr rfl | omega) dX8_addSplice_27 rfl ?_
    refine g_aload_n X dX8_addSplice_28 rfl rfl ?_
    refine g_dup X dX8_addSplice_29 rfl rfl ?_
    refine g_getI X ci8 (n16 hN (by omega) (by omega)) (en16 _ _ _ _) (by decide) fl_X8_69 rfl dX8_addSplice_30 rfl (fun r30 => ?_)
    refine g_int (b := M.1 16 7 i 0) rfl ?_
    have r30x := hM 16 7 i 0
    refine g_iconst X dX8_addSplice_33 rfl ?_
    refine g_iadd X dX8_addSplice_34 rfl ?_
    refine g_putI X ci8 (n16 hN (by omega) (by omega)) (en16 _ _ _ _) (ep16_7 _ _ _ _ _) (by first | omega | (simp only [setI_1, setL_1, setI_2, setL_2]; omega) | (simp only [setI_1, setL_1, setI_2, setL_2]; simp; omega)) (by decide) rfl rfl rfl (Nat.le_of_ble_eq_true rfl) fl_X8_69 dX8_addSplice_35 rfl ?_
    exact g_retn Y dX8_addSplice_38 rfl ⟨rfl, rfl, by unfold addS; first | rw [if_pos (by assumption)] | rw [if_neg (by assumption)]⟩
set_option maxRecDepth 100000 in
set_option maxHeartbeats 4000000 in
theorem c_X11_bestReelWith {δ : Dx} {nm : List (Nat × Int)} {ad : Ad} {M : Mem} {c : Int} (hN : NmOk nm) (rc : 0 ≤ (M.1 0 1 0 0) ∧ (M.1 0 1 0 0) ≤ 12) (c0 : 0 ≤ c) (c1 : c ≤ 999) : Ct δ md_X11_bestReelWith 0 0 nm ad M [.ref (ad 0 0), .int (iI c)] (pV (.int (iI (best M c))) ad M) := by
  refine Ct_of (ins := .ireturn) (ok := okI) [some (.ref (ad 0 0)), some (.int (iI c)), none, none, none] (by decide +kernel) rfl (Nat.le_of_ble_eq_true rfl) (fun κ s hs X hr hQ hδ => endI rfl hs X hr hQ hδ) (fun κ X hNL hδ Y => ?_)
  refine g_rm (fun hM => ?_)
  refine g_iconst X dX11_bestReelWith_0 rfl ?_
  refine g_istore_2 X dX11_bestReelWith_1 rfl (lt_kN hNL rfl) rfl ?_
  refine g_iconst X dX11_bestReelWith_2 rfl ?_
  refine g_istore_3 X dX11_bestReelWith_3 rfl (lt_kN hNL rfl) rfl ?_
  have lp4 : ∀ (k : Int) (b : Int) (k0 : 0 ≤ k) (k1 : k ≤ (M.1 0 1 0 0)) (hb : b = bst M c k.toNat), G κ nm ad M 4 [some (.ref (ad 0 0)), some (.int (iI c)), some (.int (iI b)), some (.int (iI k)), none] [] 0 0 := by
    refine ind2 (fun k b => (12 - k).toNat) ?_
    intro k b ih4 k0 k1 hb
    refine g_rm (fun hM4 => ?_)
    have bb := bst_b M c k.toNat
    refine g_iload_n X dX11_bestReelWith_4 rfl rfl ?_
    refine g_aload_n X dX11_bestReelWith_5 rfl rfl ?_
    refine g_getI X ci11 (n0 hN) (en0 _ _ _ _) (by decide) fl_X11_15 rfl dX11_bestReelWith_6 rfl (fun r6 => ?_)
    refine g_icmp_ge (tgt := 64) X dX11_bestReelWith_9 rfl rfl (by omega) (by omega) (fun h9 => ?_) (fun h9 => ?_)
    · skip
      refine g_iload_n X dX11_bestReelWith_64 rfl rfl ?_
      exact g_ret Y dX11_bestReelWith_65 ⟨_, rfl⟩ (pVI (by rw [hb, show k = (M.1 0 1 0 0) by omega]; rfl))
    · skip
      refine g_aload_n X dX11_bestReelWith_12 rfl rfl ?_
      refine g_get X ci11 (n0 hN) (en0 _ _ _ _) (by decide) fl_X11_11 rfl dX11_bestReelWith_13 rfl ?_
      refine g_iload_n X dX11_bestReelWith_16 rfl rfl ?_
      refine g_rald X (n1 hN) (en1 _ _ _ _) (t0 := 4) rfl (by omega) (by omega) (by decide) dX11_bestReelWith_17 rfl ?_
      refine g_astore_4 X dX11_bestReelWith_18 rfl (lt_kN hNL rfl) rfl ?_
      refine g_aload X dX11_bestReelWith_20 rfl rfl ?_
      refine g_iV0_v X w_X8_canBeRead ml_X11_110 dX11_bestReelWith_22 rfl (n16 hN (by omega) (by omega)) (en16 _ _ _ _) ⟨⟨Nat.le_of_ble_eq_true rfl, Nat.le_of_ble_eq_true rfl⟩, Nat.le_of_ble_eq_true rfl, Nat.le_of_ble_eq_true rfl⟩ (Nat.le_of_ble_eq_true rfl) (c_X8_canBeRead hN (by omega) (by omega)) ?_
      refine g_ifB_eq (tgt := 58) X dX11_bestReelWith_25 rfl rfl (fun h25 => ?_) (fun h25 => ?_)
      · skip
        refine g_iinc_3 X dX11_bestReelWith_58 rfl (lt_kN hNL rfl) rfl ?_
        refine g_goto (pc' := 4) X dX11_bestReelWith_61 rfl ?_
        refine g_drop_4 ?_
        exact ih4 (k + 1) _ (by omega) (by omega) (by omega) (by rw [bst_s _ _ k0, ← hb]; unfold btr; first | (rw [cif_t (by omega)]; done) | (rw [cif_f (by omega)]; done))
      · skip
        refine g_aload X dX11_bestReelWith_28 rfl rfl ?_
        refine g_iload_n X dX11_bestReelWith_30 rfl rfl ?_
        refine g_iV1_v X w_X8_hasCode ml_X11_332 dX11_bestReelWith_31 rfl (n16 hN (by omega) (by omega)) (en16 _ _ _ _) ⟨⟨Nat.le_of_ble_eq_true rfl, Nat.le_of_ble_eq_true rfl⟩, Nat.le_of_ble_eq_true rfl, Nat.le_of_ble_eq_true rfl⟩ (Nat.le_of_ble_eq_true rfl) (c_X8_hasCode hN (by omega) (by omega) (by omega) (by omega)) ?_
        refine g_ifB_eq (tgt := 58) X dX11_bestReelWith_34 rfl rfl (fun h34 => ?_) (fun h34 => ?_)
        · skip
          refine g_iinc_3 X dX11_bestReelWith_58 rfl (lt_kN hNL rfl) rfl ?_
          refine g_goto (pc' := 4) X dX11_bestReelWith_61 rfl ?_
          refine g_drop_4 ?_
          exact ih4 (k + 1) _ (by omega) (by omega) (by omega) (by rw [bst_s _ _ k0, ← hb]; unfold btr; first | (rw [cif_t (by omega)]; done) | (rw [cif_f (by omega)]; done))
        · skip
          refine g_iload_n X dX11_bestReelWith_37 rfl rfl ?_
          refine g_iconst X dX11_bestReelWith_38 rfl ?_
          refine g_icmp_eq (tgt := 56) X dX11_bestReelWith_39 rfl rfl (by omega) (by omega) (fun h39 => ?_) (fun h39 => ?_)
          · skip
            refine g_iload_n X dX11_bestReelWith_56 rfl rfl ?_
            refine g_istore_2 X dX11_bestReelWith_57 rfl (lt_kN hNL rfl) rfl ?_
            refine g_iinc_3 X dX11_bestReelWith_58 rfl (lt_kN hNL rfl) rfl ?_
            refine g_goto (pc' := 4) X dX11_bestReelWith_61 rfl ?_
            refine g_drop_4 ?_
            exact ih4 (k + 1) _ (by omega) (by omega) (by omega) (by rw [bst_s _ _ k0, ← hb]; unfold btr; first | (rw [cif_t (by omega)]; done) | (rw [cif_f (by omega)]; done))
          · skip
            refine g_aload X dX11_bestReelWith_42 rfl rfl ?_
            refine g_aload_n X dX11_bestReelWith_44 rfl rfl ?_
            refine g_get X ci11 (n0 hN) (en0 _ _ _ _) (by decide) fl_X11_11 rfl dX11_bestReelWith_45 rfl ?_
            refine g_iload_n X dX11_bestReelWith_48 rfl rfl ?_
            refine g_rald X (n1 hN) (en1 _ _ _ _) (t0 := 4) rfl (by omega) (by omega) (by decide) dX11_bestReelWith_49 rfl ?_
            refine g_iV1_v X w_X8_isBetterThan ml_X11_335 dX11_bestReelWith_50 rfl (n16 hN (by omega) (by omega)) (en16 _ _ _ _) ⟨⟨Nat.le_of_ble_eq_true rfl, Nat.le_of_ble_eq_true rfl⟩, Nat.le_of_ble_eq_true rfl, Nat.le_of_ble_eq_true rfl⟩ (Nat.le_of_ble_eq_true rfl) (c_X8_isBetterThan hN (by omega) (by omega) (by omega) (by omega)) ?_
            refine g_ifB_eq (tgt := 58) X dX11_bestReelWith_53 rfl rfl (fun h53 => ?_) (fun h53 => ?_)
            · skip
              refine g_iinc_3 X dX11_bestReelWith_58 rfl (lt_kN hNL rfl) rfl ?_
              refine g_goto (pc' := 4) X dX11_bestReelWith_61 rfl ?_
              refine g_drop_4 ?_
              exact ih4 (k + 1) _ (by omega) (by omega) (by omega) (by rw [bst_s _ _ k0, ← hb]; unfold btr; first | (rw [cif_t (by omega)]; done) | (rw [cif_f (by omega)]; done))
            · skip
              refine g_iload_n X dX11_bestReelWith_56 rfl rfl ?_
              refine g_istore_2 X dX11_bestReelWith_57 rfl (lt_kN hNL rfl) rfl ?_
              refine g_iinc_3 X dX11_bestReelWith_58 rfl (lt_kN hNL rfl) rfl ?_
              refine g_goto (pc' := 4) X dX11_bestReelWith_61 rfl ?_
              refine g_drop_4 ?_
              exact ih4 (k + 1) _ (by omega) (by omega) (by omega) (by rw [bst_s _ _ k0, ← hb]; unfold btr; first | (rw [cif_t (by omega)]; done) | (rw [cif_f (by omega)]; done))
  exact lp4 0 _ (by omega) (by omega) rfl
set_option maxRecDepth 100000 in
set_option maxHeartbeats 4000000 in
theorem c_X11_guessedParent {δ : Dx} {nm : List (Nat × Int)} {ad : Ad} {M : Mem} {r : Int} (hN : NmOk nm) (rc : 0 ≤ (M.1 0 1 0 0) ∧ (M.1 0 1 0 0) ≤ 12) (hl : ∀ i, 0 ≤ i → i < (M.1 0 1 0 0) → (0 ≤ (M.1 16 8 i 0) ∧ (M.1 16 8 i 0) ≤ 1000) ∧ (-1 ≤ (M.1 16 9 i 0) ∧ (M.1 16 9 i 0) ≤ 999)) (r0 : 0 ≤ r) (r1 : r < (M.1 0 1 0 0)) : Ct δ md_X11_guessedParent 0 0 nm ad M [.ref (ad 0 0), .int (iI r)] (pV (.int (iI (gps M r ((M.1 0 1 0 0)).toNat))) ad M) := by
  refine Ct_of (ins := .ireturn) (ok := okI) [some (.ref (ad 0 0)), some (.int (iI r)), none, none, none, none, none, none] (by decide +kernel) rfl (Nat.le_of_ble_eq_true rfl) (fun κ s hs X hr hQ hδ => endI rfl hs X hr hQ hδ) (fun κ X hNL hδ Y => ?_)
  refine g_rm (fun hM => ?_)
  have q1 := hl r (by omega) (by omega)
  refine g_aload_n X dX11_guessedParent_0 rfl rfl ?_
  refine g_get X ci11 (n0 hN) (en0 _ _ _ _) (by decide) fl_X11_11 rfl dX11_guessedParent_1 rfl ?_
  refine g_iload_n X dX11_guessedParent_4 rfl rfl ?_
  refine g_rald X (n1 hN) (en1 _ _ _ _) (t0 := 4) rfl (by omega) (by omega) (by decide) dX11_guessedParent_5 rfl ?_
  refine g_astore_2 X dX11_guessedParent_6 rfl (lt_kN hNL rfl) rfl ?_
  refine g_iconst X dX11_guessedParent_7 rfl ?_
  refine g_istore_3 X dX11_guessedParent_8 rfl (lt_kN hNL rfl) rfl ?_
  refine g_iconst X dX11_guessedParent_9 rfl ?_
  refine g_istore_4 X dX11_guessedParent_10 rfl (lt_kN hNL rfl) rfl ?_
  refine g_iconst X dX11_guessedParent_12 rfl ?_
  refine g_istore_5 X dX11_guessedParent_13 rfl (lt_kN hNL rfl) rfl ?_
  have lp15 : ∀ (k : Int) (g : Int) (m : Int) (k0 : 0 ≤ k) (k1 : k ≤ (M.1 0 1 0 0)) (hg : g = gps M r k.toNat) (hm : m = if g = -1 then -1 else faults M g), G κ nm ad M 15 [some (.ref (ad 0 0)), some (.int (iI r)), some (.ref (ad 16 r)), some (.int (iI g)), some (.int (iI m)), some (.int (iI k)), none, none] [] 0 0 := by
    refine ind3 (fun k g m => (12 - k).toNat) ?_
    intro k g m ih15 k0 k1 hg hm
    refine g_rm (fun hM15 => ?_)
    have gb := gps_b M r k.toNat
    have mb : -1 ≤ m ∧ m ≤ 1000 := by
          rw [hm]; split
          · decide
          · have q := hl g (by omega) (by omega); have := faults_b M g (by omega) (by omega); omega
    refine g_iload X dX11_guessedParent_15 rfl rfl ?_
    refine g_aload_n X dX11_guessedParent_17 rfl rfl ?_
    refine g_getI X ci11 (n0 hN) (en0 _ _ _ _) (by decide) fl_X11_15 rfl dX11_guessedParent_18 rfl (fun r18 => ?_)
    refine g_icmp_ge (tgt := 110) X dX11_guessedParent_21 rfl rfl (by omega) (by omega) (fun h21 => ?_) (fun h21 => ?_)
    · skip
      refine g_iload_n X dX11_guessedParent_110 rfl rfl ?_
      exact g_ret Y dX11_guessedParent_111 ⟨_, rfl⟩ (pVI (by rw [hg, show k = (M.1 0 1 0 0) by omega]))
    · skip
      refine g_aload_n X dX11_guessedParent_24 rfl rfl ?_
      refine g_get X ci11 (n0 hN) (en0 _ _ _ _) (by decide) fl_X11_11 rfl dX11_guessedParent_25 rfl ?_
      refine g_iload X dX11_guessedParent_28 rfl rfl ?_
      refine g_rald X (n1 hN) (en1 _ _ _ _) (t0 := 4) rfl (by omega) (by omega) (by decide) dX11_guessedParent_30 rfl ?_
      refine g_astore_6 X dX11_guessedParent_31 rfl (lt_kN hNL rfl) rfl ?_
      have q2 := hl k (by omega) (by omega)
      have fb := faults_b M k (by omega) (by omega)
      refine g_aload X dX11_guessedParent_33 rfl rfl ?_
      refine g_getI X ci8 (n16 hN (by omega) (by omega)) (en16 _ _ _ _) (by decide) fl_X11_137 rfl dX11_guessedParent_35 rfl (fun r35 => ?_)
      refine g_aload_n X dX11_guessedParent_38 rfl rfl ?_
      refine g_getI X ci8 (n16 hN (by omega) (by omega)) (en16 _ _ _ _) (by decide) fl_X11_137 rfl dX11_guessedParent_39 rfl (fun r39 => ?_)
      refine g_icmp_lt (tgt := 63) X dX11_guessedParent_42 rfl rfl (by omega) (by omega) (fun h42 => ?_) (fun h42 => ?_)
      · skip
        refine g_iconst X dX11_guessedParent_63 rfl ?_
        refine g_goto (pc' := 68) X dX11_guessedParent_64 rfl ?_
        refine g_istore_7 X dX11_guessedParent_68 rfl (lt_kN hNL rfl) rfl ?_
        refine g_iload X dX11_guessedParent_70 rfl rfl ?_
        refine g_if_eq (tgt := 104) X dX11_guessedParent_72 rfl rfl (by decide) (fun h => absurd h (by decide)) (fun _ => ?_)
        refine g_aload_n X dX11_guessedParent_75 rfl rfl ?_
        refine g_aload X dX11_guessedParent_76 rfl rfl ?_
        refine g_iV1_v X w_X8_hasFaultsOf ml_X11_328 dX11_guessedParent_78 rfl (n16 hN (by omega) (by omega)) (en16 _ _ _ _) ⟨⟨Nat.le_of_ble_eq_true rfl, Nat.le_of_ble_eq_true rfl⟩, Nat.le_of_ble_eq_true rfl, Nat.le_of_ble_eq_true rfl⟩ (Nat.le_of_ble_eq_true rfl) (c_X8_hasFaultsOf hN (by omega) (by omega) (by omega) (by omega) (by omega) (by omega) (by omega) (by omega)) ?_
        refine g_ifB_eq (tgt := 104) X dX11_guessedParent_81 rfl rfl (fun h81 => ?_) (fun h81 => ?_)
        · skip
          refine g_iinc_5 X dX11_guessedParent_104 rfl (lt_kN hNL rfl) rfl ?_
          refine g_goto (pc' := 15) X dX11_guessedParent_107 rfl ?_
          refine g_drop_6 ?_
          refine g_drop_7 ?_
          exact ih15 (k + 1) _ _ (by omega) (by omega) (by omega) (by
                  rw [gps_s _ _ k0, ← hg, ← hm]; unfold erl
                  first | (rw [cif_t ⟨by omega, by assumption, by omega⟩]; done) | (rw [cif_f (fun z => by omega)]; done) | (rw [cif_f (fun z => absurd z.2.1 (by assumption))]; done)) (by first | assumption | (rw [if_neg (by omega)]))
        · skip
          refine g_aload X dX11_guessedParent_84 rfl rfl ?_
          refine g_iV0_v X w_X8_faults ml_X11_131 dX11_guessedParent_86 rfl (n16 hN (by omega) (by omega)) (en16 _ _ _ _) ⟨⟨Nat.le_of_ble_eq_true rfl, Nat.le_of_ble_eq_true rfl⟩, Nat.le_of_ble_eq_true rfl, Nat.le_of_ble_eq_true rfl⟩ (Nat.le_of_ble_eq_true rfl) (c_X8_faults hN (by omega) (by omega) (by omega) (by omega)) ?_
          refine g_iload X dX11_guessedParent_89 rfl rfl ?_
          refine g_icmp_le (tgt := 104) X dX11_guessedParent_91 rfl rfl (by omega) (by omega) (fun h91 => ?_) (fun h91 => ?_)
          · skip
            refine g_iinc_5 X dX11_guessedParent_104 rfl (lt_kN hNL rfl) rfl ?_
            refine g_goto (pc' := 15) X dX11_guessedParent_107 rfl ?_
            refine g_drop_6 ?_
            refine g_drop_7 ?_
            exact ih15 (k + 1) _ _ (by omega) (by omega) (by omega) (by
                    rw [gps_s _ _ k0, ← hg, ← hm]; unfold erl
                    first | (rw [cif_t ⟨by omega, by assumption, by omega⟩]; done) | (rw [cif_f (fun z => by omega)]; done) | (rw [cif_f (fun z => absurd z.2.1 (by assumption))]; done)) (by first | assumption | (rw [if_neg (by omega)]))
          · skip
            refine g_iload X dX11_guessedParent_94 rfl rfl ?_
            refine g_istore_3 X dX11_guessedParent_96 rfl (lt_kN hNL rfl) rfl ?_
            refine g_aload X dX11_guessedParent_97 rfl rfl ?_
            refine g_iV0_v X w_X8_faults ml_X11_131 dX11_guessedParent_99 rfl (n16 hN (by omega) (by omega)) (en16 _ _ _ _) ⟨⟨Nat.le_of_ble_eq_true rfl, Nat.le_of_ble_eq_true rfl⟩, Nat.le_of_ble_eq_true rfl, Nat.le_of_ble_eq_true rfl⟩ (Nat.le_of_ble_eq_true rfl) (c_X8_faults hN (by omega) (by omega) (by omega) (by omega)) ?_
            refine g_istore_4 X dX11_guessedParent_102 rfl (lt_kN hNL rfl) rfl ?_
            refine g_iinc_5 X dX11_guessedParent_104 rfl (lt_kN hNL rfl) rfl ?_
            refine g_goto (pc' := 15) X dX11_guessedParent_107 rfl ?_
            refine g_drop_6 ?_
            refine g_drop_7 ?_
            exact ih15 (k + 1) _ _ (by omega) (by omega) (by omega) (by
                    rw [gps_s _ _ k0, ← hg, ← hm]; unfold erl
                    first | (rw [cif_t ⟨by omega, by assumption, by omega⟩]; done) | (rw [cif_f (fun z => by omega)]; done) | (rw [cif_f (fun z => absurd z.2.1 (by assumption))]; done)) (by first | assumption | (rw [if_neg (by omega)]))
      · skip
        refine g_aload X dX11_guessedParent_45 rfl rfl ?_
        refine g_getI X ci8 (n16 hN (by omega) (by omega)) (en16 _ _ _ _) (by decide) fl_X11_137 rfl dX11_guessedParent_47 rfl (fun r47 => ?_)
        refine g_aload_n X dX11_guessedParent_50 rfl rfl ?_
        refine g_getI X ci8 (n16 hN (by omega) (by omega)) (en16 _ _ _ _) (by decide) fl_X11_137 rfl dX11_guessedParent_51 rfl (fun r51 => ?_)
        refine g_icmp_ne (tgt := 67) X dX11_guessedParent_54 rfl rfl (by omega) (by omega) (fun h54 => ?_) (fun h54 => ?_)
        · skip
          refine g_iconst X dX11_guessedParent_67 rfl ?_
          refine g_istore_7 X dX11_guessedParent_68 rfl (lt_kN hNL rfl) rfl ?_
          refine g_iload X dX11_guessedParent_70 rfl rfl ?_
          refine g_if_eq (tgt := 104) X dX11_guessedParent_72 rfl rfl (by decide) (fun _ => ?_) (fun h => absurd h (by decide))
          refine g_iinc_5 X dX11_guessedParent_104 rfl (lt_kN hNL rfl) rfl ?_
          refine g_goto (pc' := 15) X dX11_guessedParent_107 rfl ?_
          refine g_drop_6 ?_
          refine g_drop_7 ?_
          exact ih15 (k + 1) _ _ (by omega) (by omega) (by omega) (by
                  rw [gps_s _ _ k0, ← hg, ← hm]; unfold erl
                  first | (rw [cif_t ⟨by omega, by assumption, by omega⟩]; done) | (rw [cif_f (fun z => by omega)]; done) | (rw [cif_f (fun z => absurd z.2.1 (by assumption))]; done)) (by first | assumption | (rw [if_neg (by omega)]))
        · skip
          refine g_iload X dX11_guessedParent_57 rfl rfl ?_
          refine g_iload_n X dX11_guessedParent_59 rfl rfl ?_
          refine g_icmp_ge (tgt := 67) X dX11_guessedParent_60 rfl rfl (by omega) (by omega) (fun h60 => ?_) (fun h60 => ?_)
          · skip
            refine g_iconst X dX11_guessedParent_67 rfl ?_
            refine g_istore_7 X dX11_guessedParent_68 rfl (lt_kN hNL rfl) rfl ?_
            refine g_iload X dX11_guessedParent_70 rfl rfl ?_
            refine g_if_eq (tgt := 104) X dX11_guessedParent_72 rfl rfl (by decide) (fun _ => ?_) (fun h => absurd h (by decide))
            refine g_iinc_5 X dX11_guessedParent_104 rfl (lt_kN hNL rfl) rfl ?_
            refine g_goto (pc' := 15) X dX11_guessedParent_107 rfl ?_
            refine g_drop_6 ?_
            refine g_drop_7 ?_
            exact ih15 (k + 1) _ _ (by omega) (by omega) (by omega) (by
                    rw [gps_s _ _ k0, ← hg, ← hm]; unfold erl
                    first | (rw [cif_t ⟨by omega, by assumption, by omega⟩]; done) | (rw [cif_f (fun z => by omega)]; done) | (rw [cif_f (fun z => absurd z.2.1 (by assumption))]; done)) (by first | assumption | (rw [if_neg (by omega)]))
          · skip
            refine g_iconst X dX11_guessedParent_63 rfl ?_
            refine g_goto (pc' := 68) X dX11_guessedParent_64 rfl ?_
            refine g_istore_7 X dX11_guessedParent_68 rfl (lt_kN hNL rfl) rfl ?_
            refine g_iload X dX11_guessedParent_70 rfl rfl ?_
            refine g_if_eq (tgt := 104) X dX11_guessedParent_72 rfl rfl (by decide) (fun h => absurd h (by decide)) (fun _ => ?_)
            refine g_aload_n X dX11_guessedParent_75 rfl rfl ?_
            refine g_aload X dX11_guessedParent_76 rfl rfl ?_
            refine g_iV1_v X w_X8_hasFaultsOf ml_X11_328 dX11_guessedParent_78 rfl (n16 hN (by omega) (by omega)) (en16 _ _ _ _) ⟨⟨Nat.le_of_ble_eq_true rfl, Nat.le_of_ble_eq_true rfl⟩, Nat.le_of_ble_eq_true rfl, Nat.le_of_ble_eq_true rfl⟩ (Nat.le_of_ble_eq_true rfl) (c_X8_hasFaultsOf hN (by omega) (by omega) (by omega) (by omega) (by omega) (by omega) (by omega) (by omega)) ?_
            refine g_ifB_eq (tgt := 104) X dX11_guessedParent_81 rfl rfl (fun h81 => ?_) (fun h81 => ?_)
            · skip
              refine g_iinc_5 X dX11_guessedParent_104 rfl (lt_kN hNL rfl) rfl ?_
              refine g_goto (pc' := 15) X dX11_guessedParent_107 rfl ?_
              refine g_drop_6 ?_
              refine g_drop_7 ?_
              exact ih15 (k + 1) _ _ (by omega) (by omega) (by omega) (by
                      rw [gps_s _ _ k0, ← hg, ← hm]; unfold erl
                      first | (rw [cif_t ⟨by omega, by assumption, by omega⟩]; done) | (rw [cif_f (fun z => by omega)]; done) | (rw [cif_f (fun z => absurd z.2.1 (by assumption))]; done)) (by first | assumption | (rw [if_neg (by omega)]))
            · skip
              refine g_aload X dX11_guessedParent_84 rfl rfl ?_
              refine g_iV0_v X w_X8_faults ml_X11_131 dX11_guessedParent_86 rfl (n16 hN (by omega) (by omega)) (en16 _ _ _ _) ⟨⟨Nat.le_of_ble_eq_true rfl, Nat.le_of_ble_eq_true rfl⟩, Nat.le_of_ble_eq_true rfl, Nat.le_of_ble_eq_true rfl⟩ (Nat.le_of_ble_eq_true rfl) (c_X8_faults hN (by omega) (by omega) (by omega) (by omega)) ?_
              refine g_iload X dX11_guessedParent_89 rfl rfl ?_
              refine g_icmp_le (tgt := 104) X dX11_guessedParent_91 rfl rfl (by omega) (by omega) (fun h91 => ?_) (fun h91 => ?_)
              · skip
                refine g_iinc_5 X dX11_guessedParent_104 rfl (lt_kN hNL rfl) rfl ?_
                refine g_goto (pc' := 15) X dX11_guessedParent_107 rfl ?_
                refine g_drop_6 ?_
                refine g_drop_7 ?_
                exact ih15 (k + 1) _ _ (by omega) (by omega) (by omega) (by
                        rw [gps_s _ _ k0, ← hg, ← hm]; unfold erl
                        first | (rw [cif_t ⟨by omega, by assumption, by omega⟩]; done) | (rw [cif_f (fun z => by omega)]; done) | (rw [cif_f (fun z => absurd z.2.1 (by assumption))]; done)) (by first | assumption | (rw [if_neg (by omega)]))
              · skip
                refine g_iload X dX11_guessedParent_94 rfl rfl ?_
                refine g_istore_3 X dX11_guessedParent_96 rfl (lt_kN hNL rfl) rfl ?_
                refine g_aload X dX11_guessedParent_97 rfl rfl ?_
                refine g_iV0_v X w_X8_faults ml_X11_131 dX11_guessedParent_99 rfl (n16 hN (by omega) (by omega)) (en16 _ _ _ _) ⟨⟨Nat.le_of_ble_eq_true rfl, Nat.le_of_ble_eq_true rfl⟩, Nat.le_of_ble_eq_true rfl, Nat.le_of_ble_eq_true rfl⟩ (Nat.le_of_ble_eq_true rfl) (c_X8_faults hN (by omega) (by omega) (by omega) (by omega)) ?_
                refine g_istore_4 X dX11_guessedParent_102 rfl (lt_kN hNL rfl) rfl ?_
                refine g_iinc_5 X dX11_guessedParent_104 rfl (lt_kN hNL rfl) rfl ?_
                refine g_goto (pc' := 15) X dX11_guessedParent_107 rfl ?_
                refine g_drop_6 ?_
                refine g_drop_7 ?_
                exact ih15 (k + 1) _ _ (by omega) (by omega) (by omega) (by
                        rw [gps_s _ _ k0, ← hg, ← hm]; unfold erl
                        first | (rw [cif_t ⟨by omega, by assumption, by omega⟩]; done) | (rw [cif_f (fun z => by omega)]; done) | (rw [cif_f (fun z => absurd z.2.1 (by assumption))]; done)) (by first | assumption | (rw [if_neg (by omega)]))
  exact lp15 0 (-1) (-1) (by omega) (by omega) rfl rfl
set_option maxRecDepth 100000 in
set_option maxHeartbeats 4000000 in
theorem c_X11_codesThatCanBeRead {δ : Dx} {nm : List (Nat × Int)} {ad : Ad} {M : Mem} {v : Int} (hN : NmOk nm) (rc : 0 ≤ (M.1 0 1 0 0) ∧ (M.1 0 1 0 0) ≤ 12) (v0 : 0 ≤ v) (v1 : v < 6) (s0 : 0 ≤ (M.1 22 3 v 0) ∧ (M.1 22 3 v 0) ≤ 10) (hs : ∀ s, 0 ≤ s → s < (M.1 22 3 v 0) → 0 ≤ (M.1 23 0 v s) ∧ (M.1 23 0 v s) ≤ (M.1 24 0 v s) ∧ (M.1 24 0 v s) ≤ 999) : Ct δ md_X11_codesThatCanBeRead 0 0 nm ad M [.ref (ad 0 0), .ref (ad 22 v)] (pV (.int (iI (rdN M v))) ad M) := by
  refine Ct_of (ins := .ireturn) (ok := okI) [some (.ref (ad 0 0)), some (.ref (ad 22 v)), none, none, none] (by decide +kernel) rfl (Nat.le_of_ble_eq_true rfl) (fun κ s hs X hr hQ hδ => endI rfl hs X hr hQ hδ) (fun κ X hNL hδ Y => ?_)
  refine g_rm (fun hM => ?_)
  refine g_iconst X dX11_codesThatCanBeRead_0 rfl ?_
  refine g_istore_2 X dX11_codesThatCanBeRead_1 rfl (lt_kN hNL rfl) rfl ?_
  refine g_iconst X dX11_codesThatCanBeRead_2 rfl ?_
  refine g_istore_3 X dX11_codesThatCanBeRead_3 rfl (lt_kN hNL rfl) rfl ?_
  have lp4 : ∀ (a : Int) (s : Int) (k0 : 0 ≤ s) (k1 : s ≤ (M.1 22 3 v 0)) (ha : a = sm (rdS M v) 0 s), G κ nm ad M 4 [some (.ref (ad 0 0)), some (.ref (ad 22 v)), some (.int (iI a)), some (.int (iI s)), none] [] 0 0 := by
    refine ind2 (fun a s => (10 - s).toNat) ?_
    intro a s ih4 k0 k1 ha
    refine g_rm (fun hM4 => ?_)
    have ps := sm_s (rdS M v) (lo := 0) (hi := s) k0
    have pb := sm_b (f := rdS M v) (lo := 0) (hi := s) (c := 1000) k0 (fun k h1 h2 => by have q := hs k h1 (by omega); have q2 := sm_b1 (f := rdT M) (lo := (M.1 23 0 v k)) (hi := (M.1 24 0 v k) + 1) (by omega) (fun k _ _ => bI_b _); unfold rdS; omega)
    refine g_iload_n X dX11_codesThatCanBeRead_4 rfl rfl ?_
    refine g_aload_n X dX11_codesThatCanBeRead_5 rfl rfl ?_
    refine g_getI X ci10 (n22 hN (by omega) (by omega)) (en22 _ _ _ _) (by decide) fl_X11_172 rfl dX11_codesThatCanBeRead_6 rfl (fun r6 => ?_)
    refine g_icmp_ge (tgt := 56) X dX11_codesThatCanBeRead_9 rfl rfl (by omega) (by omega) (fun h9 => ?_) (fun h9 => ?_)
    · skip
      refine g_iload_n X dX11_codesThatCanBeRead_56 rfl rfl ?_
      exact g_ret Y dX11_codesThatCanBeRead_57 ⟨_, rfl⟩ (pVI (by rw [ha, show s = (M.1 22 3 v 0) by omega]; rfl))
    · skip
      have q := hs s (by omega) (by omega)
      refine g_aload_n X dX11_codesThatCanBeRead_12 rfl rfl ?_
      refine g_get X ci10 (n22 hN (by omega) (by omega)) (en22 _ _ _ _) (by decide) fl_X11_212 rfl dX11_codesThatCanBeRead_13 rfl ?_
      refine g_iload_n X dX11_codesThatCanBeRead_16 rfl rfl ?_
      refine g_iald X dX11_codesThatCanBeRead_17 rfl (n23 hN (by omega) (by omega)) (en23 _ _ _ _) (t0 := 0) rfl (by omega) (by omega) (by decide) (fun r17 => ?_)
      refine g_istore_4 X dX11_codesThatCanBeRead_18 rfl (lt_kN hNL rfl) rfl ?_
      have lp20 : ∀ (b : Int) (d : Int) (d0 : (M.1 23 0 v s) ≤ d) (d1 : d ≤ (M.1 24 0 v s) + 1) (hb : b = a + sm (rdT M) (M.1 23 0 v s) d), G κ nm ad M 20 [some (.ref (ad 0 0)), some (.ref (ad 22 v)), some (.int (iI b)), some (.int (iI s)), some (.int (iI d))] [] 0 0 := by
        refine ind2 (fun b d => (1001 - d).toNat) ?_
        intro b d ih20 d0 d1 hb
        refine g_rm (fun hM20 => ?_)
        have pt := sm_s (rdT M) (lo := (M.1 23 0 v s)) (hi := d) d0
        have pd := sm_b1 (f := rdT M) (lo := (M.1 23 0 v s)) (hi := d) d0 (fun k _ _ => bI_b _)
        refine g_iload X dX11_codesThatCanBeRead_20 rfl rfl ?_
        refine g_aload_n X dX11_codesThatCanBeRead_22 rfl rfl ?_
        refine g_get X ci10 (n22 hN (by omega) (by omega)) (en22 _ _ _ _) (by decide) fl_X11_215 rfl dX11_codesThatCanBeRead_23 rfl ?_
        refine g_iload_n X dX11_codesThatCanBeRead_26 rfl rfl ?_
        refine g_iald X dX11_codesThatCanBeRead_27 rfl (n24 hN (by omega) (by omega)) (en24 _ _ _ _) (t0 := 0) rfl (by omega) (by omega) (by decide) (fun r27 => ?_)
        refine g_icmp_gt (tgt := 50) X dX11_codesThatCanBeRead_28 rfl rfl (by omega) (by omega) (fun h28 => ?_) (fun h28 => ?_)
        · skip
          refine g_iinc_3 X dX11_codesThatCanBeRead_50 rfl (lt_kN hNL rfl) rfl ?_
          refine g_goto (pc' := 4) X dX11_codesThatCanBeRead_53 rfl ?_
          refine g_drop_4 ?_
          exact ih4 _ (s + 1) (by omega) (by omega) (by omega) (by rw [ps, hb, ha, show d = (M.1 24 0 v s) + 1 by omega]; rfl)
        · skip
          refine g_aload_n X dX11_codesThatCanBeRead_31 rfl rfl ?_
          refine g_iload X dX11_codesThatCanBeRead_32 rfl rfl ?_
          have bb := best_b M d (by omega)
          refine g_iV1_v X w_X11_bestReelWith ml_X11_338 dX11_codesThatCanBeRead_34 rfl (n0 hN) (en0 _ _ _ _) ⟨⟨Nat.le_of_ble_eq_true rfl, Nat.le_of_ble_eq_true rfl⟩, Nat.le_of_ble_eq_true rfl, Nat.le_of_ble_eq_true rfl⟩ (Nat.le_of_ble_eq_true rfl) (c_X11_bestReelWith hN (by omega) (by omega) (by omega)) ?_
          refine g_iconst X dX11_codesThatCanBeRead_37 rfl ?_
          refine g_icmp_eq (tgt := 44) X dX11_codesThatCanBeRead_38 rfl rfl (by omega) (by omega) (fun h38 => ?_) (fun h38 => ?_)
          · skip
            refine g_iinc_4 X dX11_codesThatCanBeRead_44 rfl (lt_kN hNL rfl) rfl ?_
            refine g_goto (pc' := 20) X dX11_codesThatCanBeRead_47 rfl ?_
            exact ih20 _ (d + 1) (by omega) (by omega) (by omega) (by rw [pt, hb]; unfold rdT; first | (rw [bI_t (by assumption)]; omega) | (rw [bI_f (fun q => absurd (by assumption) q)]; omega))
          · skip
            refine g_iinc_2 X dX11_codesThatCanBeRead_41 rfl (lt_kN hNL rfl) rfl ?_
            refine g_iinc_4 X dX11_codesThatCanBeRead_44 rfl (lt_kN hNL rfl) rfl ?_
            refine g_goto (pc' := 20) X dX11_codesThatCanBeRead_47 rfl ?_
            exact ih20 _ (d + 1) (by omega) (by omega) (by omega) (by rw [pt, hb]; unfold rdT; first | (rw [bI_t (by assumption)]; omega) | (rw [bI_f (fun q => absurd (by assumption) q)]; omega))
      exact lp20 a _ (by omega) (by omega) (by rw [sm_0 _ (by omega)]; omega)
  exact lp4 0 0 (by omega) (by omega) (sm_0 _ (by omega)).symm
