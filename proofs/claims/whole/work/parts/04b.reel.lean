set_option maxRecDepth 100000 in
set_option maxHeartbeats 4000000 in
theorem c_X8_isBetterThan {δ : Dx} {nm : List (Nat × Int)} {ad : Ad} {M : Mem} {i o : Int} (hN : NmOk nm) (i0 : 0 ≤ i) (i1 : i < 12) (o0 : 0 ≤ o) (o1 : o < 12) : Ct δ md_X8_isBetterThan 0 0 nm ad M [.ref (ad 16 i), .ref (ad 16 o)] (pV (.int (iI (bI ((M.1 16 4 i 0) < (M.1 16 4 o 0) ∨ ((M.1 16 4 i 0) = (M.1 16 4 o 0) ∧ (M.1 16 3 i 0) < (M.1 16 3 o 0)))))) ad M) := by
  refine Ct_of (ins := .ireturn) (ok := okZ) [some (.ref (ad 16 i)), some (.ref (ad 16 o))] (by decide +kernel) rfl (Nat.le_of_ble_eq_true rfl) (fun κ s hs X hr hQ hδ => endZ rfl hs X hr hQ hδ) (fun κ X hNL hδ Y => ?_)
  refine g_rm (fun hM => ?_)
  refine g_aload_n X dX8_isBetterThan_0 rfl rfl ?_
  refine g_getI X ci8 (n16 hN (by omega) (by omega)) (en16 _ _ _ _) (by decide) fl_X8_42 rfl dX8_isBetterThan_1 rfl (fun r1 => ?_)
  refine g_aload_n X dX8_isBetterThan_4 rfl rfl ?_
  refine g_getI X ci8 (n16 hN (by omega) (by omega)) (en16 _ _ _ _) (by decide) fl_X8_42 rfl dX8_isBetterThan_5 rfl (fun r5 => ?_)
  refine g_icmp_lt (tgt := 33) X dX8_isBetterThan_8 rfl rfl (by omega) (by omega) (fun h8 => ?_) (fun h8 => ?_)
  · skip
    refine g_iconst X dX8_isBetterThan_33 rfl ?_
    refine g_goto (pc' := 38) X dX8_isBetterThan_34 rfl ?_
    exact g_ret Y dX8_isBetterThan_38 okZ1 (pVt (by omega))
  · skip
    refine g_aload_n X dX8_isBetterThan_11 rfl rfl ?_
    refine g_getI X ci8 (n16 hN (by omega) (by omega)) (en16 _ _ _ _) (by decide) fl_X8_42 rfl dX8_isBetterThan_12 rfl (fun r12 => ?_)
    refine g_aload_n X dX8_isBetterThan_15 rfl rfl ?_
    refine g_getI X ci8 (n16 hN (by omega) (by omega)) (en16 _ _ _ _) (by decide) fl_X8_42 rfl dX8_isBetterThan_16 rfl (fun r16 => ?_)
    refine g_icmp_ne (tgt := 37) X dX8_isBetterThan_19 rfl rfl (by omega) (by omega) (fun h19 => ?_) (fun h19 => ?_)
    · skip
      refine g_iconst X dX8_isBetterThan_37 rfl ?_
      exact g_ret Y dX8_isBetterThan_38 okZ0 (pVf (by omega))
    · skip
      refine g_aload_n X dX8_isBetterThan_22 rfl rfl ?_
      refine g_getI X ci8 (n16 hN (by omega) (by omega)) (en16 _ _ _ _) (by decide) fl_X8_39 rfl dX8_isBetterThan_23 rfl (fun r23 => ?_)
      refine g_aload_n X dX8_isBetterThan_26 rfl rfl ?_
      refine g_getI X ci8 (n16 hN (by omega) (by omega)) (en16 _ _ _ _) (by decide) fl_X8_39 rfl dX8_isBetterThan_27 rfl (fun r27 => ?_)
      refine g_icmp_ge (tgt := 37) X dX8_isBetterThan_30 rfl rfl (by omega) (by omega) (fun h30 => ?_) (fun h30 => ?_)
      · skip
        refine g_iconst X dX8_isBetterThan_37 rfl ?_
        exact g_ret Y dX8_isBetterThan_38 okZ0 (pVf (by omega))
      · skip
        refine g_iconst X dX8_isBetterThan_33 rfl ?_
        refine g_goto (pc' := 38) X dX8_isBetterThan_34 rfl ?_
        exact g_ret Y dX8_isBetterThan_38 okZ1 (pVt (by omega))
set_option maxRecDepth 100000 in
set_option maxHeartbeats 4000000 in
theorem c_X8_jumps {δ : Dx} {nm : List (Nat × Int)} {ad : Ad} {M : Mem} {i : Int} (hN : NmOk nm) (i0 : 0 ≤ i) (i1 : i < 12) (f0 : 0 ≤ (M.1 16 6 i 0) ∧ (M.1 16 6 i 0) ≤ 60) (hc : ∀ j, 0 ≤ j → j < (M.1 16 6 i 0) → 0 ≤ (M.1 17 0 i j) ∧ (M.1 17 0 i j) ≤ 999) : Ct δ md_X8_jumps 0 0 nm ad M [.ref (ad 16 i)] (pV (.int (iI (jumps M i))) ad M) := by
  refine Ct_of (ins := .ireturn) (ok := okI) [some (.ref (ad 16 i)), none, none] (by decide +kernel) rfl (Nat.le_of_ble_eq_true rfl) (fun κ s hs X hr hQ hδ => endI rfl hs X hr hQ hδ) (fun κ X hNL hδ Y => ?_)
  refine g_rm (fun hM => ?_)
  refine g_iconst X dX8_jumps_0 rfl ?_
  refine g_istore_1 X dX8_jumps_1 rfl (lt_kN hNL rfl) rfl ?_
  refine g_iconst X dX8_jumps_2 rfl ?_
  refine g_istore_2 X dX8_jumps_3 rfl (lt_kN hNL rfl) rfl ?_
  have lp4 : ∀ (a : Int) (j : Int) (j0 : 1 ≤ j) (j1 : j ≤ (M.1 16 6 i 0) ∨ j = 1) (ha : a = sm (jterm M i) 1 j), G κ nm ad M 4 [some (.ref (ad 16 i)), some (.int (iI a)), some (.int (iI j))] [] 0 0 := by
    refine ind2 (fun a j => (60 - j).toNat) ?_
    intro a j ih4 j0 j1 ha
    refine g_rm (fun hM4 => ?_)
    have pb := sm_b1 (f := jterm M i) (lo := 1) (hi := j) j0 (fun k _ _ => bI_b _)
    have ps := sm_s (jterm M i) (lo := 1) (hi := j) j0
    refine g_iload_n X dX8_jumps_4 rfl rfl ?_
    refine g_aload_n X dX8_jumps_5 rfl rfl ?_
    refine g_getI X ci8 (n16 hN (by omega) (by omega)) (en16 _ _ _ _) (by decide) fl_X8_57 rfl dX8_jumps_6 rfl (fun r6 => ?_)
    refine g_icmp_ge (tgt := 40) X dX8_jumps_9 rfl rfl (by omega) (by omega) (fun h9 => ?_) (fun h9 => ?_)
    · skip
      refine g_iload_n X dX8_jumps_40 rfl rfl ?_
      exact g_ret Y dX8_jumps_41 ⟨_, rfl⟩ (pVI (by rw [ha]; unfold jumps; rcases j1 with q | q <;> first | (rw [show j = (M.1 16 6 i 0) by omega]; done) | (rw [q, sm_0 _ (by omega), sm_0 _ (by omega)]; done)))
    · skip
      have hj := hc j (by omega) (by omega)
      have hj1 := hc (j - 1) (by omega) (by omega)
      refine g_aload_n X dX8_jumps_12 rfl rfl ?_
      refine g_get X ci8 (n16 hN (by omega) (by omega)) (en16 _ _ _ _) (by decide) fl_X8_9 rfl dX8_jumps_13 rfl ?_
      refine g_iload_n X dX8_jumps_16 rfl rfl ?_
      refine g_iald X dX8_jumps_17 rfl (n17 hN (by omega) (by omega)) (en17 _ _ _ _) (t0 := 0) rfl (by omega) (by omega) (by decide) (fun r17 => ?_)
      refine g_aload_n X dX8_jumps_18 rfl rfl ?_
      refine g_get X ci8 (n16 hN (by omega) (by omega)) (en16 _ _ _ _) (by decide) fl_X8_9 rfl dX8_jumps_19 rfl ?_
      refine g_iload_n X dX8_jumps_22 rfl rfl ?_
      refine g_iconst X dX8_jumps_23 rfl ?_
      refine g_isub X dX8_jumps_24 rfl ?_
      refine g_iald X dX8_jumps_25 rfl (n17 hN (by omega) (by omega)) (en17 _ _ _ _) (t0 := 0) rfl (by omega) (by omega) (by decide) (fun r25 => ?_)
      refine g_iconst X dX8_jumps_26 rfl ?_
      refine g_iadd X dX8_jumps_27 rfl ?_
      refine g_icmp_eq (tgt := 34) X dX8_jumps_28 rfl rfl (by omega) (by omega) (fun h28 => ?_) (fun h28 => ?_)
      · skip
        refine g_iinc_2 X dX8_jumps_34 rfl (lt_kN hNL rfl) rfl ?_
        refine g_goto (pc' := 4) X dX8_jumps_37 rfl ?_
        exact ih4 _ (j + 1) (by omega) (by omega) (by omega) (by rw [ps, ha]; unfold jterm; first | rw [bI_t (by assumption)] | (rw [bI_f (by omega)]; omega))
      · skip
        refine g_iinc_1 X dX8_jumps_31 rfl (lt_kN hNL rfl) rfl ?_
        refine g_iinc_2 X dX8_jumps_34 rfl (lt_kN hNL rfl) rfl ?_
        refine g_goto (pc' := 4) X dX8_jumps_37 rfl ?_
        exact ih4 _ (j + 1) (by omega) (by omega) (by omega) (by rw [ps, ha]; unfold jterm; first | rw [bI_t (by assumption)] | (rw [bI_f (by omega)]; omega))
  exact lp4 0 1 (by omega) (by omega) (sm_0 _ (by omega)).symm
set_option maxRecDepth 100000 in
set_option maxHeartbeats 4000000 in
theorem c_X8_missingCodes {δ : Dx} {nm : List (Nat × Int)} {ad : Ad} {M : Mem} {i : Int} (hN : NmOk nm) (i0 : 0 ≤ i) (i1 : i < 12) (l0 : 0 ≤ (M.1 16 8 i 0) ∧ (M.1 16 8 i 0) ≤ 1000) (g0 : -1 ≤ (M.1 16 9 i 0) ∧ (M.1 16 9 i 0) ≤ 999) : Ct δ md_X8_missingCodes 0 0 nm ad M [.ref (ad 16 i)] (pV (.int (iI (missing M i))) ad M) := by
  refine Ct_of (ins := .ireturn) (ok := okI) [some (.ref (ad 16 i)), none, none] (by decide +kernel) rfl (Nat.le_of_ble_eq_true rfl) (fun κ s hs X hr hQ hδ => endI rfl hs X hr hQ hδ) (fun κ X hNL hδ Y => ?_)
  refine g_rm (fun hM => ?_)
  refine g_iconst X dX8_missingCodes_0 rfl ?_
  refine g_istore_1 X dX8_missingCodes_1 rfl (lt_kN hNL rfl) rfl ?_
  refine g_aload_n X dX8_missingCodes_2 rfl rfl ?_
  refine g_getI X ci8 (n16 hN (by omega) (by omega)) (en16 _ _ _ _) (by decide) fl_X8_45 rfl dX8_missingCodes_3 rfl (fun r3 => ?_)
  refine g_istore_2 X dX8_missingCodes_6 rfl (lt_kN hNL rfl) rfl ?_
  have lp7 : ∀ (a : Int) (c : Int) (k0 : (M.1 16 8 i 0) ≤ c) (k1 : c ≤ (M.1 16 9 i 0) + 1 ∨ c = (M.1 16 8 i 0)) (ha : a = sm (mterm M i) (M.1 16 8 i 0) c), G κ nm ad M 7 [some (.ref (ad 16 i)), some (.int (iI a)), some (.int (iI c))] [] 0 0 := by
    refine ind2 (fun a c => (1001 - c).toNat) ?_
    intro a c ih7 k0 k1 ha
    refine g_rm (fun hM7 => ?_)
    have pb := sm_b1 (f := mterm M i) (lo := (M.1 16 8 i 0)) (hi := c) k0 (fun k _ _ => bI_b _)
    have ps := sm_s (mterm M i) (lo := (M.1 16 8 i 0)) (hi := c) k0
    refine g_iload_n X dX8_missingCodes_7 rfl rfl ?_
    refine g_aload_n X dX8_missingCodes_8 rfl rfl ?_
    refine g_getI X ci8 (n16 hN (by omega) (by omega)) (en16 _ _ _ _) (by decide) fl_X8_48 rfl dX8_missingCodes_9 rfl (fun r9 => ?_)
    refine g_icmp_gt (tgt := 32) X dX8_missingCodes_12 rfl rfl (by omega) (by omega) (fun h12 => ?_) (fun h12 => ?_)
    · skip
      refine g_iload_n X dX8_missingCodes_32 rfl rfl ?_
      exact g_ret Y dX8_missingCodes_33 ⟨_, rfl⟩ (pVI (by rw [ha]; unfold missing; rcases k1 with q | q <;> first | (rw [show c = (M.1 16 9 i 0) + 1 by omega]; done) | (rw [q, sm_0 _ (by omega), sm_0 _ (by omega)]; done)))
    · skip
      refine g_aload_n X dX8_missingCodes_15 rfl rfl ?_
      refine g_iload_n X dX8_missingCodes_16 rfl rfl ?_
      refine g_iV1_v X w_X8_hasCode ml_X8_88 dX8_missingCodes_17 rfl (n16 hN (by omega) (by omega)) (en16 _ _ _ _) ⟨⟨Nat.le_of_ble_eq_true rfl, Nat.le_of_ble_eq_true rfl⟩, Nat.le_of_ble_eq_true rfl, Nat.le_of_ble_eq_true rfl⟩ (Nat.le_of_ble_eq_true rfl) (c_X8_hasCode hN (by omega) (by omega) (by omega) (by omega)) ?_
      refine g_ifB_ne (tgt := 26) X dX8_missingCodes_20 rfl rfl (fun h20 => ?_) (fun h20 => ?_)
      · skip
        refine g_iinc_2 X dX8_missingCodes_26 rfl (lt_kN hNL rfl) rfl ?_
        refine g_goto (pc' := 7) X dX8_missingCodes_29 rfl ?_
        exact ih7 _ (c + 1) (by omega) (by omega) (by omega) (by rw [ps, ha]; unfold mterm; first | (rw [bI_t (by omega)]) | (rw [bI_f (by omega)]; omega))
      · skip
        refine g_iinc_1 X dX8_missingCodes_23 rfl (lt_kN hNL rfl) rfl ?_
        refine g_iinc_2 X dX8_missingCodes_26 rfl (lt_kN hNL rfl) rfl ?_
        refine g_goto (pc' := 7) X dX8_missingCodes_29 rfl ?_
        exact ih7 _ (c + 1) (by omega) (by omega) (by omega) (by rw [ps, ha]; unfold mterm; first | (rw [bI_t (by omega)]) | (rw [bI_f (by omega)]; omega))
  exact lp7 0 _ (by omega) (by omega) (sm_0 _ (by omega)).symm
set_option maxRecDepth 100000 in
set_option maxHeartbeats 4000000 in
theorem c_X8_isFault {δ : Dx} {nm : List (Nat × Int)} {ad : Ad} {M : Mem} {i c : Int} (hN : NmOk nm) (i0 : 0 ≤ i) (i1 : i < 12) (l0 : 0 ≤ (M.1 16 8 i 0) ∧ (M.1 16 8 i 0) ≤ 1000) (g0 : -1 ≤ (M.1 16 9 i 0) ∧ (M.1 16 9 i 0) ≤ 999) (c0 : 0 ≤ c) (c1 : c ≤ 999) : Ct δ md_X8_isFault 0 0 nm ad M [.ref (ad 16 i), .int (iI c)] (pV (.int (iI (bI (isF M i c)))) ad M) := by
  refine Ct_of (ins := .ireturn) (ok := okZ) [some (.ref (ad 16 i)), some (.int (iI c))] (by decide +kernel) rfl (Nat.le_of_ble_eq_true rfl) (fun κ s hs X hr hQ hδ => endZ rfl hs X hr hQ hδ) (fun κ X hNL hδ Y => ?_)
  refine g_rm (fun hM => ?_)
  refine g_aload_n X dX8_isFault_0 rfl rfl ?_
  refine g_get X ci8 (n16 hN (by omega) (by omega)) (en16 _ _ _ _) (by decide) fl_X8_26 rfl dX8_isFault_1 rfl ?_
  refine g_iload_n X dX8_isFault_4 rfl rfl ?_
  refine g_zald X dX8_isFault_5 rfl (n21 hN (by omega) (by omega)) (en21 _ _ _ _) (t0 := 2) rfl (by omega) (by omega) (by decide) (fun r5 => ?_)
  refine g_if_ne (tgt := 33) X dX8_isFault_6 rfl rfl (by omega) (fun h6 => ?_) (fun h6 => ?_)
  · skip
    refine g_iconst X dX8_isFault_33 rfl ?_
    refine g_goto (pc' := 38) X dX8_isFault_34 rfl ?_
    exact g_ret Y dX8_isFault_38 okZ1 (pVt (by unfold isF; omega))
  · skip
    refine g_iload_n X dX8_isFault_9 rfl rfl ?_
    refine g_aload_n X dX8_isFault_10 rfl rfl ?_
    refine g_getI X ci8 (n16 hN (by omega) (by omega)) (en16 _ _ _ _) (by decide) fl_X8_45 rfl dX8_isFault_11 rfl (fun r11 => ?_)
    refine g_icmp_le (tgt := 37) X dX8_isFault_14 rfl rfl (by omega) (by omega) (fun h14 => ?_) (fun h14 => ?_)
    · skip
      refine g_iconst X dX8_isFault_37 rfl ?_
      exact g_ret Y dX8_isFault_38 okZ0 (pVf (by unfold isF; omega))
    · skip
      refine g_iload_n X dX8_isFault_17 rfl rfl ?_
      refine g_aload_n X dX8_isFault_18 rfl rfl ?_
      refine g_getI X ci8 (n16 hN (by omega) (by omega)) (en16 _ _ _ _) (by decide) fl_X8_48 rfl dX8_isFault_19 rfl (fun r19 => ?_)
      refine g_icmp_ge (tgt := 37) X dX8_isFault_22 rfl rfl (by omega) (by omega) (fun h22 => ?_) (fun h22 => ?_)
      · skip
        refine g_iconst X dX8_isFault_37 rfl ?_
        exact g_ret Y dX8_isFault_38 okZ0 (pVf (by unfold isF; omega))
      · skip
        refine g_aload_n X dX8_isFault_25 rfl rfl ?_
        refine g_iload_n X dX8_isFault_26 rfl rfl ?_
        refine g_iV1_v X w_X8_hasCode ml_X8_88 dX8_isFault_27 rfl (n16 hN (by omega) (by omega)) (en16 _ _ _ _) ⟨⟨Nat.le_of_ble_eq_true rfl, Nat.le_of_ble_eq_true rfl⟩, Nat.le_of_ble_eq_true rfl, Nat.le_of_ble_eq_true rfl⟩ (Nat.le_of_ble_eq_true rfl) (c_X8_hasCode hN (by omega) (by omega) (by omega) (by omega)) ?_
        refine g_ifB_ne (tgt := 37) X dX8_isFault_30 rfl rfl (fun h30 => ?_) (fun h30 => ?_)
        · skip
          refine g_iconst X dX8_isFault_37 rfl ?_
          exact g_ret Y dX8_isFault_38 okZ0 (pVf (by unfold isF; omega))
        · skip
          refine g_iconst X dX8_isFault_33 rfl ?_
          refine g_goto (pc' := 38) X dX8_isFault_34 rfl ?_
          exact g_ret Y dX8_isFault_38 okZ1 (pVt (by unfold isF; omega))
set_option maxRecDepth 100000 in
set_option maxHeartbeats 4000000 in
theorem c_X8_faults {δ : Dx} {nm : List (Nat × Int)} {ad : Ad} {M : Mem} {i : Int} (hN : NmOk nm) (i0 : 0 ≤ i) (i1 : i < 12) (l0 : 0 ≤ (M.1 16 8 i 0) ∧ (M.1 16 8 i 0) ≤ 1000) (g0 : -1 ≤ (M.1 16 9 i 0) ∧ (M.1 16 9 i 0) ≤ 999) : Ct δ md_X8_faults 0 0 nm ad M [.ref (ad 16 i)] (pV (.int (iI (faults M i))) ad M) := by
  refine Ct_of (ins := .ireturn) (ok := okI) [some (.ref (ad 16 i)), none, none] (by decide +kernel) rfl (Nat.le_of_ble_eq_true rfl) (fun κ s hs X hr hQ hδ => endI rfl hs X hr hQ hδ) (fun κ X hNL hδ Y => ?_)
  refine g_rm (fun hM => ?_)
  refine g_iconst X dX8_faults_0 rfl ?_
  refine g_istore_1 X dX8_faults_1 rfl (lt_kN hNL rfl) rfl ?_
  refine g_aload_n X dX8_faults_2 rfl rfl ?_
  refine g_getI X ci8 (n16 hN (by omega) (by omega)) (en16 _ _ _ _) (by decide) fl_X8_45 rfl dX8_faults_3 rfl (fun r3 => ?_)
  refine g_istore_2 X dX8_faults_6 rfl (lt_kN hNL rfl) rfl ?_
  have lp7 : ∀ (a : Int) (c : Int) (k0 : (M.1 16 8 i 0) ≤ c) (k1 : c ≤ (M.1 16 9 i 0) + 1 ∨ c = (M.1 16 8 i 0)) (ha : a = sm (fterm M i) (M.1 16 8 i 0) c), G κ nm ad M 7 [some (.ref (ad 16 i)), some (.int (iI a)), some (.int (iI c))] [] 0 0 := by
    refine ind2 (fun a c => (1001 - c).toNat) ?_
    intro a c ih7 k0 k1 ha
    refine g_rm (fun hM7 => ?_)
    have pb := sm_b1 (f := fterm M i) (lo := (M.1 16 8 i 0)) (hi := c) k0 (fun k _ _ => bI_b _)
    have ps := sm_s (fterm M i) (lo := (M.1 16 8 i 0)) (hi := c) k0
    refine g_iload_n X dX8_faults_7 rfl rfl ?_
    refine g_aload_n X dX8_faults_8 rfl rfl ?_
    refine g_getI X ci8 (n16 hN (by omega) (by omega)) (en16 _ _ _ _) (by decide) fl_X8_48 rfl dX8_faults_9 rfl (fun r9 => ?_)
    refine g_icmp_gt (tgt := 32) X dX8_faults_12 rfl rfl (by omega) (by omega) (fun h12 => ?_) (fun h12 => ?_)
    · skip
      refine g_iload_n X dX8_faults_32 rfl rfl ?_
      exact g_ret Y dX8_faults_33 ⟨_, rfl⟩ (pVI (by rw [ha]; unfold faults; rcases k1 with q | q <;> first | (rw [show c = (M.1 16 9 i 0) + 1 by omega]; done) | (rw [q, sm_0 _ (by omega), sm_0 _ (by omega)]; done)))
    · skip
      refine g_aload_n X dX8_faults_15 rfl rfl ?_
      refine g_iload_n X dX8_faults_16 rfl rfl ?_
      refine g_iV1_v X w_X8_isFault ml_X8_92 dX8_faults_17 rfl (n16 hN (by omega) (by omega)) (en16 _ _ _ _) ⟨⟨Nat.le_of_ble_eq_true rfl, Nat.le_of_ble_eq_true rfl⟩, Nat.le_of_ble_eq_true rfl, Nat.le_of_ble_eq_true rfl⟩ (Nat.le_of_ble_eq_true rfl) (c_X8_isFault hN (by omega) (by omega) (by omega) (by omega) (by omega) (by omega)) ?_
      refine g_ifB_eq (tgt := 26) X dX8_faults_20 rfl rfl (fun h20 => ?_) (fun h20 => ?_)
      · skip
        refine g_iinc_2 X dX8_faults_26 rfl (lt_kN hNL rfl) rfl ?_
        refine g_goto (pc' := 7) X dX8_faults_29 rfl ?_
        exact ih7 _ (c + 1) (by omega) (by omega) (by omega) (by rw [ps, ha]; unfold fterm; first | (rw [bI_t (by assumption)]) | (rw [bI_f (by assumption)]; omega))
      · skip
        refine g_iinc_1 X dX8_faults_23 rfl (lt_kN hNL rfl) rfl ?_
        refine g_iinc_2 X dX8_faults_26 rfl (lt_kN hNL rfl) rfl ?_
        refine g_goto (pc' := 7) X dX8_faults_29 rfl ?_
        exact ih7 _ (c + 1) (by omega) (by omega) (by omega) (by rw [ps, ha]; unfold fterm; first | (rw [bI_t (by assumption)]) | (rw [bI_f (by assumption)]; omega))
  exact lp7 0 _ (by omega) (by omega) (sm_0 _ (by omega)).symm
set_option maxRecDepth 100000 in
set_option maxHeartbeats 4000000 in
theorem c_X8_hasFaultsOf {δ : Dx} {nm : List (Nat × Int)} {ad : Ad} {M : Mem} {i o : Int} (hN : NmOk nm) (i0 : 0 ≤ i) (i1 : i < 12) (o0 : 0 ≤ o) (o1 : o < 12) (l0 : 0 ≤ (M.1 16 8 i 0) ∧ (M.1 16 8 i 0) ≤ 1000) (g0 : -1 ≤ (M.1 16 9 i 0) ∧ (M.1 16 9 i 0) ≤ 999) (lo0 : 0 ≤ (M.1 16 8 o 0) ∧ (M.1 16 8 o 0) ≤ 1000) (go0 : -1 ≤ (M.1 16 9 o 0) ∧ (M.1 16 9 o 0) ≤ 999) : Ct δ md_X8_hasFaultsOf 0 0 nm ad M [.ref (ad 16 i), .ref (ad 16 o)] (pV (.int (iI (bI (hasFs M i o)))) ad M) := by
  refine Ct_of (ins := .ireturn) (ok := okZ) [some (.ref (ad 16 i)), some (.ref (ad 16 o)), none] (by decide +kernel) rfl (Nat.le_of_ble_eq_true rfl) (fun κ s hs X hr hQ hδ => endZ rfl hs X hr hQ hδ) (fun κ X hNL hδ Y => ?_)
  refine g_rm (fun hM => ?_)
  refine g_aload_n X dX8_hasFaultsOf_0 rfl rfl ?_
  refine g_getI X ci8 (n16 hN (by omega) (by omega)) (en16 _ _ _ _) (by decide) fl_X8_45 rfl dX8_hasFaultsOf_1 rfl (fun r1 => ?_)
  refine g_istore_2 X dX8_hasFaultsOf_4 rfl (lt_kN hNL rfl) rfl ?_
  have lp5 : ∀ (c : Int) (k0 : (M.1 16 8 o 0) ≤ c) (k1 : c ≤ 1000) (ha : ∀ d, (M.1 16 8 o 0) ≤ d → d < c → isF M o d → isF M i d), G κ nm ad M 5 [some (.ref (ad 16 i)), some (.ref (ad 16 o)), some (.int (iI c))] [] 0 0 := by
    refine ind1 (fun c => (1001 - c).toNat) ?_
    intro c ih5 k0 k1 ha
    refine g_rm (fun hM5 => ?_)
    refine g_iload_n X dX8_hasFaultsOf_5 rfl rfl ?_
    refine g_aload_n X dX8_hasFaultsOf_6 rfl rfl ?_
    refine g_getI X ci8 (n16 hN (by omega) (by omega)) (en16 _ _ _ _) (by decide) fl_X8_48 rfl dX8_hasFaultsOf_7 rfl (fun r7 => ?_)
    refine g_icmp_gt (tgt := 37) X dX8_hasFaultsOf_10 rfl rfl (by omega) (by omega) (fun h10 => ?_) (fun h10 => ?_)
    · skip
      refine g_iconst X dX8_hasFaultsOf_37 rfl ?_
      exact g_ret Y dX8_hasFaultsOf_38 okZ1 (pVt (fun d h1 h2 h3 => ha d h1 (by omega) h3))
    · skip
      refine g_aload_n X dX8_hasFaultsOf_13 rfl rfl ?_
      refine g_iload_n X dX8_hasFaultsOf_14 rfl rfl ?_
      refine g_iV1_v X w_X8_isFault ml_X8_92 dX8_hasFaultsOf_15 rfl (n16 hN (by omega) (by omega)) (en16 _ _ _ _) ⟨⟨Nat.le_of_ble_eq_true rfl, Nat.le_of_ble_eq_true rfl⟩, Nat.le_of_ble_eq_true rfl, Nat.le_of_ble_eq_true rfl⟩ (Nat.le_of_ble_eq_true rfl) (c_X8_isFault hN (by omega) (by omega) (by omega) (by omega) (by omega) (by omega)) ?_
      refine g_ifB_eq (tgt := 31) X dX8_hasFaultsOf_18 rfl rfl (fun h18 => ?_) (fun h18 => ?_)
      · skip
        refine g_iinc_2 X dX8_hasFaultsOf_31 rfl (lt_kN hNL rfl) rfl ?_
        refine g_goto (pc' := 5) X dX8_hasFaultsOf_34 rfl ?_
        exact ih5 (c + 1) (by omega) (by omega) (by omega) (fun d h1 h2 h3 => (Int.lt_or_eq_of_le (Int.le_of_lt_add_one h2)).elim (fun q => ha d h1 q h3) (fun q => by subst q; first | exact absurd h3 (by assumption) | assumption))
      · skip
        refine g_aload_n X dX8_hasFaultsOf_21 rfl rfl ?_
        refine g_iload_n X dX8_hasFaultsOf_22 rfl rfl ?_
        refine g_iV1_v X w_X8_isFault ml_X8_92 dX8_hasFaultsOf_23 rfl (n16 hN (by omega) (by omega)) (en16 _ _ _ _) ⟨⟨Nat.le_of_ble_eq_true rfl, Nat.le_of_ble_eq_true rfl⟩, Nat.le_of_ble_eq_true rfl, Nat.le_of_ble_eq_true rfl⟩ (Nat.le_of_ble_eq_true rfl) (c_X8_isFault hN (by omega) (by omega) (by omega) (by omega) (by omega) (by omega)) ?_
        refine g_ifB_ne (tgt := 31) X dX8_hasFaultsOf_26 rfl rfl (fun h26 => ?_) (fun h26 => ?_)
        · skip
          refine g_iinc_2 X dX8_hasFaultsOf_31 rfl (lt_kN hNL rfl) rfl ?_
          refine g_goto (pc' := 5) X dX8_hasFaultsOf_34 rfl ?_
          exact ih5 (c + 1) (by omega) (by omega) (by omega) (fun d h1 h2 h3 => (Int.lt_or_eq_of_le (Int.le_of_lt_add_one h2)).elim (fun q => ha d h1 q h3) (fun q => by subst q; first | exact absurd h3 (by assumption) | assumption))
        · skip
          refine g_iconst X dX8_hasFaultsOf_29 rfl ?_
          exact g_ret Y dX8_hasFaultsOf_30 okZ0 (pVf (fun q => by have q2 := q c (by omega) (by omega) (by assumption); exact absurd q2 (by assumption)))
  exact lp5 _ (by omega) (by omega) (fun d h1 h2 => absurd h2 (by omega))
set_option maxRecDepth 100000 in
set_option maxHeartbeats 4000000 in
theorem c_X8_yearlyDecay {δ : Dx} {nm : List (Nat × Int)} {ad : Ad} {M : Mem} {i : Int} (hN : NmOk nm) (i0 : 0 ≤ i) (i1 : i < 12) : Ct δ md_X8_yearlyDecay 0 0 nm ad M [.ref (ad 16 i)] (pV (.int (iI (yearly M i))) ad M) := by
  refine Ct_of (ins := .ireturn) (ok := okI) [some (.ref (ad 16 i)), none] (by decide +kernel) rfl (Nat.le_of_ble_eq_true rfl) (fun κ s hs X hr hQ hδ => endI rfl hs X hr hQ hδ) (fun κ X hNL hδ Y => ?_)
  refine g_rm (fun hM => ?_)
  refine g_aload_n X dX8_yearlyDecay_0 rfl rfl ?_
  refine g_getI X ci8 (n16 hN (by omega) (by omega)) (en16 _ _ _ _) (by decide) fl_X8_29 rfl dX8_yearlyDecay_1 rfl (fun r1 => ?_)
  refine g_if_ne (tgt := 11) X dX8_yearlyDecay_4 rfl rfl (by omega) (fun h4 => ?_) (fun h4 => ?_)
  · skip
    refine g_iconst X dX8_yearlyDecay_11 rfl ?_
    refine g_istore_1 X dX8_yearlyDecay_12 rfl (lt_kN hNL rfl) rfl ?_
    refine g_aload_n X dX8_yearlyDecay_13 rfl rfl ?_
    refine g_getI X ci8 (n16 hN (by omega) (by omega)) (en16 _ _ _ _) (by decide) fl_X8_80 rfl dX8_yearlyDecay_14 rfl (fun r14 => ?_)
    refine g_if_eq (tgt := 30) X dX8_yearlyDecay_17 rfl rfl (by omega) (fun h17 => ?_) (fun h17 => ?_)
    · skip
      refine g_iload_n X dX8_yearlyDecay_30 rfl rfl ?_
      exact g_ret Y dX8_yearlyDecay_31 ⟨_, rfl⟩ (pVI (by unfold yearly; first | omega | (simp only [show Int.tdiv 3 3 = 1 from rfl]; omega) | (simp only [show Int.tdiv 2 3 = 0 from rfl]; omega)))
    · skip
      refine g_iconst X dX8_yearlyDecay_20 rfl ?_
      refine g_iload_n X dX8_yearlyDecay_21 rfl rfl ?_
      refine g_iconst X dX8_yearlyDecay_22 rfl ?_
      refine g_idiv X dX8_yearlyDecay_23 rfl (by omega) (by omega) (by omega) (by omega) ?_
      refine g_mmax X wm_max ml_X8_66 dX8_yearlyDecay_24 rfl ⟨Nat.le_of_ble_eq_true rfl, Nat.le_of_ble_eq_true rfl, Nat.le_of_ble_eq_true rfl⟩ (Nat.le_of_ble_eq_true rfl) (by omega) (by decide) ?_
      refine g_goto (pc' := 31) X dX8_yearlyDecay_27 rfl ?_
      exact g_ret Y dX8_yearlyDecay_31 ⟨_, rfl⟩ (pVI (by unfold yearly; first | omega | (simp only [show Int.tdiv 3 3 = 1 from rfl]; omega) | (simp only [show Int.tdiv 2 3 = 0 from rfl]; omega)))
  · skip
    refine g_iconst X dX8_yearlyDecay_7 rfl ?_
    refine g_goto (pc' := 12) X dX8_yearlyDecay_8 rfl ?_
    refine g_istore_1 X dX8_yearlyDecay_12 rfl (lt_kN hNL rfl) rfl ?_
    refine g_aload_n X dX8_yearlyDecay_13 rfl rfl ?_
    refine g_getI X ci8 (n16 hN (by omega) (by omega)) (en16 _ _ _ _) (by decide) fl_X8_80 rfl dX8_yearlyDecay_14 rfl (fun r14 => ?_)
    refine g_if_eq (tgt := 30) X dX8_yearlyDecay_17 rfl rfl (by omega) (fun h17 => ?_) (fun h17 => ?_)
    · skip
      refine g_iload_n X dX8_yearlyDecay_30 rfl rfl ?_
      exact g_ret Y dX8_yearlyDecay_31 ⟨_, rfl⟩ (pVI (by unfold yearly; first | omega | (simp only [show Int.tdiv 3 3 = 1 from rfl]; omega) | (simp only [show Int.tdiv 2 3 = 0 from rfl]; omega)))
    · skip
      refine g_iconst X dX8_yearlyDecay_20 rfl ?_
      refine g_iload_n X dX8_yearlyDecay_21 rfl rfl ?_
      refine g_iconst X dX8_yearlyDecay_22 rfl ?_
      refine g_idiv X dX8_yearlyDecay_23 rfl (by omega) (by omega) (by omega) (by omega) ?_
      refine g_mmax X wm_max ml_X8_66 dX8_yearlyDecay_24 rfl ⟨Nat.le_of_ble_eq_true rfl, Nat.le_of_ble_eq_true rfl, Nat.le_of_ble_eq_true rfl⟩ (Nat.le_of_ble_eq_true rfl) (by omega) (by decide) ?_
      refine g_goto (pc' := 31) X dX8_yearlyDecay_27 rfl ?_
      exact g_ret Y dX8_yearlyDecay_31 ⟨_, rfl⟩ (pVI (by unfold yearly; first | omega | (simp only [show Int.tdiv 3 3 = 1 from rfl]; omega) | (simp only [show Int.tdiv 2 3 = 0 from rfl]; omega)))
set_option maxRecDepth 100000 in
set_option maxHeartbeats 4000000 in
theorem c_X8_yearToCopy {δ : Dx} {nm : List (Nat × Int)} {ad : Ad} {M : Mem} {i n : Int} (hN : NmOk nm) (i0 : 0 ≤ i) (i1 : i < 12) (d0 : 0 ≤ (M.1 16 4 i 0) ∧ (M.1 16 4 i 0) ≤ 1000) (n0 : 0 ≤ n ∧ n ≤ 3000) : Ct δ md_X8_yearToCopy 0 0 nm ad M [.ref (ad 16 i), .int (iI n)] (pV (.int (iI (ytc M i n))) ad M) := by
  refine Ct_of (ins := .ireturn) (ok := okI) [some (.ref (ad 16 i)), some (.int (iI n)), none] (by decide +kernel) rfl (Nat.le_of_ble_eq_true rfl) (fun κ s hs X hr hQ hδ => endI rfl hs X hr hQ hδ) (fun κ X hNL hδ Y => ?_)
  refine g_rm (fun hM => ?_)
  have yb := yearly_b M i
  refine g_aload_n X dX8_yearToCopy_0 rfl rfl ?_
  refine g_iV0_v X w_X8_yearlyDecay ml_X8_84 dX8_yearToCopy_1 rfl (n16 hN (by omega) (by omega)) (en16 _ _ _ _) ⟨⟨Nat.le_of_ble_eq_true rfl, Nat.le_of_ble_eq_true rfl⟩, Nat.le_of_ble_eq_true rfl, Nat.le_of_ble_eq_true rfl⟩ (Nat.le_of_ble_eq_true rfl) (c_X8_yearlyDecay hN (by omega) (by omega)) ?_
  refine g_istore_2 X dX8_yearToCopy_4 rfl (lt_kN hNL rfl) rfl ?_
  refine g_aload_n X dX8_yearToCopy_5 rfl rfl ?_
  refine g_getI X ci8 (n16 hN (by omega) (by omega)) (en16 _ _ _ _) (by decide) fl_X8_42 rfl dX8_yearToCopy_6 rfl (fun r6 => ?_)
  refine g_sipush X dX8_yearToCopy_9 rfl (by decide) ?_
  refine g_icmp_ge (tgt := 20) X dX8_yearToCopy_12 rfl rfl (by omega) (by omega) (fun h12 => ?_) (fun h12 => ?_)
  · skip
    refine g_iload_n X dX8_yearToCopy_20 rfl rfl ?_
    exact g_ret Y dX8_yearToCopy_21 ⟨_, rfl⟩ (pVI (by unfold ytc; first | (rw [if_pos (by omega)]) | (rw [if_neg (by omega)])))
  · skip
    refine g_iload_n X dX8_yearToCopy_15 rfl rfl ?_
    refine g_iconst X dX8_yearToCopy_16 rfl ?_
    refine g_icmp_ge (tgt := 22) X dX8_yearToCopy_17 rfl rfl (by omega) (by omega) (fun h17 => ?_) (fun h17 => ?_)
    · skip
      refine g_iload_n X dX8_yearToCopy_22 rfl rfl ?_
      refine g_sipush X dX8_yearToCopy_23 rfl (by decide) ?_
      refine g_aload_n X dX8_yearToCopy_26 rfl rfl ?_
      refine g_getI X ci8 (n16 hN (by omega) (by omega)) (en16 _ _ _ _) (by decide) fl_X8_42 rfl dX8_yearToCopy_27 rfl (fun r27 => ?_)
      refine g_isub X dX8_yearToCopy_30 rfl ?_
      refine g_iload_n X dX8_yearToCopy_31 rfl rfl ?_
      refine g_iadd X dX8_yearToCopy_32 rfl ?_
      refine g_iconst X dX8_yearToCopy_33 rfl ?_
      refine g_isub X dX8_yearToCopy_34 rfl ?_
      refine g_iload_n X dX8_yearToCopy_35 rfl rfl ?_
      refine g_idiv X dX8_yearToCopy_36 rfl (by omega) (by omega) (by omega) (by omega) ?_
      refine g_iadd X dX8_yearToCopy_37 rfl ?_
      exact g_ret Y dX8_yearToCopy_38 ⟨_, rfl⟩ (pVI (by unfold ytc; first | (rw [if_pos (by omega)]) | (rw [if_neg (by omega)])))
    · skip
      refine g_iload_n X dX8_yearToCopy_20 rfl rfl ?_
      exact g_ret Y dX8_yearToCopy_21 ⟨_, rfl⟩ (pVI (by unfold ytc; first | (rw [if_pos (by omega)]) | (rw [if_neg (by omega)])))
