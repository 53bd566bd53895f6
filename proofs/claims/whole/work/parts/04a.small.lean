set_option maxRecDepth 100000 in
theorem wm_abs : Cond.static Lib.Math.abs.name ∈ Tb ∧ Cond.initialized "java/lang/Math" ∈ Tb ∧ Cond.code Lib.Math.abs.name Lib.Math.abs.code 1 (some .int) ∈ Tb := ⟨Tb_of (List.mem_of_getElem? (i := 400) (by decide +kernel)) (by decide +kernel), Tb_of (List.mem_of_getElem? (i := 66) (by decide +kernel)) (by decide +kernel), Tb_code 401 rfl rfl⟩
set_option maxRecDepth 100000 in
theorem wm_max : Cond.static Lib.Math.max.name ∈ Tb ∧ Cond.initialized "java/lang/Math" ∈ Tb ∧ Cond.code Lib.Math.max.name Lib.Math.max.code 2 (some .int) ∈ Tb := ⟨Tb_of (List.mem_of_getElem? (i := 419) (by decide +kernel)) (by decide +kernel), Tb_of (List.mem_of_getElem? (i := 66) (by decide +kernel)) (by decide +kernel), Tb_code 420 rfl rfl⟩
set_option maxRecDepth 100000 in
theorem wm_min : Cond.static Lib.Math.min.name ∈ Tb ∧ Cond.initialized "java/lang/Math" ∈ Tb ∧ Cond.code Lib.Math.min.name Lib.Math.min.code 2 (some .int) ∈ Tb := ⟨Tb_of (List.mem_of_getElem? (i := 416) (by decide +kernel)) (by decide +kernel), Tb_of (List.mem_of_getElem? (i := 66) (by decide +kernel)) (by decide +kernel), Tb_code 417 rfl rfl⟩
set_option maxRecDepth 100000 in
set_option maxHeartbeats 4000000 in
theorem c_X7_at {δ : Dx} {nm : List (Nat × Int)} {ad : Ad} {M : Mem} {x : Int64} {k : Int} (hN : NmOk nm) : Ct δ md_X7_at 0 0 nm ad M [.long x, .int (iI k)] (pV (.int (iI (pt x k))) ad M) := by
  refine Ct_of (ins := .ireturn) (ok := okI) [some (.long x), none, some (.int (iI k))] (by decide +kernel) rfl (Nat.le_of_ble_eq_true rfl) (fun κ s hs X hr hQ hδ => endI rfl hs X hr hQ hδ) (fun κ X hNL hδ Y => ?_)
  refine g_rm (fun hM => ?_)
  refine g_lload_n X dX7_at_0 rfl rfl ?_
  refine g_bipush X dX7_at_1 rfl (by decide) ?_
  refine g_iload_n X dX7_at_3 rfl rfl ?_
  refine g_imul X dX7_at_4 rfl ?_
  refine g_lushr X dX7_at_5 rfl ?_
  refine g_l2i X dX7_at_6 rfl (iI_of _).symm ?_
  refine g_sipush X dX7_at_7 rfl (by decide) ?_
  refine g_iand X dX7_at_10 rfl (iI_of _).symm ?_
  exact g_ret Y dX7_at_11 ⟨_, rfl⟩ (pVI (by rfl))
set_option maxRecDepth 100000 in
set_option maxHeartbeats 4000000 in
theorem c_X7_with {δ : Dx} {nm : List (Nat × Int)} {ad : Ad} {M : Mem} {x : Int64} {k v : Int} (hN : NmOk nm) : Ct δ md_X7_with 0 0 nm ad M [.long x, .int (iI k), .int (iI v)] (pV (.long (ptSet x k v)) ad M) := by
  refine Ct_of (ins := .lreturn) (ok := okL) [some (.long x), none, some (.int (iI k)), some (.int (iI v)), none] (by decide +kernel) rfl (Nat.le_of_ble_eq_true rfl) (fun κ s hs X hr hQ hδ => endL rfl hs X hr hQ hδ) (fun κ X hNL hδ Y => ?_)
  refine g_rm (fun hM => ?_)
  refine g_bipush X dX7_with_0 rfl (by decide) ?_
  refine g_iload_n X dX7_with_2 rfl rfl ?_
  refine g_imul X dX7_with_3 rfl ?_
  refine g_istore_4 X dX7_with_4 rfl (lt_kN hNL rfl) rfl ?_
  refine g_lload_n X dX7_with_6 rfl rfl ?_
  refine g_ldc2 X dX7_with_7 rfl kc_X7_9 ?_
  refine g_iload X dX7_with_10 rfl rfl ?_
  refine g_lshl X dX7_with_12 rfl ?_
  refine g_ldc2 X dX7_with_13 rfl kc_X7_11 ?_
  refine g_lxor X dX7_with_16 rfl ?_
  refine g_land X dX7_with_17 rfl ?_
  refine g_iload_n X dX7_with_18 rfl rfl ?_
  refine g_i2l X dX7_with_19 rfl ?_
  refine g_iload X dX7_with_20 rfl rfl ?_
  refine g_lshl X dX7_with_22 rfl ?_
  refine g_lor X dX7_with_23 rfl ?_
  exact g_ret Y dX7_with_24 ⟨_, rfl⟩ ⟨rfl, rfl, rfl⟩
set_option maxRecDepth 100000 in
set_option maxHeartbeats 4000000 in
theorem c_X7_distance {δ : Dx} {nm : List (Nat × Int)} {ad : Ad} {M : Mem} {x y : Int64} (hN : NmOk nm) : Ct δ md_X7_distance 0 0 nm ad M [.long x, .long y] (pV (.int (iI (dist x y))) ad M) := by
  refine Ct_of (ins := .ireturn) (ok := okI) [some (.long x), none, some (.long y), none, none, none] (by decide +kernel) rfl (Nat.le_of_ble_eq_true rfl) (fun κ s hs X hr hQ hδ => endI rfl hs X hr hQ hδ) (fun κ X hNL hδ Y => ?_)
  refine g_rm (fun hM => ?_)
  refine g_iconst X dX7_distance_0 rfl ?_
  refine g_istore_4 X dX7_distance_1 rfl (lt_kN hNL rfl) rfl ?_
  refine g_iconst X dX7_distance_3 rfl ?_
  refine g_istore_5 X dX7_distance_4 rfl (lt_kN hNL rfl) rfl ?_
  have lp6 : ∀ (k : Int) (a : Int) (k0 : 0 ≤ k) (k1 : k ≤ 8) (ha : a = sm (dterm x y) 0 k), G κ nm ad M 6 [some (.long x), none, some (.long y), none, some (.int (iI a)), some (.int (iI k))] [] 0 0 := by
    refine ind2 (fun k a => (8 - k).toNat) ?_
    intro k a ih6 k0 k1 ha
    refine g_rm (fun hM6 => ?_)
    have pb := sm_b (f := dterm x y) (lo := 0) (hi := k) (c := 255) (by omega) (fun k _ _ => dterm_b x y k)
    have ps := sm_s (dterm x y) (lo := 0) (hi := k) (by omega)
    simp only [dterm] at ps
    refine g_iload X dX7_distance_6 rfl rfl ?_
    refine g_bipush X dX7_distance_8 rfl (by decide) ?_
    refine g_icmp_ge (tgt := 40) X dX7_distance_10 rfl rfl (by omega) (by omega) (fun h10 => ?_) (fun h10 => ?_)
    · skip
      refine g_iload X dX7_distance_40 rfl rfl ?_
      exact g_ret Y dX7_distance_42 ⟨_, rfl⟩ (pVI (by have e : k = 8 := (by omega); subst e; exact ha))
    · skip
      have px := pt_b x k
      have py := pt_b y k
      refine g_iload X dX7_distance_13 rfl rfl ?_
      refine g_lload_n X dX7_distance_15 rfl rfl ?_
      refine g_iload X dX7_distance_16 rfl rfl ?_
      refine g_iS2_v X w_X7_at ml_X7_13 dX7_distance_18 rfl ⟨⟨Nat.le_of_ble_eq_true rfl, Nat.le_of_ble_eq_true rfl⟩, Nat.le_of_ble_eq_true rfl, Nat.le_of_ble_eq_true rfl⟩ (Nat.le_of_ble_eq_true rfl) (c_X7_at hN) ?_
      refine g_lload_n X dX7_distance_21 rfl rfl ?_
      refine g_iload X dX7_distance_22 rfl rfl ?_
      refine g_iS2_v X w_X7_at ml_X7_13 dX7_distance_24 rfl ⟨⟨Nat.le_of_ble_eq_true rfl, Nat.le_of_ble_eq_true rfl⟩, Nat.le_of_ble_eq_true rfl, Nat.le_of_ble_eq_true rfl⟩ (Nat.le_of_ble_eq_true rfl) (c_X7_at hN) ?_
      refine g_isub X dX7_distance_27 rfl ?_
      refine g_mabs X wm_abs ml_X7_19 dX7_distance_28 rfl ⟨Nat.le_of_ble_eq_true rfl, Nat.le_of_ble_eq_true rfl, Nat.le_of_ble_eq_true rfl⟩ (Nat.le_of_ble_eq_true rfl) (by omega) ?_
      refine g_iadd X dX7_distance_31 rfl ?_
      refine g_istore_4 X dX7_distance_32 rfl (lt_kN hNL rfl) rfl ?_
      refine g_iinc_5 X dX7_distance_34 rfl (lt_kN hNL rfl) rfl ?_
      refine g_goto (pc' := 6) X dX7_distance_37 rfl ?_
      exact ih6 (k + 1) _ (by omega) (by omega) (by omega) (by first | omega | (rw [ps]; omega))
  exact lp6 0 0 (by omega) (by omega) (sm_0 _ (by omega)).symm
set_option maxRecDepth 100000 in
set_option maxHeartbeats 4000000 in
theorem c_X12_point {δ : Dx} {nm : List (Nat × Int)} {ad : Ad} {M : Mem} {x : Int64} {k : Int} (hN : NmOk nm) : Ct δ md_X12_point 0 0 nm ad M [.ref (ad 40 0), .long x, .int (iI k)] (pV (.int (iI (pt x k))) ad M) := by
  refine Ct_of (ins := .ireturn) (ok := okI) [some (.ref (ad 40 0)), some (.long x), none, some (.int (iI k))] (by decide +kernel) rfl (Nat.le_of_ble_eq_true rfl) (fun κ s hs X hr hQ hδ => endI rfl hs X hr hQ hδ) (fun κ X hNL hδ Y => ?_)
  refine g_rm (fun hM => ?_)
  refine g_lload_n X dX12_point_0 rfl rfl ?_
  refine g_bipush X dX12_point_1 rfl (by decide) ?_
  refine g_iload_n X dX12_point_3 rfl rfl ?_
  refine g_imul X dX12_point_4 rfl ?_
  refine g_lushr X dX12_point_5 rfl ?_
  refine g_l2i X dX12_point_6 rfl (iI_of _).symm ?_
  refine g_sipush X dX12_point_7 rfl (by decide) ?_
  refine g_iand X dX12_point_10 rfl (iI_of _).symm ?_
  exact g_ret Y dX12_point_11 ⟨_, rfl⟩ (pVI (by rfl))
set_option maxRecDepth 100000 in
set_option maxHeartbeats 4000000 in
theorem c_X12_apart {δ : Dx} {nm : List (Nat × Int)} {ad : Ad} {M : Mem} {x y : Int64} (hN : NmOk nm) : Ct δ md_X12_apart 0 0 nm ad M [.ref (ad 40 0), .long x, .long y] (pV (.int (iI (dist x y))) ad M) := by
  refine Ct_of (ins := .ireturn) (ok := okI) [some (.ref (ad 40 0)), some (.long x), none, some (.long y), none, none, none, none] (by decide +kernel) rfl (Nat.le_of_ble_eq_true rfl) (fun κ s hs X hr hQ hδ => endI rfl hs X hr hQ hδ) (fun κ X hNL hδ Y => ?_)
  refine g_rm (fun hM => ?_)
  refine g_iconst X dX12_apart_0 rfl ?_
  refine g_istore_5 X dX12_apart_1 rfl (lt_kN hNL rfl) rfl ?_
  refine g_iconst X dX12_apart_3 rfl ?_
  refine g_istore_6 X dX12_apart_4 rfl (lt_kN hNL rfl) rfl ?_
  have lp6 : ∀ (k : Int) (a : Int) (k0 : 0 ≤ k) (k1 : k ≤ 8) (ha : a = sm (dterm x y) 0 k), G κ nm ad M 6 [some (.ref (ad 40 0)), some (.long x), none, some (.long y), none, some (.int (iI a)), some (.int (iI k)), none] [] 0 0 := by
    refine ind2 (fun k a => (8 - k).toNat) ?_
    intro k a ih6 k0 k1 ha
    refine g_rm (fun hM6 => ?_)
    have pb := sm_b (f := dterm x y) (lo := 0) (hi := k) (c := 255) (by omega) (fun k _ _ => dterm_b x y k)
    have ps := sm_s (dterm x y) (lo := 0) (hi := k) (by omega)
    simp only [dterm] at ps
    refine g_iload X dX12_apart_6 rfl rfl ?_
    refine g_bipush X dX12_apart_8 rfl (by decide) ?_
    refine g_icmp_ge (tgt := 54) X dX12_apart_10 rfl rfl (by omega) (by omega) (fun h10 => ?_) (fun h10 => ?_)
    · skip
      refine g_iload X dX12_apart_54 rfl rfl ?_
      exact g_ret Y dX12_apart_56 ⟨_, rfl⟩ (pVI (by have e : k = 8 := (by omega); subst e; exact ha))
    · skip
      have px := pt_b x k
      have py := pt_b y k
      refine g_aload_n X dX12_apart_13 rfl rfl ?_
      refine g_lload_n X dX12_apart_14 rfl rfl ?_
      refine g_iload X dX12_apart_15 rfl rfl ?_
      refine g_iV2_v X w_X12_point ml_X12_150 dX12_apart_17 rfl (n40 hN) (en40 _ _ _ _) ⟨⟨Nat.le_of_ble_eq_true rfl, Nat.le_of_ble_eq_true rfl⟩, Nat.le_of_ble_eq_true rfl, Nat.le_of_ble_eq_true rfl⟩ (Nat.le_of_ble_eq_true rfl) (c_X12_point hN) ?_
      refine g_aload_n X dX12_apart_20 rfl rfl ?_
      refine g_lload_n X dX12_apart_21 rfl rfl ?_
      refine g_iload X dX12_apart_22 rfl rfl ?_
      refine g_iV2_v X w_X12_point ml_X12_150 dX12_apart_24 rfl (n40 hN) (en40 _ _ _ _) ⟨⟨Nat.le_of_ble_eq_true rfl, Nat.le_of_ble_eq_true rfl⟩, Nat.le_of_ble_eq_true rfl, Nat.le_of_ble_eq_true rfl⟩ (Nat.le_of_ble_eq_true rfl) (c_X12_point hN) ?_
      refine g_isub X dX12_apart_27 rfl ?_
      refine g_istore_7 X dX12_apart_28 rfl (lt_kN hNL rfl) rfl ?_
      refine g_iload X dX12_apart_30 rfl rfl ?_
      refine g_iload X dX12_apart_32 rfl rfl ?_
      refine g_if_ge (tgt := 43) X dX12_apart_34 rfl rfl (by omega) (fun h34 => ?_) (fun h34 => ?_)
      · skip
        refine g_iload X dX12_apart_43 rfl rfl ?_
        refine g_iadd X dX12_apart_45 rfl ?_
        refine g_istore_5 X dX12_apart_46 rfl (lt_kN hNL rfl) rfl ?_
        refine g_iinc_6 X dX12_apart_48 rfl (lt_kN hNL rfl) rfl ?_
        refine g_goto (pc' := 6) X dX12_apart_51 rfl ?_
        refine g_drop_7 ?_
        exact ih6 (k + 1) _ (by omega) (by omega) (by omega) (by first | omega | (rw [ps]; omega))
      · skip
        refine g_iload X dX12_apart_37 rfl rfl ?_
        refine g_ineg X dX12_apart_39 rfl ?_
        refine g_goto (pc' := 45) X dX12_apart_40 rfl ?_
        refine g_iadd X dX12_apart_45 rfl ?_
        refine g_istore_5 X dX12_apart_46 rfl (lt_kN hNL rfl) rfl ?_
        refine g_iinc_6 X dX12_apart_48 rfl (lt_kN hNL rfl) rfl ?_
        refine g_goto (pc' := 6) X dX12_apart_51 rfl ?_
        refine g_drop_7 ?_
        exact ih6 (k + 1) _ (by omega) (by omega) (by omega) (by first | omega | (rw [ps]; omega))
  exact lp6 0 0 (by omega) (by omega) (sm_0 _ (by omega)).symm
set_option maxRecDepth 100000 in
set_option maxHeartbeats 4000000 in
theorem c_X12_set {δ : Dx} {nm : List (Nat × Int)} {ad : Ad} {M : Mem} {x : Int64} {k v : Int} (hN : NmOk nm) : Ct δ md_X12_set 0 0 nm ad M [.ref (ad 40 0), .long x, .int (iI k), .int (iI v)] (pV (.long (ptSet x k v)) ad M) := by
  refine Ct_of (ins := .lreturn) (ok := okL) [some (.ref (ad 40 0)), some (.long x), none, some (.int (iI k)), some (.int (iI v))] (by decide +kernel) rfl (Nat.le_of_ble_eq_true rfl) (fun κ s hs X hr hQ hδ => endL rfl hs X hr hQ hδ) (fun κ X hNL hδ Y => ?_)
  refine g_rm (fun hM => ?_)
  refine g_lload_n X dX12_set_0 rfl rfl ?_
  refine g_ldc2 X dX12_set_1 rfl kc_X12_264 ?_
  refine g_bipush X dX12_set_4 rfl (by decide) ?_
  refine g_iload_n X dX12_set_6 rfl rfl ?_
  refine g_imul X dX12_set_7 rfl ?_
  refine g_lshl X dX12_set_8 rfl ?_
  refine g_ldc2 X dX12_set_9 rfl kc_X12_266 ?_
  refine g_lxor X dX12_set_12 rfl ?_
  refine g_land X dX12_set_13 rfl ?_
  refine g_iload X dX12_set_14 rfl rfl ?_
  refine g_i2l X dX12_set_16 rfl ?_
  refine g_bipush X dX12_set_17 rfl (by decide) ?_
  refine g_iload_n X dX12_set_19 rfl rfl ?_
  refine g_imul X dX12_set_20 rfl ?_
  refine g_lshl X dX12_set_21 rfl ?_
  refine g_lor X dX12_set_22 rfl ?_
  exact g_ret Y dX12_set_23 ⟨_, rfl⟩ ⟨rfl, rfl, rfl⟩
set_option maxRecDepth 100000 in
set_option maxHeartbeats 4000000 in
theorem c_X12_in {δ : Dx} {nm : List (Nat × Int)} {ad : Ad} {M : Mem} {v a b : Int} (hN : NmOk nm) (rv : rng v) (ra : rng a) (rb : rng b) : Ct δ md_X12_in 0 0 nm ad M [.ref (ad 40 0), .int (iI v), .int (iI a), .int (iI b)] (pV (.int (iI (bI (a ≤ v ∧ v ≤ b)))) ad M) := by
  refine Ct_of (ins := .ireturn) (ok := okZ) [some (.ref (ad 40 0)), some (.int (iI v)), some (.int (iI a)), some (.int (iI b))] (by decide +kernel) rfl (Nat.le_of_ble_eq_true rfl) (fun κ s hs X hr hQ hδ => endZ rfl hs X hr hQ hδ) (fun κ X hNL hδ Y => ?_)
  refine g_rm (fun hM => ?_)
  refine g_iload_n X dX12_in_0 rfl rfl ?_
  refine g_iload_n X dX12_in_1 rfl rfl ?_
  refine g_icmp_lt (tgt := 14) X dX12_in_2 rfl rfl (by omega) (by omega) (fun h2 => ?_) (fun h2 => ?_)
  · skip
    refine g_iconst X dX12_in_14 rfl ?_
    exact g_ret Y dX12_in_15 okZ0 (pVf (by omega))
  · skip
    refine g_iload_n X dX12_in_5 rfl rfl ?_
    refine g_iload_n X dX12_in_6 rfl rfl ?_
    refine g_icmp_gt (tgt := 14) X dX12_in_7 rfl rfl (by omega) (by omega) (fun h7 => ?_) (fun h7 => ?_)
    · skip
      refine g_iconst X dX12_in_14 rfl ?_
      exact g_ret Y dX12_in_15 okZ0 (pVf (by omega))
    · skip
      refine g_iconst X dX12_in_10 rfl ?_
      refine g_goto (pc' := 15) X dX12_in_11 rfl ?_
      exact g_ret Y dX12_in_15 okZ1 (pVt (by omega))
set_option maxRecDepth 100000 in
set_option maxHeartbeats 4000000 in
theorem c_X8_hasCode {δ : Dx} {nm : List (Nat × Int)} {ad : Ad} {M : Mem} {i c : Int} (hN : NmOk nm) (i0 : 0 ≤ i) (i1 : i < 12) (c0 : 0 ≤ c) (c1 : c < 1000) : Ct δ md_X8_hasCode 0 0 nm ad M [.ref (ad 16 i), .int (iI c)] (pV (.int (iI (bI ((M.1 20 0 i c) ≠ -1)))) ad M) := by
  refine Ct_of (ins := .ireturn) (ok := okZ) [some (.ref (ad 16 i)), some (.int (iI c))] (by decide +kernel) rfl (Nat.le_of_ble_eq_true rfl) (fun κ s hs X hr hQ hδ => endZ rfl hs X hr hQ hδ) (fun κ X hNL hδ Y => ?_)
  refine g_rm (fun hM => ?_)
  refine g_aload_n X dX8_hasCode_0 rfl rfl ?_
  refine g_get X ci8 (n16 hN (by omega) (by omega)) (en16 _ _ _ _) (by decide) fl_X8_23 rfl dX8_hasCode_1 rfl ?_
  refine g_iload_n X dX8_hasCode_4 rfl rfl ?_
  refine g_iald X dX8_hasCode_5 rfl (n20 hN (by omega) (by omega)) (en20 _ _ _ _) (t0 := 0) rfl (by omega) (by omega) (by decide) (fun r5 => ?_)
  refine g_iconst X dX8_hasCode_6 rfl ?_
  refine g_icmp_eq (tgt := 14) X dX8_hasCode_7 rfl rfl (by omega) (by omega) (fun h7 => ?_) (fun h7 => ?_)
  · skip
    refine g_iconst X dX8_hasCode_14 rfl ?_
    exact g_ret Y dX8_hasCode_15 okZ0 (pVf (by omega))
  · skip
    refine g_iconst X dX8_hasCode_10 rfl ?_
    refine g_goto (pc' := 15) X dX8_hasCode_11 rfl ?_
    exact g_ret Y dX8_hasCode_15 okZ1 (pVt (by omega))
set_option maxRecDepth 100000 in
set_option maxHeartbeats 4000000 in
theorem c_X8_canBeRead {δ : Dx} {nm : List (Nat × Int)} {ad : Ad} {M : Mem} {i : Int} (hN : NmOk nm) (i0 : 0 ≤ i) (i1 : i < 12) : Ct δ md_X8_canBeRead 0 0 nm ad M [.ref (ad 16 i)] (pV (.int (iI (bI ((M.1 16 4 i 0) < 300)))) ad M) := by
  refine Ct_of (ins := .ireturn) (ok := okZ) [some (.ref (ad 16 i))] (by decide +kernel) rfl (Nat.le_of_ble_eq_true rfl) (fun κ s hs X hr hQ hδ => endZ rfl hs X hr hQ hδ) (fun κ X hNL hδ Y => ?_)
  refine g_rm (fun hM => ?_)
  refine g_aload_n X dX8_canBeRead_0 rfl rfl ?_
  refine g_getI X ci8 (n16 hN (by omega) (by omega)) (en16 _ _ _ _) (by decide) fl_X8_42 rfl dX8_canBeRead_1 rfl (fun r1 => ?_)
  refine g_sipush X dX8_canBeRead_4 rfl (by decide) ?_
  refine g_icmp_ge (tgt := 14) X dX8_canBeRead_7 rfl rfl (by omega) (by omega) (fun h7 => ?_) (fun h7 => ?_)
  · skip
    refine g_iconst X dX8_canBeRead_14 rfl ?_
    exact g_ret Y dX8_canBeRead_15 okZ0 (pVf (by omega))
  · skip
    refine g_iconst X dX8_canBeRead_10 rfl ?_
    refine g_goto (pc' := 15) X dX8_canBeRead_11 rfl ?_
    exact g_ret Y dX8_canBeRead_15 okZ1 (pVt (by omega))
