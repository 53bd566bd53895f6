set_option maxRecDepth 100000 in
set_option maxHeartbeats 4000000 in
theorem c_X12_thrown {δ : Dx} {nm : List (Nat × Int)} {ad : Ad} {M : Mem} (hN : NmOk nm) : Ct δ md_X12_thrown 0 0 nm ad M [.ref (ad 40 0)] (pV (.int (iI (M.1 40 46 0 0))) ad M) := by
  refine Ct_of (ins := .ireturn) (ok := okI) [some (.ref (ad 40 0))] (by decide +kernel) rfl (Nat.le_of_ble_eq_true rfl) (fun κ s hs X hr hQ hδ => endI rfl hs X hr hQ hδ) (fun κ X hNL hδ Y => ?_)
  refine g_rm (fun hM => ?_)
  refine g_aload_n X dX12_thrown_0 rfl rfl ?_
  refine g_getI X ci12 (n40 hN) (en40 _ _ _ _) (by decide) fl_X12_140 rfl dX12_thrown_1 rfl (fun r1 => ?_)
  exact g_ret Y dX12_thrown_4 ⟨_, rfl⟩ (pVI (by first | rfl | omega))
set_option maxRecDepth 100000 in
set_option maxHeartbeats 4000000 in
theorem c_X12_holds {δ : Dx} {nm : List (Nat × Int)} {ad : Ad} {M : Mem} {w : Int} (hN : NmOk nm) (rw : rng w) : Ct δ md_X12_holds 0 0 nm ad M [.ref (ad 40 0), .int (iI w)] (pV (.int (iI (bI (0 < w)))) ad (setI M 40 46 0 0 w)) := by
  refine Ct_of (ins := .ireturn) (ok := okZ) [some (.ref (ad 40 0)), some (.int (iI w))] (by decide +kernel) rfl (Nat.le_of_ble_eq_true rfl) (fun κ s hs X hr hQ hδ => endZ rfl hs X hr hQ hδ) (fun κ X hNL hδ Y => ?_)
  refine g_rm (fun hM => ?_)
  refine g_aload_n X dX12_holds_0 rfl rfl ?_
  refine g_iload_n X dX12_holds_1 rfl rfl ?_
  refine g_putI X ci12 (n40 hN) (en40 _ _ _ _) (ep40_46 _ _ _ _ _) (by omega) (by decide) rfl rfl rfl (Nat.le_of_ble_eq_true rfl) fl_X12_140 dX12_holds_2 rfl ?_
  refine g_iload_n X dX12_holds_5 rfl rfl ?_
  refine g_if_le (tgt := 13) X dX12_holds_6 rfl rfl (by first | omega | (simp only [setI_1, setL_1, setI_2, setL_2]; omega) | (simp only [setI_1, setL_1, setI_2, setL_2]; simp; omega)) (fun h6 => ?_) (fun h6 => ?_)
  · skip
    refine g_iconst X dX12_holds_13 rfl ?_
    exact g_ret Y dX12_holds_14 okZ0 (pVf (by omega))
  · skip
    refine g_iconst X dX12_holds_9 rfl ?_
    refine g_goto (pc' := 14) X dX12_holds_10 rfl ?_
    exact g_ret Y dX12_holds_14 okZ1 (pVt (by omega))
set_option maxRecDepth 100000 in
set_option maxHeartbeats 4000000 in
theorem c_X12_isReel {δ : Dx} {nm : List (Nat × Int)} {ad : Ad} {M : Mem} {r : Int} (hN : NmOk nm) (rr : rng r) (m0 : 0 ≤ (M.1 40 10 0 0) ∧ (M.1 40 10 0 0) ≤ 12) : Ct δ md_X12_isReel 0 0 nm ad M [.ref (ad 40 0), .int (iI r)] (pV (.int (iI (bI (0 ≤ r ∧ r < (M.1 40 10 0 0))))) ad M) := by
  refine Ct_of (ins := .ireturn) (ok := okZ) [some (.ref (ad 40 0)), some (.int (iI r))] (by decide +kernel) rfl (Nat.le_of_ble_eq_true rfl) (fun κ s hs X hr hQ hδ => endZ rfl hs X hr hQ hδ) (fun κ X hNL hδ Y => ?_)
  refine g_rm (fun hM => ?_)
  refine g_aload_n X dX12_isReel_0 rfl rfl ?_
  refine g_iload_n X dX12_isReel_1 rfl rfl ?_
  refine g_iconst X dX12_isReel_2 rfl ?_
  refine g_aload_n X dX12_isReel_3 rfl rfl ?_
  refine g_getI X ci12 (n40 hN) (en40 _ _ _ _) (by decide) fl_X12_143 rfl dX12_isReel_4 rfl (fun r4 => ?_)
  refine g_iconst X dX12_isReel_7 rfl ?_
  refine g_isub X dX12_isReel_8 rfl ?_
  refine g_iV3_v X w_X12_in ml_X12_146 dX12_isReel_9 rfl (n40 hN) (en40 _ _ _ _) ⟨⟨Nat.le_of_ble_eq_true rfl, Nat.le_of_ble_eq_true rfl⟩, Nat.le_of_ble_eq_true rfl, Nat.le_of_ble_eq_true rfl⟩ (Nat.le_of_ble_eq_true rfl) (c_X12_in hN (by omega) (by omega) (by omega)) ?_
  exact g_ret Y dX12_isReel_12 okZb (pVb (by omega))
set_option maxRecDepth 100000 in
set_option maxHeartbeats 4000000 in
theorem c_X12_isGood {δ : Dx} {nm : List (Nat × Int)} {ad : Ad} {M : Mem} {r : Int} (hN : NmOk nm) (r0 : 0 ≤ r) (q1 : r < 12) : Ct δ md_X12_isGood 0 0 nm ad M [.ref (ad 40 0), .int (iI r)] (pV (.int (iI (bI ((M.1 45 0 0 r) < 300)))) ad M) := by
  refine Ct_of (ins := .ireturn) (ok := okZ) [some (.ref (ad 40 0)), some (.int (iI r))] (by decide +kernel) rfl (Nat.le_of_ble_eq_true rfl) (fun κ s hs X hr hQ hδ => endZ rfl hs X hr hQ hδ) (fun κ X hNL hδ Y => ?_)
  refine g_rm (fun hM => ?_)
  refine g_aload_n X dX12_isGood_0 rfl rfl ?_
  refine g_get X ci12 (n40 hN) (en40 _ _ _ _) (by decide) fl_X12_22 rfl dX12_isGood_1 rfl ?_
  refine g_iload_n X dX12_isGood_4 rfl rfl ?_
  refine g_iald X dX12_isGood_5 rfl (n45 hN) (en45 _ _ _ _) (t0 := 0) rfl (by omega) (by omega) (by decide) (fun r5 => ?_)
  refine g_sipush X dX12_isGood_6 rfl (by decide) ?_
  refine g_icmp_ge (tgt := 16) X dX12_isGood_9 rfl rfl (by omega) (by omega) (fun h9 => ?_) (fun h9 => ?_)
  · skip
    refine g_iconst X dX12_isGood_16 rfl ?_
    exact g_ret Y dX12_isGood_17 okZ0 (pVf (by omega))
  · skip
    refine g_iconst X dX12_isGood_12 rfl ?_
    refine g_goto (pc' := 17) X dX12_isGood_13 rfl ?_
    exact g_ret Y dX12_isGood_17 okZ1 (pVt (by omega))
set_option maxRecDepth 100000 in
set_option maxHeartbeats 4000000 in
theorem c_X12_isVersion {δ : Dx} {nm : List (Nat × Int)} {ad : Ad} {M : Mem} {v : Int} (hN : NmOk nm) (rv : rng v) (m1 : 0 ≤ (M.1 40 22 0 0) ∧ (M.1 40 22 0 0) ≤ 6) : Ct δ md_X12_isVersion 0 0 nm ad M [.ref (ad 40 0), .int (iI v)] (pV (.int (iI (bI (0 ≤ v ∧ v < (M.1 40 22 0 0))))) ad M) := by
  refine Ct_of (ins := .ireturn) (ok := okZ) [some (.ref (ad 40 0)), some (.int (iI v))] (by decide +kernel) rfl (Nat.le_of_ble_eq_true rfl) (fun κ s hs X hr hQ hδ => endZ rfl hs X hr hQ hδ) (fun κ X hNL hδ Y => ?_)
  refine g_rm (fun hM => ?_)
  refine g_aload_n X dX12_isVersion_0 rfl rfl ?_
  refine g_iload_n X dX12_isVersion_1 rfl rfl ?_
  refine g_iconst X dX12_isVersion_2 rfl ?_
  refine g_aload_n X dX12_isVersion_3 rfl rfl ?_
  refine g_getI X ci12 (n40 hN) (en40 _ _ _ _) (by decide) fl_X12_219 rfl dX12_isVersion_4 rfl (fun r4 => ?_)
  refine g_iconst X dX12_isVersion_7 rfl ?_
  refine g_isub X dX12_isVersion_8 rfl ?_
  refine g_iV3_v X w_X12_in ml_X12_146 dX12_isVersion_9 rfl (n40 hN) (en40 _ _ _ _) ⟨⟨Nat.le_of_ble_eq_true rfl, Nat.le_of_ble_eq_true rfl⟩, Nat.le_of_ble_eq_true rfl, Nat.le_of_ble_eq_true rfl⟩ (Nat.le_of_ble_eq_true rfl) (c_X12_in hN (by omega) (by omega) (by omega)) ?_
  exact g_ret Y dX12_isVersion_12 okZb (pVb (by omega))
set_option maxRecDepth 100000 in
set_option maxHeartbeats 4000000 in
theorem c_X12_isPlace {δ : Dx} {nm : List (Nat × Int)} {ad : Ad} {M : Mem} {k : Int} (hN : NmOk nm) (rk : rng k) (m2 : 0 ≤ (M.1 40 39 0 0) ∧ (M.1 40 39 0 0) ≤ 120) : Ct δ md_X12_isPlace 0 0 nm ad M [.ref (ad 40 0), .int (iI k)] (pV (.int (iI (bI (0 ≤ k ∧ k < (M.1 40 39 0 0))))) ad M) := by
  refine Ct_of (ins := .ireturn) (ok := okZ) [some (.ref (ad 40 0)), some (.int (iI k))] (by decide +kernel) rfl (Nat.le_of_ble_eq_true rfl) (fun κ s hs X hr hQ hδ => endZ rfl hs X hr hQ hδ) (fun κ X hNL hδ Y => ?_)
  refine g_rm (fun hM => ?_)
  refine g_aload_n X dX12_isPlace_0 rfl rfl ?_
  refine g_iload_n X dX12_isPlace_1 rfl rfl ?_
  refine g_iconst X dX12_isPlace_2 rfl ?_
  refine g_aload_n X dX12_isPlace_3 rfl rfl ?_
  refine g_getI X ci12 (n40 hN) (en40 _ _ _ _) (by decide) fl_X12_249 rfl dX12_isPlace_4 rfl (fun r4 => ?_)
  refine g_iconst X dX12_isPlace_7 rfl ?_
  refine g_isub X dX12_isPlace_8 rfl ?_
  refine g_iV3_v X w_X12_in ml_X12_146 dX12_isPlace_9 rfl (n40 hN) (en40 _ _ _ _) ⟨⟨Nat.le_of_ble_eq_true rfl, Nat.le_of_ble_eq_true rfl⟩, Nat.le_of_ble_eq_true rfl, Nat.le_of_ble_eq_true rfl⟩ (Nat.le_of_ble_eq_true rfl) (c_X12_in hN (by omega) (by omega) (by omega)) ?_
  exact g_ret Y dX12_isPlace_12 okZb (pVb (by omega))
