set_option maxRecDepth 100000 in
set_option maxHeartbeats 4000000 in
theorem c_X12_thrown {δ : Dx} {nm : List (Nat × Int)} {ad : Ad} {M : Mem} (hN : NmOk nm) : Ct δ md_X12_thrown 0 0 nm ad M [.ref (ad 40 0)] (pV (.int (iI (M.1 40 46 0 0))) ad M) := by
  refine Ct_of (ins := .ireturn) (ok := okI) [some (.ref (ad 40 0))] (by decide +kernel) rfl (Nat.le_of_ble_eq_true rfl) (fun κ s hs X hr hQ hδ => endI rfl hs X hr hQ hδ) (fun κ X hNL hδ Y => ?_)
  refine g_rm (fun hM => ?_)
  refine g_aload_n X dX12_thrown_0 rfl rfl ?_
  refine g_getI X ci12 (n40 hN) (en40 _ _ _ _) (by decide) fl_X12_140 rfl dX12_thrown_1 rfl (fun r1 => ?_)
  exact g_ret Y dX12_thrown_4 ⟨_, rfl⟩ (pVI (by first | rfl | omega))
set_option maxRecDepth 100000 in
set_option maxHeartbeats 4000000 in
theorem c_X12_holds {δ : Dx} {nm : List (Nat × Int)} {ad : Ad} {M : Mem} {w : Int} (hN : NmOk nm) (rw : rng w) : Ct δ md_X12_holds 0 0 nm ad M [.ref (ad 40 0), .int (iI w)] (pV (.int (iI (bI (0 < w)))) ad (setI M 40 46 0 0 w)) := by
  refine Ct_of (ins := .ireturn) (ok := okZ) [some (.ref (ad 40 0)), some (.int (iI w))] (by decide +kernel) rfl (Nat.le_of_ble_eq_true rfl) (fun κ s hs X hr hQ hδ => endZ rfl hs X hr hQ hδ) (fun κ X hNL hδ Y => ?_)
  refine g_rm (fun hM => ?_)
  refine g_aload_n X dX12_holds_0 rfl rfl ?_
  refine g_iload_n X dX12_holds_1 rfl rfl ?_
  refine g_putI X ci12 (n40 hN) (en40 _ _ _ _) (ep40_46 _ _ _ _ _) (by omega) (by decide) rfl rfl rfl (Nat.le_of_ble_eq_true rfl) fl_X12_140 dX12_holds_2 rfl ?_
  refine g_iload_n X dX12_holds_5 rfl rfl ?_
  refine g_if_le (tgt := 13) X dX12_holds_6 rfl rfl (by first | omega | (simp only [setI_1, setL_1, setI_2, setL_2]; omega) | (simp only [setI_1, setL_1, setI_2, setL_2]; simp; omega)) (fun h6 => ?_) (fun h6 => ?_)
  · skip
    refine g_iconst X dX12_holds_13 rfl ?_
    exact g_ret Y dX12_holds_14 okZ0 (pVf (by omega))
  · skip
    refine g_iconst X dX12_holds_9 rfl ?_
    refine g_goto (pc' := 14) X dX12_holds_10 rfl ?_
    exact g_ret Y dX12_holds_14 okZ1 (pVt (by omega))
set_option maxRecDepth 100000 in
set_option maxHeartbeats 4000000 in
theorem c_X12_isReel {δ : Dx} {nm : List (Nat × Int)} {ad : Ad} {M : Mem} {r : Int} (hN : NmOk nm) (rr : rng r) (m0 : 0 ≤ (M.1 40 10 0 0) ∧ (M.1 40 10 0 0) ≤ 12) : Ct δ md_X12_isReel 0 0 nm ad M [.ref (ad 40 0), .int (iI r)] (pV (.int (iI (bI (0 ≤ r ∧ r < (M.1 40 10 0 0))))) ad M) := by
  refine Ct_of (ins := .ireturn) (ok := okZ) [some (.ref (ad 40 0)), some (.int (iI r))] (by decide +kernel) rfl (Nat.le_of_ble_eq_true rfl) (fun κ s hs X hr hQ hδ => endZ rfl hs X hr hQ hδ) (fun κ X hNL hδ Y => ?_)
  refine g_rm (fun hM => ?_)
  refine g_aload_n X dX12_isReel_0 rfl rfl ?_
  refine g_iload_n X dX12_isReel_1 rfl rfl ?_
  refine g_iconst X dX12_isReel_2 rfl ?_
  refine g_aload_n X dX12_isReel_3 rfl rfl ?_
  refine g_getI X ci12 (n40 hN) (en40 _ _ _ _) (by decide) fl_X12_143 rfl dX12_isReel_4 rfl (fun r4 => ?_)
  refine g_iconst X dX12_isReel_7 rfl ?_
  refine g_isub X dX12_isReel_8 rfl ?_
  refine g_iV3_v X w_X12_in ml_X12_146 dX12_isReel_9 rfl (n40 hN) (en40 _ _ _ _) ⟨⟨Nat.le_of_ble_eq_true rfl, Nat.le_of_ble_eq_true rfl⟩, Nat.le_of_ble_eq_true rfl, Nat.le_of_ble_eq_true rfl⟩ (Nat.le_of_ble_eq_true rfl) (c_X12_in hN (by omega) (by omega) (by omega)) ?_
  exact g_ret Y dX12_isReel_12 okZb (pVb (by omega))
set_option maxRecDepth 100000 in
set_option maxHeartbeats 4000000 in
theorem c_X12_isGood {δ : Dx} {nm : List (Nat × Int)} {ad : Ad} {M : Mem} {r : Int} (hN : NmOk nm) (r0 : 0 ≤ r) (q1 : r < 12) : Ct δ md_X12_isGood 0 0 nm ad M [.ref (ad 40 0), .int (iI r)] (pV (.int (iI (bI ((M.1 45 0 0 r) < 300)))) ad M) := by
  refine Ct_of (ins := .ireturn) (ok := okZ) [some (.ref (ad 40 0)), some (.int (iI r))] (by decide +kernel) rfl (Nat.le_of_ble_eq_true rfl) (fun κ s hs X hr hQ hδ => endZ rfl hs X hr hQ hδ) (fun κ X hNL hδ Y => ?_)
  refine g_rm (fun hM => ?_)
  refine g_aload_n X dX12_isGood_0 rfl rfl ?_
  refine g_get X ci12 (n40 hN) (en40 _ _ _ _) (by decide) fl_X12_22 rfl dX12_isGood_1 rfl ?_
  refine g_iload_n X dX12_isGood_4 rfl rfl ?_
  refine g_iald X dX12_isGood_5 rfl (n45 hN) (en45 _ _ _ _) (t0 := 0) rfl (by omega) (by omega) (by decide) (fun r5 => ?_)
  refine g_sipush X dX12_isGood_6 rfl (by decide) ?_
  refine g_icmp_ge (tgt := 16) X dX12_isGood_9 rfl rfl (by omega) (by omega) (fun h9 => ?_) (fun h9 => ?_)
  · skip
    refine g_iconst X dX12_isGood_16 rfl ?_
    exact g_ret Y dX12_isGood_17 okZ0 (pVf (by omega))
  · skip
    refine g_iconst X dX12_isGood_12 rfl ?_
    refine g_goto (pc' := 17) X dX12_isGood_13 rfl ?_
    exact g_ret Y dX12_isGood_17 okZ1 (pVt (by omega))
set_option maxRecDepth 100000 in
set_option maxHeartbeats 4000000 in
theorem c_X12_isVersion {δ : Dx} {nm : List (Nat × Int)} {ad : Ad} {M : Mem} {v : Int} (hN : NmOk nm) (rv : rng v) (m1 : 0 ≤ (M.1 40 22 0 0) ∧ (M.1 40 22 0 0) ≤ 6) : Ct δ md_X12_isVersion 0 0 nm ad M [.ref (ad 40 0), .int (iI v)] (pV (.int (iI (bI (0 ≤ v ∧ v < (M.1 40 22 0 0))))) ad M) := by
  refine Ct_of (ins := .ireturn) (ok := okZ) [some (.ref (ad 40 0)), some (.int (iI v))] (by decide +kernel) rfl (Nat.le_of_ble_eq_true rfl) (fun κ s hs X hr hQ hδ => endZ rfl hs X hr hQ hδ) (fun κ X hNL hδ Y => ?_)
  refine g_rm (fun hM => ?_)
  refine g_aload_n X dX12_isVersion_0 rfl rfl ?_
  refine g_iload_n X dX12_isVersion_1 rfl rfl ?_
  refine g_iconst X dX12_isVersion_2 rfl ?_
  refine g_aload_n X dX12_isVersion_3 rfl rfl ?_
  refine g_getI X ci12 (n40 hN) (en40 _ _ _ _) (by decide) fl_X12_219 rfl dX12_isVersion_4 rfl (fun r4 => ?_)
  refine g_iconst X dX12_isVersion_7 rfl ?_
  refine g_isub X dX12_isVersion_8 rfl ?_
  refine g_iV3_v X w_X12_in ml_X12_146 dX12_isVersion_9 rfl (n40 hN) (en40 _ _ _ _) ⟨⟨Nat.le_of_ble_eq_true rfl, Nat.le_of_ble_eq_true rfl⟩, Nat.le_of_ble_eq_true rfl, Nat.le_of_ble_eq_true rfl⟩ (Nat.le_of_ble_eq_true rfl) (c_X12_in hN (by omega) (by omega) (by omega)) ?_
  exact g_ret Y dX12_isVersion_12 okZb (pVb (by omega))
set_option maxRecDepth 100000 in
set_option maxHeartbeats 4000000 in
theorem c_X12_isPlace {δ : Dx} {nm : List (Nat × Int)} {ad : Ad} {M : Mem} {k : Int} (hN : NmOk nm) (rk : rng k) (m2 : 0 ≤ (M.1 40 39 0 0) ∧ (M.1 40 39 0 0) ≤ 120) : Ct δ md_X12_isPlace 0 0 nm ad M [.ref (ad 40 0), .int (iI k)] (pV (.int (iI (bI (0 ≤ k ∧ k < (M.1 40 39 0 0))))) ad M) := by
  refine Ct_of (ins := .ireturn) (ok := okZ) [some (.ref (ad 40 0)), some (.int (iI k))] (by decide +kernel) rfl (Nat.le_of_ble_eq_true rfl) (fun κ s hs X hr hQ hδ => endZ rfl hs X hr hQ hδ) (fun κ X hNL hδ Y => ?_)
  refine g_rm (fun hM => ?_)
  refine g_aload_n X dX12_isPlace_0 rfl rfl ?_
  refine g_iload_n X dX12_isPlace_1 rfl rfl ?_
  refine g_iconst X dX12_isPlace_2 rfl ?_
  refine g_aload_n X dX12_isPlace_3 rfl rfl ?_
  refine g_getI X ci12 (n40 hN) (en40 _ _ _ _) (by decide) fl_X12_249 rfl dX12_isPlace_4 rfl (fun r4 => ?_)
  refine g_iconst X dX12_isPlace_7 rfl ?_
  refine g_isub X dX12_isPlace_8 rfl ?_
  refine g_iV3_v X w_X12_in ml_X12_146 dX12_isPlace_9 rfl (n40 hN) (en40 _ _ _ _) ⟨⟨Nat.le_of_ble_eq_true rfl, Nat.le_of_ble_eq_true rfl⟩, Nat.le_of_ble_eq_true rfl, Nat.le_of_ble_eq_true rfl⟩ (Nat.le_of_ble_eq_true rfl) (c_X12_in hN (by omega) (by omega) (by omega)) ?_
  exact g_ret Y dX12_isPlace_12 okZb (pVb (by omega))
set_option maxRecDepth 100000 in
set_option maxHeartbeats 4000000 in
theorem c_X12_isFrame {δ : Dx} {nm : List (Nat × Int)} {ad : Ad} {M : Mem} {r k : Int} (hN : NmOk nm) (rr : rng r) (rk : rng k) (m0 : 0 ≤ (M.1 40 10 0 0) ∧ (M.1 40 10 0 0) ≤ 12) (mn : ∀ i, 0 ≤ i → i < 12 → 0 ≤ (M.1 47 0 0 i) ∧ (M.1 47 0 0 i) ≤ 60) : Ct δ md_X12_isFrame 0 0 nm ad M [.ref (ad 40 0), .int (iI r), .int (iI k)] (pV (.int (iI (bI ((0 ≤ r ∧ r < (M.1 40 10 0 0)) ∧ 0 ≤ k ∧ k < (M.1 47 0 0 r))))) ad M) := by
  refine Ct_of (ins := .ireturn) (ok := okZ) [some (.ref (ad 40 0)), some (.int (iI r)), some (.int (iI k))] (by decide +kernel) rfl (Nat.le_of_ble_eq_true rfl) (fun κ s hs X hr hQ hδ => endZ rfl hs X hr hQ hδ) (fun κ X hNL hδ Y => ?_)
  refine g_rm (fun hM => ?_)
  refine g_aload_n X dX12_isFrame_0 rfl rfl ?_
  refine g_iload_n X dX12_isFrame_1 rfl rfl ?_
  refine g_iV1_v X w_X12_isReel ml_X12_154 dX12_isFrame_2 rfl (n40 hN) (en40 _ _ _ _) ⟨⟨Nat.le_of_ble_eq_true rfl, Nat.le_of_ble_eq_true rfl⟩, Nat.le_of_ble_eq_true rfl, Nat.le_of_ble_eq_true rfl⟩ (Nat.le_of_ble_eq_true rfl) (c_X12_isReel hN (by omega) (by omega)) ?_
  refine g_ifB_eq (tgt := 29) X dX12_isFrame_5 rfl rfl (fun h5 => ?_) (fun h5 => ?_)
  · skip
    refine g_iconst X dX12_isFrame_29 rfl ?_
    exact g_ret Y dX12_isFrame_30 okZ0 (pVf (by omega))
  · skip
    have q := mn r (by omega) (by omega)
    refine g_aload_n X dX12_isFrame_8 rfl rfl ?_
    refine g_iload_n X dX12_isFrame_9 rfl rfl ?_
    refine g_iconst X dX12_isFrame_10 rfl ?_
    refine g_aload_n X dX12_isFrame_11 rfl rfl ?_
    refine g_get X ci12 (n40 hN) (en40 _ _ _ _) (by decide) fl_X12_28 rfl dX12_isFrame_12 rfl ?_
    refine g_iload_n X dX12_isFrame_15 rfl rfl ?_
    refine g_iald X dX12_isFrame_16 rfl (n47 hN) (en47 _ _ _ _) (t0 := 0) rfl (by omega) (by omega) (by decide) (fun r16 => ?_)
    refine g_iconst X dX12_isFrame_17 rfl ?_
    refine g_isub X dX12_isFrame_18 rfl ?_
    refine g_iV3_v X w_X12_in ml_X12_146 dX12_isFrame_19 rfl (n40 hN) (en40 _ _ _ _) ⟨⟨Nat.le_of_ble_eq_true rfl, Nat.le_of_ble_eq_true rfl⟩, Nat.le_of_ble_eq_true rfl, Nat.le_of_ble_eq_true rfl⟩ (Nat.le_of_ble_eq_true rfl) (c_X12_in hN (by omega) (by omega) (by omega)) ?_
    refine g_ifB_eq (tgt := 29) X dX12_isFrame_22 rfl rfl (fun h22 => ?_) (fun h22 => ?_)
    · skip
      refine g_iconst X dX12_isFrame_29 rfl ?_
      exact g_ret Y dX12_isFrame_30 okZ0 (pVf (by omega))
    · skip
      refine g_iconst X dX12_isFrame_25 rfl ?_
      refine g_goto (pc' := 30) X dX12_isFrame_26 rfl ?_
      exact g_ret Y dX12_isFrame_30 okZ1 (pVt (by omega))
set_option maxRecDepth 100000 in
set_option maxHeartbeats 4000000 in
theorem c_X12_isShot {δ : Dx} {nm : List (Nat × Int)} {ad : Ad} {M : Mem} {v s : Int} (hN : NmOk nm) (rv : rng v) (rs : rng s) (m1 : 0 ≤ (M.1 40 22 0 0) ∧ (M.1 40 22 0 0) ≤ 6) (mv : ∀ v, 0 ≤ v → v < 6 → 0 ≤ (M.1 55 0 0 v) ∧ (M.1 55 0 0 v) ≤ 10) : Ct δ md_X12_isShot 0 0 nm ad M [.ref (ad 40 0), .int (iI v), .int (iI s)] (pV (.int (iI (bI ((0 ≤ v ∧ v < (M.1 40 22 0 0)) ∧ 0 ≤ s ∧ s < (M.1 55 0 0 v))))) ad M) := by
  refine Ct_of (ins := .ireturn) (ok := okZ) [some (.ref (ad 40 0)), some (.int (iI v)), some (.int (iI s))] (by decide +kernel) rfl (Nat.le_of_ble_eq_true rfl) (fun κ s hs X hr hQ hδ => endZ rfl hs X hr hQ hδ) (fun κ X hNL hδ Y => ?_)
  refine g_rm (fun hM => ?_)
  refine g_aload_n X dX12_isShot_0 rfl rfl ?_
  refine g_iload_n X dX12_isShot_1 rfl rfl ?_
  refine g_iV1_v X w_X12_isVersion ml_X12_222 dX12_isShot_2 rfl (n40 hN) (en40 _ _ _ _) ⟨⟨Nat.le_of_ble_eq_true rfl, Nat.le_of_ble_eq_true rfl⟩, Nat.le_of_ble_eq_true rfl, Nat.le_of_ble_eq_true rfl⟩ (Nat.le_of_ble_eq_true rfl) (c_X12_isVersion hN (by omega) (by omega)) ?_
  refine g_ifB_eq (tgt := 29) X dX12_isShot_5 rfl rfl (fun h5 => ?_) (fun h5 => ?_)
  · skip
    refine g_iconst X dX12_isShot_29 rfl ?_
    exact g_ret Y dX12_isShot_30 okZ0 (pVf (by omega))
  · skip
    have q := mv v (by omega) (by omega)
    refine g_aload_n X dX12_isShot_8 rfl rfl ?_
    refine g_iload_n X dX12_isShot_9 rfl rfl ?_
    refine g_iconst X dX12_isShot_10 rfl ?_
    refine g_aload_n X dX12_isShot_11 rfl rfl ?_
    refine g_get X ci12 (n40 hN) (en40 _ _ _ _) (by decide) fl_X12_60 rfl dX12_isShot_12 rfl ?_
    refine g_iload_n X dX12_isShot_15 rfl rfl ?_
    refine g_iald X dX12_isShot_16 rfl (n55 hN) (en55 _ _ _ _) (t0 := 0) rfl (by omega) (by omega) (by decide) (fun r16 => ?_)
    refine g_iconst X dX12_isShot_17 rfl ?_
    refine g_isub X dX12_isShot_18 rfl ?_
    refine g_iV3_v X w_X12_in ml_X12_146 dX12_isShot_19 rfl (n40 hN) (en40 _ _ _ _) ⟨⟨Nat.le_of_ble_eq_true rfl, Nat.le_of_ble_eq_true rfl⟩, Nat.le_of_ble_eq_true rfl, Nat.le_of_ble_eq_true rfl⟩ (Nat.le_of_ble_eq_true rfl) (c_X12_in hN (by omega) (by omega) (by omega)) ?_
    refine g_ifB_eq (tgt := 29) X dX12_isShot_22 rfl rfl (fun h22 => ?_) (fun h22 => ?_)
    · skip
      refine g_iconst X dX12_isShot_29 rfl ?_
      exact g_ret Y dX12_isShot_30 okZ0 (pVf (by omega))
    · skip
      refine g_iconst X dX12_isShot_25 rfl ?_
      refine g_goto (pc' := 30) X dX12_isShot_26 rfl ?_
      exact g_ret Y dX12_isShot_30 okZ1 (pVt (by omega))
set_option maxRecDepth 100000 in
set_option maxHeartbeats 4000000 in
theorem c_X12_rate {δ : Dx} {nm : List (Nat × Int)} {ad : Ad} {M : Mem} {r : Int} (hN : NmOk nm) (r0 : 0 ≤ r) (q1 : r < 12) : Ct δ md_X12_rate 0 0 nm ad M [.ref (ad 40 0), .int (iI r)] (pV (.int (iI (if (M.1 46 0 0 r) = 1 then 1 else if (M.1 41 0 0 r) = 0 then 3 else 2))) ad M) := by
  refine Ct_of (ins := .ireturn) (ok := okI) [some (.ref (ad 40 0)), some (.int (iI r))] (by decide +kernel) rfl (Nat.le_of_ble_eq_true rfl) (fun κ s hs X hr hQ hδ => endI rfl hs X hr hQ hδ) (fun κ X hNL hδ Y => ?_)
  refine g_rm (fun hM => ?_)
  refine g_aload_n X dX12_rate_0 rfl rfl ?_
  refine g_get X ci12 (n40 hN) (en40 _ _ _ _) (by decide) fl_X12_25 rfl dX12_rate_1 rfl ?_
  refine g_iload_n X dX12_rate_4 rfl rfl ?_
  refine g_iald X dX12_rate_5 rfl (n46 hN) (en46 _ _ _ _) (t0 := 0) rfl (by omega) (by omega) (by decide) (fun r5 => ?_)
  refine g_iconst X dX12_rate_6 rfl ?_
  refine g_icmp_ne (tgt := 14) X dX12_rate_7 rfl rfl (by omega) (by omega) (fun h7 => ?_) (fun h7 => ?_)
  · skip
    refine g_aload_n X dX12_rate_14 rfl rfl ?_
    refine g_get X ci12 (n40 hN) (en40 _ _ _ _) (by decide) fl_X12_7 rfl dX12_rate_15 rfl ?_
    refine g_iload_n X dX12_rate_18 rfl rfl ?_
    refine g_iald X dX12_rate_19 rfl (n41 hN) (en41 _ _ _ _) (t0 := 0) rfl (by omega) (by omega) (by decide) (fun r19 => ?_)
    refine g_if_ne (tgt := 27) X dX12_rate_20 rfl rfl (by omega) (fun h20 => ?_) (fun h20 => ?_)
    · skip
      refine g_iconst X dX12_rate_27 rfl ?_
      exact g_ret Y dX12_rate_28 ⟨_, rfl⟩ (pVI (by first | (rw [if_pos (by assumption)]; done) | (rw [if_neg (by assumption), if_pos (by assumption)]; done) | (rw [if_neg (by assumption), if_neg (by assumption)]; done)))
    · skip
      refine g_iconst X dX12_rate_23 rfl ?_
      refine g_goto (pc' := 28) X dX12_rate_24 rfl ?_
      exact g_ret Y dX12_rate_28 ⟨_, rfl⟩ (pVI (by first | (rw [if_pos (by assumption)]; done) | (rw [if_neg (by assumption), if_pos (by assumption)]; done) | (rw [if_neg (by assumption), if_neg (by assumption)]; done)))
  · skip
    refine g_iconst X dX12_rate_10 rfl ?_
    refine g_goto (pc' := 28) X dX12_rate_11 rfl ?_
    exact g_ret Y dX12_rate_28 ⟨_, rfl⟩ (pVI (by first | (rw [if_pos (by assumption)]; done) | (rw [if_neg (by assumption), if_pos (by assumption)]; done) | (rw [if_neg (by assumption), if_neg (by assumption)]; done)))
def freM (M : Mem) (k : Int) : Prop := (0 ≤ k ∧ k < (M.1 40 39 0 0)) ∧ 0 ≤ (M.1 68 0 0 k) ∧ (M.1 72 0 0 k) = 0
set_option maxRecDepth 100000 in
set_option maxHeartbeats 4000000 in
theorem c_X12_isFree {δ : Dx} {nm : List (Nat × Int)} {ad : Ad} {M : Mem} {k : Int} (hN : NmOk nm) (rk : rng k) (m2 : 0 ≤ (M.1 40 39 0 0) ∧ (M.1 40 39 0 0) ≤ 120) : Ct δ md_X12_isFree 0 0 nm ad M [.ref (ad 40 0), .int (iI k)] (pV (.int (iI (bI (freM M k)))) ad M) := by
  refine Ct_of (ins := .ireturn) (ok := okZ) [some (.ref (ad 40 0)), some (.int (iI k))] (by decide +kernel) rfl (Nat.le_of_ble_eq_true rfl) (fun κ s hs X hr hQ hδ => endZ rfl hs X hr hQ hδ) (fun κ X hNL hδ Y => ?_)
  refine g_rm (fun hM => ?_)
  refine g_aload_n X dX12_isFree_0 rfl rfl ?_
  refine g_iload_n X dX12_isFree_1 rfl rfl ?_
  refine g_iV1_v X w_X12_isPlace ml_X12_255 dX12_isFree_2 rfl (n40 hN) (en40 _ _ _ _) ⟨⟨Nat.le_of_ble_eq_true rfl, Nat.le_of_ble_eq_true rfl⟩, Nat.le_of_ble_eq_true rfl, Nat.le_of_ble_eq_true rfl⟩ (Nat.le_of_ble_eq_true rfl) (c_X12_isPlace hN (by omega) (by omega)) ?_
  refine g_ifB_eq (tgt := 30) X dX12_isFree_5 rfl rfl (fun h5 => ?_) (fun h5 => ?_)
  · skip
    refine g_iconst X dX12_isFree_30 rfl ?_
    exact g_ret Y dX12_isFree_31 okZ0 (pVf (by unfold freM; omega))
  · skip
    refine g_aload_n X dX12_isFree_8 rfl rfl ?_
    refine g_get X ci12 (n40 hN) (en40 _ _ _ _) (by decide) fl_X12_99 rfl dX12_isFree_9 rfl ?_
    refine g_iload_n X dX12_isFree_12 rfl rfl ?_
    refine g_iald X dX12_isFree_13 rfl (n68 hN) (en68 _ _ _ _) (t0 := 0) rfl (by omega) (by omega) (by decide) (fun r13 => ?_)
    refine g_if_lt (tgt := 30) X dX12_isFree_14 rfl rfl (by omega) (fun h14 => ?_) (fun h14 => ?_)
    · skip
      refine g_iconst X dX12_isFree_30 rfl ?_
      exact g_ret Y dX12_isFree_31 okZ0 (pVf (by unfold freM; omega))
    · skip
      refine g_aload_n X dX12_isFree_17 rfl rfl ?_
      refine g_get X ci12 (n40 hN) (en40 _ _ _ _) (by decide) fl_X12_111 rfl dX12_isFree_18 rfl ?_
      refine g_iload_n X dX12_isFree_21 rfl rfl ?_
      refine g_iald X dX12_isFree_22 rfl (n72 hN) (en72 _ _ _ _) (t0 := 0) rfl (by omega) (by omega) (by decide) (fun r22 => ?_)
      refine g_if_ne (tgt := 30) X dX12_isFree_23 rfl rfl (by omega) (fun h23 => ?_) (fun h23 => ?_)
      · skip
        refine g_iconst X dX12_isFree_30 rfl ?_
        exact g_ret Y dX12_isFree_31 okZ0 (pVf (by unfold freM; omega))
      · skip
        refine g_iconst X dX12_isFree_26 rfl ?_
        refine g_goto (pc' := 31) X dX12_isFree_27 rfl ?_
        exact g_ret Y dX12_isFree_31 okZ1 (pVt (by unfold freM; omega))
set_option maxRecDepth 100000 in
set_option maxHeartbeats 4000000 in
theorem c_X12_hasBoth {δ : Dx} {nm : List (Nat × Int)} {ad : Ad} {M : Mem} {k : Int} (hN : NmOk nm) (k0 : 0 ≤ k ∧ k < 120) (m2 : 0 ≤ (M.1 40 39 0 0) ∧ (M.1 40 39 0 0) ≤ 120) : Ct δ md_X12_hasBoth 0 0 nm ad M [.ref (ad 40 0), .int (iI k)] (pV (.int (iI (bI (freM M k ∧ freM M (k - 1) ∧ freM M (k + 1))))) ad M) := by
  refine Ct_of (ins := .ireturn) (ok := okZ) [some (.ref (ad 40 0)), some (.int (iI k))] (by decide +kernel) rfl (Nat.le_of_ble_eq_true rfl) (fun κ s hs X hr hQ hδ => endZ rfl hs X hr hQ hδ) (fun κ X hNL hδ Y => ?_)
  refine g_rm (fun hM => ?_)
  refine g_aload_n X dX12_hasBoth_0 rfl rfl ?_
  refine g_iload_n X dX12_hasBoth_1 rfl rfl ?_
  refine g_iV1_v X w_X12_isFree ml_X12_258 dX12_hasBoth_2 rfl (n40 hN) (en40 _ _ _ _) ⟨⟨Nat.le_of_ble_eq_true rfl, Nat.le_of_ble_eq_true rfl⟩, Nat.le_of_ble_eq_true rfl, Nat.le_of_ble_eq_true rfl⟩ (Nat.le_of_ble_eq_true rfl) (c_X12_isFree hN (by omega) (by omega)) ?_
  refine g_ifB_eq (tgt := 32) X dX12_hasBoth_5 rfl rfl (fun h5 => ?_) (fun h5 => ?_)
  · skip
    refine g_iconst X dX12_hasBoth_32 rfl ?_
    exact g_ret Y dX12_hasBoth_33 okZ0 (pVf (by first | exact ⟨by assumption, by assumption, by assumption⟩ | exact fun q => absurd q.1 (by assumption) | exact fun q => absurd q.2.1 (by assumption) | exact fun q => absurd q.2.2 (by assumption)))
  · skip
    refine g_aload_n X dX12_hasBoth_8 rfl rfl ?_
    refine g_iload_n X dX12_hasBoth_9 rfl rfl ?_
    refine g_iconst X dX12_hasBoth_10 rfl ?_
    refine g_isub X dX12_hasBoth_11 rfl ?_
    refine g_iV1_v X w_X12_isFree ml_X12_258 dX12_hasBoth_12 rfl (n40 hN) (en40 _ _ _ _) ⟨⟨Nat.le_of_ble_eq_true rfl, Nat.le_of_ble_eq_true rfl⟩, Nat.le_of_ble_eq_true rfl, Nat.le_of_ble_eq_true rfl⟩ (Nat.le_of_ble_eq_true rfl) (c_X12_isFree hN (by omega) (by omega)) ?_
    refine g_ifB_eq (tgt := 32) X dX12_hasBoth_15 rfl rfl (fun h15 => ?_) (fun h15 => ?_)
    · skip
      refine g_iconst X dX12_hasBoth_32 rfl ?_
      exact g_ret Y dX12_hasBoth_33 okZ0 (pVf (by first | exact ⟨by assumption, by assumption, by assumption⟩ | exact fun q => absurd q.1 (by assumption) | exact fun q => absurd q.2.1 (by assumption) | exact fun q => absurd q.2.2 (by assumption)))
    · skip
      refine g_aload_n X dX12_hasBoth_18 rfl rfl ?_
      refine g_iload_n X dX12_hasBoth_19 rfl rfl ?_
      refine g_iconst X dX12_hasBoth_20 rfl ?_
      refine g_iadd X dX12_hasBoth_21 rfl ?_
      refine g_iV1_v X w_X12_isFree ml_X12_258 dX12_hasBoth_22 rfl (n40 hN) (en40 _ _ _ _) ⟨⟨Nat.le_of_ble_eq_true rfl, Nat.le_of_ble_eq_true rfl⟩, Nat.le_of_ble_eq_true rfl, Nat.le_of_ble_eq_true rfl⟩ (Nat.le_of_ble_eq_true rfl) (c_X12_isFree hN (by omega) (by omega)) ?_
      refine g_ifB_eq (tgt := 32) X dX12_hasBoth_25 rfl rfl (fun h25 => ?_) (fun h25 => ?_)
      · skip
        refine g_iconst X dX12_hasBoth_32 rfl ?_
        exact g_ret Y dX12_hasBoth_33 okZ0 (pVf (by first | exact ⟨by assumption, by assumption, by assumption⟩ | exact fun q => absurd q.1 (by assumption) | exact fun q => absurd q.2.1 (by assumption) | exact fun q => absurd q.2.2 (by assumption)))
      · skip
        refine g_iconst X dX12_hasBoth_28 rfl ?_
        refine g_goto (pc' := 33) X dX12_hasBoth_29 rfl ?_
        exact g_ret Y dX12_hasBoth_33 okZ1 (pVt (by first | exact ⟨by assumption, by assumption, by assumption⟩ | exact fun q => absurd q.1 (by assumption) | exact fun q => absurd q.2.1 (by assumption) | exact fun q => absurd q.2.2 (by assumption)))
set_option maxRecDepth 100000 in
set_option maxHeartbeats 4000000 in
theorem c_X12_isPair {δ : Dx} {nm : List (Nat × Int)} {ad : Ad} {M : Mem} {r i q j : Int} (hN : NmOk nm) (r0 : 0 ≤ r ∧ r < 12) (i0 : 0 ≤ i ∧ i < 60) (q0 : 0 ≤ q ∧ q < 12) (j0 : 0 ≤ j ∧ j < 60) : Ct δ md_X12_isPair 0 0 nm ad M [.ref (ad 40 0), .int (iI r), .int (iI i), .int (iI q), .int (iI j)] (pV (.int (iI (bI (dist (M.2 49 0 0 (60 * r + i)) (M.2 49 0 0 (60 * q + j)) ≤ (M.1 40 11 0 0))))) ad M) := by
  refine Ct_of (ins := .ireturn) (ok := okZ) [some (.ref (ad 40 0)), some (.int (iI r)), some (.int (iI i)), some (.int (iI q)), some (.int (iI j))] (by decide +kernel) rfl (Nat.le_of_ble_eq_true rfl) (fun κ s hs X hr hQ hδ => endZ rfl hs X hr hQ hδ) (fun κ X hNL hδ Y => ?_)
  refine g_rm (fun hM => ?_)
  have pd := dist_b (M.2 49 0 0 (60 * r + i)) (M.2 49 0 0 (60 * q + j))
  refine g_aload_n X dX12_isPair_0 rfl rfl ?_
  refine g_aload_n X dX12_isPair_1 rfl rfl ?_
  refine g_get X ci12 (n40 hN) (en40 _ _ _ _) (by decide) fl_X12_34 rfl dX12_isPair_2 rfl ?_
  refine g_bipush X dX12_isPair_5 rfl (by decide) ?_
  refine g_iload_n X dX12_isPair_7 rfl rfl ?_
  refine g_imul X dX12_isPair_8 rfl ?_
  refine g_iload_n X dX12_isPair_9 rfl rfl ?_
  refine g_iadd X dX12_isPair_10 rfl ?_
  refine g_lald X dX12_isPair_11 rfl (n49 hN) (en49 _ _ _ _) (t0 := 1) rfl (by omega) (by omega) (by decide) ?_
  refine g_aload_n X dX12_isPair_12 rfl rfl ?_
  refine g_get X ci12 (n40 hN) (en40 _ _ _ _) (by decide) fl_X12_34 rfl dX12_isPair_13 rfl ?_
  refine g_bipush X dX12_isPair_16 rfl (by decide) ?_
  refine g_iload_n X dX12_isPair_18 rfl rfl ?_
  refine g_imul X dX12_isPair_19 rfl ?_
  refine g_iload X dX12_isPair_20 rfl rfl ?_
  refine g_iadd X dX12_isPair_22 rfl ?_
  refine g_lald X dX12_isPair_23 rfl (n49 hN) (en49 _ _ _ _) (t0 := 1) rfl (by omega) (by omega) (by decide) ?_
  refine g_iV2_v X w_X12_apart ml_X12_205 dX12_isPair_24 rfl (n40 hN) (en40 _ _ _ _) ⟨⟨Nat.le_of_ble_eq_true rfl, Nat.le_of_ble_eq_true rfl⟩, Nat.le_of_ble_eq_true rfl, Nat.le_of_ble_eq_true rfl⟩ (Nat.le_of_ble_eq_true rfl) (c_X12_apart hN) ?_
  refine g_aload_n X dX12_isPair_27 rfl rfl ?_
  refine g_getI X ci12 (n40 hN) (en40 _ _ _ _) (by decide) fl_X12_41 rfl dX12_isPair_28 rfl (fun r28 => ?_)
  refine g_icmp_gt (tgt := 38) X dX12_isPair_31 rfl rfl (by omega) (by omega) (fun h31 => ?_) (fun h31 => ?_)
  · skip
    refine g_iconst X dX12_isPair_38 rfl ?_
    exact g_ret Y dX12_isPair_39 okZ0 (pVf (by omega))
  · skip
    refine g_iconst X dX12_isPair_34 rfl ?_
    refine g_goto (pc' := 39) X dX12_isPair_35 rfl ?_
    exact g_ret Y dX12_isPair_39 okZ1 (pVt (by omega))
set_option maxRecDepth 100000 in
set_option maxHeartbeats 4000000 in
theorem c_X12_firstOf {δ : Dx} {nm : List (Nat × Int)} {ad : Ad} {M : Mem} {r c : Int} (hN : NmOk nm) (r0 : 0 ≤ r ∧ r < 12) (mn : ∀ i, 0 ≤ i → i < 12 → 0 ≤ (M.1 47 0 0 i) ∧ (M.1 47 0 0 i) ≤ 60) (rc : rng c) : Ct δ md_X12_firstOf 0 0 nm ad M [.ref (ad 40 0), .int (iI r), .int (iI c)] (fun v ad' M' => ∃ k, v = some (.int (iI k)) ∧ ad' = ad ∧ M' = M ∧ ((k = -1 ∧ ∀ j, 0 ≤ j → j < (M.1 47 0 0 r) → (M.1 48 0 0 (60 * r + j)) ≠ c) ∨ (0 ≤ k ∧ k < (M.1 47 0 0 r) ∧ (M.1 48 0 0 (60 * r + k)) = c ∧ ∀ j, 0 ≤ j → j < k → (M.1 48 0 0 (60 * r + j)) ≠ c))) := by
  refine Ct_of (ins := .ireturn) (ok := okI) [some (.ref (ad 40 0)), some (.int (iI r)), some (.int (iI c)), none] (by decide +kernel) rfl (Nat.le_of_ble_eq_true rfl) (fun κ s hs X hr hQ hδ => endI rfl hs X hr hQ hδ) (fun κ X hNL hδ Y => ?_)
  refine g_rm (fun hM => ?_)
  have q := mn r (by omega) (by omega)
  refine g_iconst X dX12_firstOf_0 rfl ?_
  refine g_istore_3 X dX12_firstOf_1 rfl (lt_kN hNL rfl) rfl ?_
  have lp2 : ∀ (k : Int) (k0 : 0 ≤ k) (k1 : k ≤ (M.1 47 0 0 r)) (ha : ∀ j, 0 ≤ j → j < k → (M.1 48 0 0 (60 * r + j)) ≠ c), G κ nm ad M 2 [some (.ref (ad 40 0)), some (.int (iI r)), some (.int (iI c)), some (.int (iI k))] [] 0 0 := by
    refine ind1 (fun k => (60 - k).toNat) ?_
    intro k ih2 k0 k1 ha
    refine g_rm (fun hM2 => ?_)
    refine g_iload_n X dX12_firstOf_2 rfl rfl ?_
    refine g_aload_n X dX12_firstOf_3 rfl rfl ?_
    refine g_get X ci12 (n40 hN) (en40 _ _ _ _) (by decide) fl_X12_28 rfl dX12_firstOf_4 rfl ?_
    refine g_iload_n X dX12_firstOf_7 rfl rfl ?_
    refine g_iald X dX12_firstOf_8 rfl (n47 hN) (en47 _ _ _ _) (t0 := 0) rfl (by omega) (by omega) (by decide) (fun r8 => ?_)
    refine g_icmp_ge (tgt := 35) X dX12_firstOf_9 rfl rfl (by omega) (by omega) (fun h9 => ?_) (fun h9 => ?_)
    · skip
      refine g_iconst X dX12_firstOf_35 rfl ?_
      exact g_ret Y dX12_firstOf_36 ⟨_, rfl⟩ ⟨-1, rfl, rfl, rfl, Or.inl ⟨rfl, fun j h1 h2 => ha j h1 (by omega)⟩⟩
    · skip
      refine g_aload_n X dX12_firstOf_12 rfl rfl ?_
      refine g_get X ci12 (n40 hN) (en40 _ _ _ _) (by decide) fl_X12_31 rfl dX12_firstOf_13 rfl ?_
      refine g_bipush X dX12_firstOf_16 rfl (by decide) ?_
      refine g_iload_n X dX12_firstOf_18 rfl rfl ?_
      refine g_imul X dX12_firstOf_19 rfl ?_
      refine g_iload_n X dX12_firstOf_20 rfl rfl ?_
      refine g_iadd X dX12_firstOf_21 rfl ?_
      refine g_iald X dX12_firstOf_22 rfl (n48 hN) (en48 _ _ _ _) (t0 := 0) rfl (by omega) (by omega) (by decide) (fun r22 => ?_)
      refine g_iload_n X dX12_firstOf_23 rfl rfl ?_
      refine g_icmp_ne (tgt := 29) X dX12_firstOf_24 rfl rfl (by omega) (by omega) (fun h24 => ?_) (fun h24 => ?_)
      · skip
        refine g_iinc_3 X dX12_firstOf_29 rfl (lt_kN hNL rfl) rfl ?_
        refine g_goto (pc' := 2) X dX12_firstOf_32 rfl ?_
        exact ih2 (k + 1) (by omega) (by omega) (by omega) (fun j h1 h2 => by
                by_cases e : j = k
                · rw [e]; assumption
                · exact ha j h1 (by omega))
      · skip
        refine g_iload_n X dX12_firstOf_27 rfl rfl ?_
        exact g_ret Y dX12_firstOf_28 ⟨_, rfl⟩ ⟨k, rfl, rfl, rfl, Or.inr ⟨k0, by omega, by assumption, ha⟩⟩
  exact lp2 0 (by omega) (by omega) (fun j h1 h2 => by omega)
