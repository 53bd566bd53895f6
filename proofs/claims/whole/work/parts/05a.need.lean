theorem wt_140_144 : WT 140 144 "java/lang/IllegalArgumentException" := ⟨kl_X11_140, Tb_of (List.mem_of_getElem? (i := 63) (by decide +kernel)) (by decide +kernel), by decide +kernel, by decide +kernel, by decide +kernel, by decide +kernel, by decide +kernel⟩
theorem wt_315_319 : WT 315 319 "java/lang/IllegalStateException" := ⟨kl_X11_315, Tb_of (List.mem_of_getElem? (i := 64) (by decide +kernel)) (by decide +kernel), by decide +kernel, by decide +kernel, by decide +kernel, by decide +kernel, by decide +kernel⟩
theorem wt_320_324 : WT 320 324 "java/lang/IndexOutOfBoundsException" := ⟨kl_X11_320, Tb_of (List.mem_of_getElem? (i := 62) (by decide +kernel)) (by decide +kernel), by decide +kernel, by decide +kernel, by decide +kernel, by decide +kernel, by decide +kernel⟩
set_option maxRecDepth 100000 in
set_option maxHeartbeats 4000000 in
theorem c_X11_isWithin {δ : Dx} {nm : List (Nat × Int)} {ad : Ad} {M : Mem} {v a b : Int} (hN : NmOk nm) (rv : rng v) (ra : rng a) (rb : rng b) : Ct δ md_X11_isWithin 0 0 nm ad M [.int (iI v), .int (iI a), .int (iI b)] (pV (.int (iI (bI (a ≤ v ∧ v ≤ b)))) ad M) := by
  refine Ct_of (ins := .ireturn) (ok := okZ) [some (.int (iI v)), some (.int (iI a)), some (.int (iI b))] (by decide +kernel) rfl (Nat.le_of_ble_eq_true rfl) (fun κ s hs X hr hQ hδ => endZ rfl hs X hr hQ hδ) (fun κ X hNL hδ Y => ?_)
  refine g_rm (fun hM => ?_)
  refine g_iload_n X dX11_isWithin_0 rfl rfl ?_
  refine g_iload_n X dX11_isWithin_1 rfl rfl ?_
  refine g_icmp_lt (tgt := 14) X dX11_isWithin_2 rfl rfl (by omega) (by omega) (fun h2 => ?_) (fun h2 => ?_)
  · skip
    refine g_iconst X dX11_isWithin_14 rfl ?_
    exact g_ret Y dX11_isWithin_15 okZ0 (pVf (by omega))
  · skip
    refine g_iload_n X dX11_isWithin_5 rfl rfl ?_
    refine g_iload_n X dX11_isWithin_6 rfl rfl ?_
    refine g_icmp_gt (tgt := 14) X dX11_isWithin_7 rfl rfl (by omega) (by omega) (fun h7 => ?_) (fun h7 => ?_)
    · skip
      refine g_iconst X dX11_isWithin_14 rfl ?_
      exact g_ret Y dX11_isWithin_15 okZ0 (pVf (by omega))
    · skip
      refine g_iconst X dX11_isWithin_10 rfl ?_
      refine g_goto (pc' := 15) X dX11_isWithin_11 rfl ?_
      exact g_ret Y dX11_isWithin_15 okZ1 (pVt (by omega))
set_option maxRecDepth 100000 in
set_option maxHeartbeats 4000000 in
theorem c_X11_needInRange {δ : Dx} {nm : List (Nat × Int)} {ad : Ad} {M : Mem} {P : Prop} (hN : NmOk nm) : CtX δ md_X11_needInRange 1 6 nm ad M [.int (iI (bI P))] (pC P (pN ad M)) (fun E => E = "java/lang/IllegalArgumentException" ∧ ¬ P) := by
  refine CtX_of (ins := .return_) (ok := okN) [some (.int (iI (bI P)))] (by decide +kernel) rfl (Nat.le_of_ble_eq_true rfl) (fun κ X hr T => xendN rfl X hr T) (fun κ X hNL T Y => ?_)
  refine g_rm (fun hM => ?_)
  refine g_iload_n X dX11_needInRange_0 rfl rfl ?_
  refine g_ifB_ne (tgt := 15) X dX11_needInRange_1 rfl rfl (fun h1 => ?_) (fun h1 => ?_)
  · skip
    refine g_widen (cl' := 1) (sl' := 6) (Nat.le_of_ble_eq_true rfl) (Nat.le_of_ble_eq_true rfl) ?_
    exact g_retn Y dX11_needInRange_15 rfl ⟨(by assumption), rfl, rfl, rfl⟩
  · skip
    exact g_throwSW X T wt_140_144 (fun _ h => tx_range h) dX11_needInRange_4 dX11_needInRange_7 dX11_needInRange_8 dX11_needInRange_11 dX11_needInRange_14 (by first | exact ⟨rfl, by assumption⟩ | exact ⟨rfl, by omega⟩) ⟨Nat.le_of_ble_eq_true rfl, Nat.le_of_ble_eq_true rfl, Nat.le_of_ble_eq_true rfl, Nat.le_of_ble_eq_true rfl⟩ ⟨Nat.le_of_ble_eq_true rfl, Nat.le_of_ble_eq_true rfl⟩
set_option maxRecDepth 100000 in
set_option maxHeartbeats 4000000 in
theorem c_X11_needPossible {δ : Dx} {nm : List (Nat × Int)} {ad : Ad} {M : Mem} {P : Prop} (hN : NmOk nm) : CtX δ md_X11_needPossible 1 6 nm ad M [.int (iI (bI P))] (pC P (pN ad M)) (fun E => E = "java/lang/IllegalStateException" ∧ ¬ P) := by
  refine CtX_of (ins := .return_) (ok := okN) [some (.int (iI (bI P)))] (by decide +kernel) rfl (Nat.le_of_ble_eq_true rfl) (fun κ X hr T => xendN rfl X hr T) (fun κ X hNL T Y => ?_)
  refine g_rm (fun hM => ?_)
  refine g_iload_n X dX11_needPossible_0 rfl rfl ?_
  refine g_ifB_ne (tgt := 15) X dX11_needPossible_1 rfl rfl (fun h1 => ?_) (fun h1 => ?_)
  · skip
    refine g_widen (cl' := 1) (sl' := 6) (Nat.le_of_ble_eq_true rfl) (Nat.le_of_ble_eq_true rfl) ?_
    exact g_retn Y dX11_needPossible_15 rfl ⟨(by assumption), rfl, rfl, rfl⟩
  · skip
    exact g_throwSW X T wt_315_319 (fun _ h => tx_now h) dX11_needPossible_4 dX11_needPossible_7 dX11_needPossible_8 dX11_needPossible_11 dX11_needPossible_14 (by first | exact ⟨rfl, by assumption⟩ | exact ⟨rfl, by omega⟩) ⟨Nat.le_of_ble_eq_true rfl, Nat.le_of_ble_eq_true rfl, Nat.le_of_ble_eq_true rfl, Nat.le_of_ble_eq_true rfl⟩ ⟨Nat.le_of_ble_eq_true rfl, Nat.le_of_ble_eq_true rfl⟩
set_option maxRecDepth 100000 in
set_option maxHeartbeats 4000000 in
theorem c_X11_needPlace {δ : Dx} {nm : List (Nat × Int)} {ad : Ad} {M : Mem} {p n : Int} (hN : NmOk nm) (rp : rng p) (rn : rng n) : CtX δ md_X11_needPlace 1 6 nm ad M [.int (iI p), .int (iI n)] (pC (0 ≤ p ∧ p < n) (pN ad M)) (fun E => E = "java/lang/IndexOutOfBoundsException" ∧ ¬ (0 ≤ p ∧ p < n)) := by
  refine CtX_of (ins := .return_) (ok := okN) [some (.int (iI p)), some (.int (iI n))] (by decide +kernel) rfl (Nat.le_of_ble_eq_true rfl) (fun κ X hr T => xendN rfl X hr T) (fun κ X hNL T Y => ?_)
  refine g_rm (fun hM => ?_)
  refine g_iload_n X dX11_needPlace_0 rfl rfl ?_
  refine g_if_lt (tgt := 9) X dX11_needPlace_1 rfl rfl (by omega) (fun h1 => ?_) (fun h1 => ?_)
  · skip
    exact g_throwSW X T wt_320_324 (fun _ h => tx_place h) dX11_needPlace_9 dX11_needPlace_12 dX11_needPlace_13 dX11_needPlace_16 dX11_needPlace_19 (by first | exact ⟨rfl, by assumption⟩ | exact ⟨rfl, by omega⟩) ⟨Nat.le_of_ble_eq_true rfl, Nat.le_of_ble_eq_true rfl, Nat.le_of_ble_eq_true rfl, Nat.le_of_ble_eq_true rfl⟩ ⟨Nat.le_of_ble_eq_true rfl, Nat.le_of_ble_eq_true rfl⟩
  · skip
    refine g_iload_n X dX11_needPlace_4 rfl rfl ?_
    refine g_iload_n X dX11_needPlace_5 rfl rfl ?_
    refine g_icmp_lt (tgt := 20) X dX11_needPlace_6 rfl rfl (by omega) (by omega) (fun h6 => ?_) (fun h6 => ?_)
    · skip
      refine g_widen (cl' := 1) (sl' := 6) (Nat.le_of_ble_eq_true rfl) (Nat.le_of_ble_eq_true rfl) ?_
      exact g_retn Y dX11_needPlace_20 rfl ⟨(by omega), rfl, rfl, rfl⟩
    · skip
      exact g_throwSW X T wt_320_324 (fun _ h => tx_place h) dX11_needPlace_9 dX11_needPlace_12 dX11_needPlace_13 dX11_needPlace_16 dX11_needPlace_19 (by first | exact ⟨rfl, by assumption⟩ | exact ⟨rfl, by omega⟩) ⟨Nat.le_of_ble_eq_true rfl, Nat.le_of_ble_eq_true rfl, Nat.le_of_ble_eq_true rfl, Nat.le_of_ble_eq_true rfl⟩ ⟨Nat.le_of_ble_eq_true rfl, Nat.le_of_ble_eq_true rfl⟩
set_option maxRecDepth 100000 in
set_option maxHeartbeats 4000000 in
theorem c_X11_reelNumbered {δ : Dx} {nm : List (Nat × Int)} {ad : Ad} {M : Mem} {r : Int} (hN : NmOk nm) (rr : rng r) (rc : 0 ≤ (M.1 0 1 0 0) ∧ (M.1 0 1 0 0) ≤ 12) : CtX δ md_X11_reelNumbered 1 6 nm ad M [.ref (ad 0 0), .int (iI r)] (pC (0 ≤ r ∧ r < (M.1 0 1 0 0)) (pV (.ref (ad 16 r)) ad M)) (fun E => E = "java/lang/IndexOutOfBoundsException" ∧ ¬ (0 ≤ r ∧ r < (M.1 0 1 0 0))) := by
  refine CtX_of (ins := .areturn) (ok := okA) [some (.ref (ad 0 0)), some (.int (iI r))] (by decide +kernel) rfl (Nat.le_of_ble_eq_true rfl) (fun κ X hr T => xendA rfl (Or.inl ⟨_, rfl⟩) X hr T) (fun κ X hNL T Y => ?_)
  refine g_rm (fun hM => ?_)
  refine g_iload_n X dX11_reelNumbered_0 rfl rfl ?_
  refine g_aload_n X dX11_reelNumbered_1 rfl rfl ?_
  refine g_getI X ci11 (n0 hN) (en0 _ _ _ _) (by decide) fl_X11_15 rfl dX11_reelNumbered_2 rfl (fun r2 => ?_)
  refine g_xS2_n X T w_X11_needPlace ml_X11_91 dX11_reelNumbered_5 rfl ⟨⟨Nat.le_of_ble_eq_true rfl, Nat.le_of_ble_eq_true rfl⟩, Nat.le_of_ble_eq_true rfl, Nat.le_of_ble_eq_true rfl⟩ (Nat.le_of_ble_eq_true rfl) (c_X11_needPlace hN (by omega) (by omega)) (Nat.le_of_ble_eq_true rfl) (Nat.le_of_ble_eq_true rfl) (fun E h => h) (fun hc5 => ?_)
  refine g_aload_n X dX11_reelNumbered_8 rfl rfl ?_
  refine g_get X ci11 (n0 hN) (en0 _ _ _ _) (by decide) fl_X11_11 rfl dX11_reelNumbered_9 rfl ?_
  refine g_iload_n X dX11_reelNumbered_12 rfl rfl ?_
  refine g_rald X (n1 hN) (en1 _ _ _ _) (t0 := 4) rfl (by omega) (by omega) (by decide) dX11_reelNumbered_13 rfl ?_
  exact g_ret Y dX11_reelNumbered_14 ⟨_, rfl⟩ ⟨(by omega), rfl, rfl, rfl⟩
set_option maxRecDepth 100000 in
set_option maxHeartbeats 4000000 in
theorem c_X11_versionNumbered {δ : Dx} {nm : List (Nat × Int)} {ad : Ad} {M : Mem} {v : Int} (hN : NmOk nm) (rv : rng v) (rc : 0 ≤ (M.1 0 6 0 0) ∧ (M.1 0 6 0 0) ≤ 6) : CtX δ md_X11_versionNumbered 1 6 nm ad M [.ref (ad 0 0), .int (iI v)] (pC (0 ≤ v ∧ v < (M.1 0 6 0 0)) (pV (.ref (ad 22 v)) ad M)) (fun E => E = "java/lang/IndexOutOfBoundsException" ∧ ¬ (0 ≤ v ∧ v < (M.1 0 6 0 0))) := by
  refine CtX_of (ins := .areturn) (ok := okA) [some (.ref (ad 0 0)), some (.int (iI v))] (by decide +kernel) rfl (Nat.le_of_ble_eq_true rfl) (fun κ X hr T => xendA rfl (Or.inl ⟨_, rfl⟩) X hr T) (fun κ X hNL T Y => ?_)
  refine g_rm (fun hM => ?_)
  refine g_iload_n X dX11_versionNumbered_0 rfl rfl ?_
  refine g_aload_n X dX11_versionNumbered_1 rfl rfl ?_
  refine g_getI X ci11 (n0 hN) (en0 _ _ _ _) (by decide) fl_X11_38 rfl dX11_versionNumbered_2 rfl (fun r2 => ?_)
  refine g_xS2_n X T w_X11_needPlace ml_X11_91 dX11_versionNumbered_5 rfl ⟨⟨Nat.le_of_ble_eq_true rfl, Nat.le_of_ble_eq_true rfl⟩, Nat.le_of_ble_eq_true rfl, Nat.le_of_ble_eq_true rfl⟩ (Nat.le_of_ble_eq_true rfl) (c_X11_needPlace hN (by omega) (by omega)) (Nat.le_of_ble_eq_true rfl) (Nat.le_of_ble_eq_true rfl) (fun E h => h) (fun hc5 => ?_)
  refine g_aload_n X dX11_versionNumbered_8 rfl rfl ?_
  refine g_get X ci11 (n0 hN) (en0 _ _ _ _) (by decide) fl_X11_34 rfl dX11_versionNumbered_9 rfl ?_
  refine g_iload_n X dX11_versionNumbered_12 rfl rfl ?_
  refine g_rald X (n5 hN) (en5 _ _ _ _) (t0 := 5) rfl (by omega) (by omega) (by decide) dX11_versionNumbered_13 rfl ?_
  exact g_ret Y dX11_versionNumbered_14 ⟨_, rfl⟩ ⟨(by omega), rfl, rfl, rfl⟩
set_option maxRecDepth 100000 in
set_option maxHeartbeats 4000000 in
theorem c_X11_editionFrameAt {δ : Dx} {nm : List (Nat × Int)} {ad : Ad} {M : Mem} {p : Int} (hN : NmOk nm) (rp : rng p) (rc : 0 ≤ (M.1 10 0 0 0) ∧ (M.1 10 0 0 0) ≤ 120) : CtX δ md_X11_editionFrameAt 1 6 nm ad M [.ref (ad 0 0), .int (iI p)] (pC (0 ≤ p ∧ p < (M.1 10 0 0 0)) (pV (.ref (ad 31 p)) ad M)) (fun E => E = "java/lang/IndexOutOfBoundsException" ∧ ¬ (0 ≤ p ∧ p < (M.1 10 0 0 0))) := by
  refine CtX_of (ins := .areturn) (ok := okA) [some (.ref (ad 0 0)), some (.int (iI p))] (by decide +kernel) rfl (Nat.le_of_ble_eq_true rfl) (fun κ X hr T => xendA rfl (Or.inl ⟨_, rfl⟩) X hr T) (fun κ X hNL T Y => ?_)
  refine g_rm (fun hM => ?_)
  refine g_iload_n X dX11_editionFrameAt_0 rfl rfl ?_
  refine g_aload_n X dX11_editionFrameAt_1 rfl rfl ?_
  refine g_get X ci11 (n0 hN) (en0 _ _ _ _) (by decide) fl_X11_54 rfl dX11_editionFrameAt_2 rfl ?_
  refine g_getI X ci2 (n10 hN) (en10 _ _ _ _) (by decide) fl_X11_262 rfl dX11_editionFrameAt_5 rfl (fun r5 => ?_)
  refine g_xS2_n X T w_X11_needPlace ml_X11_91 dX11_editionFrameAt_8 rfl ⟨⟨Nat.le_of_ble_eq_true rfl, Nat.le_of_ble_eq_true rfl⟩, Nat.le_of_ble_eq_true rfl, Nat.le_of_ble_eq_true rfl⟩ (Nat.le_of_ble_eq_true rfl) (c_X11_needPlace hN (by omega) (by omega)) (Nat.le_of_ble_eq_true rfl) (Nat.le_of_ble_eq_true rfl) (fun E h => h) (fun hc8 => ?_)
  refine g_aload_n X dX11_editionFrameAt_11 rfl rfl ?_
  refine g_get X ci11 (n0 hN) (en0 _ _ _ _) (by decide) fl_X11_54 rfl dX11_editionFrameAt_12 rfl ?_
  refine g_get X ci2 (n10 hN) (en10 _ _ _ _) (by decide) fl_X11_325 rfl dX11_editionFrameAt_15 rfl ?_
  refine g_iload_n X dX11_editionFrameAt_18 rfl rfl ?_
  refine g_rald X (n11 hN) (en11 _ _ _ _) (t0 := 6) rfl (by omega) (by omega) (by decide) dX11_editionFrameAt_19 rfl ?_
  exact g_ret Y dX11_editionFrameAt_20 ⟨_, rfl⟩ ⟨(by omega), rfl, rfl, rfl⟩
