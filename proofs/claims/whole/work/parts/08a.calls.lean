set_option maxRecDepth 100000 in
set_option maxHeartbeats 4000000 in
theorem c_X11_tolerance {δ : Dx} {nm : List (Nat × Int)} {ad : Ad} {M : Mem} {t : Int} (hN : NmOk nm) (rt : rng t) : CtX δ md_X11_tolerance 1 6 nm ad M [.ref (ad 0 0), .int (iI t)] (pC ((0 ≤ t ∧ t ≤ 2040)) (pV (.int (iI (M.1 0 3 0 0))) ad (setI M 0 3 0 0 t))) (fun E => (E = "java/lang/IllegalArgumentException" ∧ ¬ (0 ≤ t ∧ t ≤ 2040))) := by
  refine CtX_of (ins := .ireturn) (ok := okI) [some (.ref (ad 0 0)), some (.int (iI t)), none] (by decide +kernel) rfl (Nat.le_of_ble_eq_true rfl) (fun κ X hr T => xendI rfl X hr T) (fun κ X hNL T Y => ?_)
  refine g_rm (fun hM => ?_)
  refine g_iload_n X dX11_tolerance_0 rfl rfl ?_
  refine g_iconst X dX11_tolerance_1 rfl ?_
  refine g_sipush X dX11_tolerance_2 rfl (by decide) ?_
  refine g_iS3_v X w_X11_isWithin ml_X11_67 dX11_tolerance_5 rfl ⟨⟨Nat.le_of_ble_eq_true rfl, Nat.le_of_ble_eq_true rfl⟩, Nat.le_of_ble_eq_true rfl, Nat.le_of_ble_eq_true rfl⟩ (Nat.le_of_ble_eq_true rfl) (c_X11_isWithin hN (by omega) (by omega) (by omega)) ?_
  refine g_xS1_n X T w_X11_needInRange ml_X11_71 dX11_tolerance_8 rfl ⟨⟨Nat.le_of_ble_eq_true rfl, Nat.le_of_ble_eq_true rfl⟩, Nat.le_of_ble_eq_true rfl, Nat.le_of_ble_eq_true rfl⟩ (Nat.le_of_ble_eq_true rfl) (c_X11_needInRange hN) (Nat.le_of_ble_eq_true rfl) (Nat.le_of_ble_eq_true rfl) (fun E h => h) (fun hc8 => ?_)
  refine g_aload_n X dX11_tolerance_11 rfl rfl ?_
  refine g_getI X ci11 (n0 hN) (en0 _ _ _ _) (by decide) fl_X11_22 rfl dX11_tolerance_12 rfl (fun r12 => ?_)
  refine g_istore_2 X dX11_tolerance_15 rfl (lt_kN hNL rfl) rfl ?_
  refine g_aload_n X dX11_tolerance_16 rfl rfl ?_
  refine g_iload_n X dX11_tolerance_17 rfl rfl ?_
  refine g_putI X ci11 (n0 hN) (en0 _ _ _ _) (ep0_3 _ _ _ _ _) (by omega) (by decide) rfl rfl rfl (Nat.le_of_ble_eq_true rfl) fl_X11_22 dX11_tolerance_18 rfl ?_
  refine g_iload_n X dX11_tolerance_21 rfl rfl ?_
  exact g_ret Y dX11_tolerance_22 ⟨_, rfl⟩ ⟨by assumption, rfl, rfl, rfl⟩
def twoI (a b : Int) : Int64 := ((iI b).toInt64 <<< ((iI 32).toInt64 &&& 63)) ||| ((iI a).toInt64 &&& 4294967295)
set_option maxRecDepth 100000 in
set_option maxHeartbeats 4000000 in
theorem c_X11_frame {δ : Dx} {nm : List (Nat × Int)} {ad : Ad} {M : Mem} {r c a b : Int} (hN : NmOk nm) (rr : rng r) (rc : rng c) (ra : rng a) (rb : rng b) (rc : 0 ≤ (M.1 0 1 0 0) ∧ (M.1 0 1 0 0) ≤ 12) (hr : ∀ i, 0 ≤ i → i < (M.1 0 1 0 0) → RD M i) : CtX δ md_X11_frame 3 18 nm ad M [.ref (ad 0 0), .int (iI r), .int (iI c), .int (iI a), .int (iI b)] (pC ((0 ≤ r ∧ r < (M.1 0 1 0 0)) ∧ (0 ≤ c ∧ c ≤ 999) ∧ ((M.1 16 6 r 0) < 60)) (pV (.int (iI ((M.1 16 6 r 0) + 1))) ad (addF M r c (twoI a b)))) (fun E => (E = "java/lang/IndexOutOfBoundsException" ∧ ¬ (0 ≤ r ∧ r < (M.1 0 1 0 0))) ∨ (E = "java/lang/IllegalArgumentException" ∧ (0 ≤ r ∧ r < (M.1 0 1 0 0)) ∧ ¬ (0 ≤ c ∧ c ≤ 999)) ∨ (E = "java/lang/IllegalStateException" ∧ (0 ≤ r ∧ r < (M.1 0 1 0 0)) ∧ (0 ≤ c ∧ c ≤ 999) ∧ ¬ ((M.1 16 6 r 0) < 60))) := by
  refine CtX_of (ins := .ireturn) (ok := okI) [some (.ref (ad 0 0)), some (.int (iI r)), some (.int (iI c)), some (.int (iI a)), some (.int (iI b)), none] (by decide +kernel) rfl (Nat.le_of_ble_eq_true rfl) (fun κ X hr T => xendI rfl X hr T) (fun κ X hNL T Y => ?_)
  refine g_rm (fun hM => ?_)
  refine g_aload_n X dX11_frame_0 rfl rfl ?_
  refine g_iload_n X dX11_frame_1 rfl rfl ?_
  refine g_xV1_v X T w_X11_reelNumbered ml_X11_60 dX11_frame_2 rfl (n0 hN) (en0 _ _ _ _) ⟨⟨Nat.le_of_ble_eq_true rfl, Nat.le_of_ble_eq_true rfl⟩, Nat.le_of_ble_eq_true rfl, Nat.le_of_ble_eq_true rfl⟩ (Nat.le_of_ble_eq_true rfl) (c_X11_reelNumbered hN (by omega) (by omega)) (Nat.le_of_ble_eq_true rfl) (Nat.le_of_ble_eq_true rfl) (fun E h => by first | exact Or.inl ⟨h.1, by omega⟩ | exact Or.inr (Or.inl ⟨h.1, by omega⟩) | exact Or.inr (Or.inr (⟨h.1, by omega⟩))) (fun hc2 => ?_)
  have hd := hr r (by omega) (by omega)
  have fb := hd.fc
  have lg := hd.lg
  refine g_astore_5 X dX11_frame_5 rfl (lt_kN hNL rfl) rfl ?_
  refine g_iload_n X dX11_frame_7 rfl rfl ?_
  refine g_iconst X dX11_frame_8 rfl ?_
  refine g_sipush X dX11_frame_9 rfl (by decide) ?_
  refine g_iS3_v X w_X11_isWithin ml_X11_67 dX11_frame_12 rfl ⟨⟨Nat.le_of_ble_eq_true rfl, Nat.le_of_ble_eq_true rfl⟩, Nat.le_of_ble_eq_true rfl, Nat.le_of_ble_eq_true rfl⟩ (Nat.le_of_ble_eq_true rfl) (c_X11_isWithin hN (by omega) (by omega) (by omega)) ?_
  refine g_xS1_n X T w_X11_needInRange ml_X11_71 dX11_frame_15 rfl ⟨⟨Nat.le_of_ble_eq_true rfl, Nat.le_of_ble_eq_true rfl⟩, Nat.le_of_ble_eq_true rfl, Nat.le_of_ble_eq_true rfl⟩ (Nat.le_of_ble_eq_true rfl) (c_X11_needInRange hN) (Nat.le_of_ble_eq_true rfl) (Nat.le_of_ble_eq_true rfl) (fun E h => by first | exact Or.inl ⟨h.1, by omega⟩ | exact Or.inr (Or.inl ⟨h.1, by omega⟩) | exact Or.inr (Or.inr (⟨h.1, by omega⟩))) (fun hc15 => ?_)
  refine g_cutB 33 ((M.1 16 6 r 0) < 60) (fun ct18 cf18 => ?_) ?_
  · skip
    refine g_aload X dX11_frame_18 rfl rfl ?_
    refine g_getI X ci8 (n16 hN (by omega) (by omega)) (en16 _ _ _ _) (by decide) fl_X11_82 rfl dX11_frame_20 rfl (fun r20 => ?_)
    refine g_bipush X dX11_frame_23 rfl (by decide) ?_
    refine g_icmp_ge (tgt := 32) X dX11_frame_25 rfl rfl (by omega) (by omega) (fun h25 => ?_) (fun h25 => ?_)
    · skip
      refine g_iconst X dX11_frame_32 rfl ?_
      exact cf18 (by omega)
    · skip
      refine g_iconst X dX11_frame_28 rfl ?_
      refine g_goto (pc' := 33) X dX11_frame_29 rfl ?_
      exact ct18 (by omega)
  · skip
    refine g_xS1_n X T w_X11_needPossible ml_X11_75 dX11_frame_33 rfl ⟨⟨Nat.le_of_ble_eq_true rfl, Nat.le_of_ble_eq_true rfl⟩, Nat.le_of_ble_eq_true rfl, Nat.le_of_ble_eq_true rfl⟩ (Nat.le_of_ble_eq_true rfl) (c_X11_needPossible hN) (Nat.le_of_ble_eq_true rfl) (Nat.le_of_ble_eq_true rfl) (fun E h => by first | exact Or.inl ⟨h.1, by omega⟩ | exact Or.inr (Or.inl ⟨h.1, by omega⟩) | exact Or.inr (Or.inr (⟨h.1, by omega⟩))) (fun hc33 => ?_)
    refine g_aload X dX11_frame_36 rfl rfl ?_
    refine g_iload_n X dX11_frame_38 rfl rfl ?_
    refine g_iload X dX11_frame_39 rfl rfl ?_
    refine g_i2l X dX11_frame_41 rfl ?_
    refine g_bipush X dX11_frame_42 rfl (by decide) ?_
    refine g_lshl X dX11_frame_44 rfl ?_
    refine g_iload_n X dX11_frame_45 rfl rfl ?_
    refine g_i2l X dX11_frame_46 rfl ?_
    refine g_ldc2 X dX11_frame_47 rfl kc_X11_85 ?_
    refine g_land X dX11_frame_50 rfl ?_
    refine g_lor X dX11_frame_51 rfl ?_
    refine g_iV2_n X w_X8_addFrame ml_X11_87 dX11_frame_52 rfl (n16 hN (by omega) (by omega)) (en16 _ _ _ _) ⟨⟨Nat.le_of_ble_eq_true rfl, Nat.le_of_ble_eq_true rfl⟩, Nat.le_of_ble_eq_true rfl, Nat.le_of_ble_eq_true rfl⟩ (Nat.le_of_ble_eq_true rfl) (c_X8_addFrame hN (by omega) (by omega) (by omega) (by omega) (by omega) (by omega) (by omega)) ?_
    refine g_aload X dX11_frame_55 rfl rfl ?_
    refine g_getI X ci8 (n16 hN (by omega) (by omega)) (en16 _ _ _ _) (by decide) fl_X11_82 rfl dX11_frame_57 rfl (fun r57 => ?_)
    refine g_int (addF_sc (M := M) (i := r) (c := c) (x := twoI a b)).1 ?_
    exact g_ret Y dX11_frame_60 ⟨_, rfl⟩ ⟨⟨by omega, by omega, by omega⟩, rfl, rfl, rfl⟩
set_option maxRecDepth 100000 in
set_option maxHeartbeats 4000000 in
theorem c_X11_splice {δ : Dx} {nm : List (Nat × Int)} {ad : Ad} {M : Mem} {r p : Int} (hN : NmOk nm) (rr : rng r) (rp : rng p) (rc : 0 ≤ (M.1 0 1 0 0) ∧ (M.1 0 1 0 0) ≤ 12) (hr : ∀ i, 0 ≤ i → i < (M.1 0 1 0 0) → RD M i) : CtX δ md_X11_splice 2 12 nm ad M [.ref (ad 0 0), .int (iI r), .int (iI p)] (pC ((0 ≤ r ∧ r < (M.1 0 1 0 0)) ∧ (0 ≤ p ∧ p < (M.1 16 6 r 0))) (pV (.int (iI ((addS M r p).1 16 7 r 0))) ad (addS M r p))) (fun E => (E = "java/lang/IndexOutOfBoundsException" ∧ ¬ (0 ≤ r ∧ r < (M.1 0 1 0 0))) ∨ (E = "java/lang/IndexOutOfBoundsException" ∧ (0 ≤ r ∧ r < (M.1 0 1 0 0)) ∧ ¬ (0 ≤ p ∧ p < (M.1 16 6 r 0)))) := by
  refine CtX_of (ins := .ireturn) (ok := okI) [some (.ref (ad 0 0)), some (.int (iI r)), some (.int (iI p)), none] (by decide +kernel) rfl (Nat.le_of_ble_eq_true rfl) (fun κ X hr T => xendI rfl X hr T) (fun κ X hNL T Y => ?_)
  refine g_rm (fun hM => ?_)
  refine g_aload_n X dX11_splice_0 rfl rfl ?_
  refine g_iload_n X dX11_splice_1 rfl rfl ?_
  refine g_xV1_v X T w_X11_reelNumbered ml_X11_60 dX11_splice_2 rfl (n0 hN) (en0 _ _ _ _) ⟨⟨Nat.le_of_ble_eq_true rfl, Nat.le_of_ble_eq_true rfl⟩, Nat.le_of_ble_eq_true rfl, Nat.le_of_ble_eq_true rfl⟩ (Nat.le_of_ble_eq_true rfl) (c_X11_reelNumbered hN (by omega) (by omega)) (Nat.le_of_ble_eq_true rfl) (Nat.le_of_ble_eq_true rfl) (fun E h => Or.inl h) (fun hc2 => ?_)
  have hd := hr r (by omega) (by omega)
  have fb := hd.fc
  have sb := hd.spb
  refine g_astore_3 X dX11_splice_5 rfl (lt_kN hNL rfl) rfl ?_
  refine g_iload_n X dX11_splice_6 rfl rfl ?_
  refine g_aload_n X dX11_splice_7 rfl rfl ?_
  refine g_getI X ci8 (n16 hN (by omega) (by omega)) (en16 _ _ _ _) (by decide) fl_X11_82 rfl dX11_splice_8 rfl (fun r8 => ?_)
  refine g_xS2_n X T w_X11_needPlace ml_X11_91 dX11_splice_11 rfl ⟨⟨Nat.le_of_ble_eq_true rfl, Nat.le_of_ble_eq_true rfl⟩, Nat.le_of_ble_eq_true rfl, Nat.le_of_ble_eq_true rfl⟩ (Nat.le_of_ble_eq_true rfl) (c_X11_needPlace hN (by omega) (by omega)) (Nat.le_of_ble_eq_true rfl) (Nat.le_of_ble_eq_true rfl) (fun E h => Or.inr ⟨h.1, by omega, h.2⟩) (fun hc11 => ?_)
  have cb := hd.cd p (by omega) (by omega)
  refine g_aload_n X dX11_splice_14 rfl rfl ?_
  refine g_iload_n X dX11_splice_15 rfl rfl ?_
  refine g_iV1_n X w_X8_addSplice ml_X11_95 dX11_splice_16 rfl (n16 hN (by omega) (by omega)) (en16 _ _ _ _) ⟨⟨Nat.le_of_ble_eq_true rfl, Nat.le_of_ble_eq_true rfl⟩, Nat.le_of_ble_eq_true rfl, Nat.le_of_ble_eq_true rfl⟩ (Nat.le_of_ble_eq_true rfl) (c_X8_addSplice hN (by omega) (by omega) (by omega) (by omega) (by omega) (by omega)) ?_
  refine g_aload_n X dX11_splice_19 rfl rfl ?_
  refine g_getI X ci8 (n16 hN (by omega) (by omega)) (en16 _ _ _ _) (by decide) fl_X11_99 rfl dX11_splice_20 rfl (fun r20 => ?_)
  exact g_ret Y dX11_splice_23 ⟨_, rfl⟩ ⟨⟨by omega, by omega⟩, rfl, rfl, rfl⟩
set_option maxRecDepth 100000 in
set_option maxHeartbeats 4000000 in
theorem c_X11_cold {δ : Dx} {nm : List (Nat × Int)} {ad : Ad} {M : Mem} {r : Int} {P : Prop} (hN : NmOk nm) (rr : rng r) (rc : 0 ≤ (M.1 0 1 0 0) ∧ (M.1 0 1 0 0) ≤ 12) (hg : ∀ i, 0 ≤ i → i < (M.1 0 1 0 0) → (0 ≤ (M.1 16 3 i 0) ∧ (M.1 16 3 i 0) ≤ 12) ∧ (0 ≤ (M.1 16 4 i 0) ∧ (M.1 16 4 i 0) ≤ 1000)) (hy : 2000 ≤ (M.1 0 2 0 0) ∧ (M.1 0 2 0 0) ≤ 2200) : CtX δ md_X11_cold 1 6 nm ad M [.ref (ad 0 0), .int (iI r), .int (iI (bI P))] (pC ((0 ≤ r ∧ r < (M.1 0 1 0 0))) (pV (.int (iI (ytc (setI M 16 5 r 0 (bI P)) r (M.1 0 2 0 0)))) ad (setI M 16 5 r 0 (bI P)))) (fun E => (E = "java/lang/IndexOutOfBoundsException" ∧ ¬ (0 ≤ r ∧ r < (M.1 0 1 0 0)))) := by
  refine CtX_of (ins := .ireturn) (ok := okI) [some (.ref (ad 0 0)), some (.int (iI r)), some (.int (iI (bI P))), none] (by decide +kernel) rfl (Nat.le_of_ble_eq_true rfl) (fun κ X hr T => xendI rfl X hr T) (fun κ X hNL T Y => ?_)
  refine g_rm (fun hM => ?_)
  refine g_aload_n X dX11_cold_0 rfl rfl ?_
  refine g_iload_n X dX11_cold_1 rfl rfl ?_
  refine g_xV1_v X T w_X11_reelNumbered ml_X11_60 dX11_cold_2 rfl (n0 hN) (en0 _ _ _ _) ⟨⟨Nat.le_of_ble_eq_true rfl, Nat.le_of_ble_eq_true rfl⟩, Nat.le_of_ble_eq_true rfl, Nat.le_of_ble_eq_true rfl⟩ (Nat.le_of_ble_eq_true rfl) (c_X11_reelNumbered hN (by omega) (by omega)) (Nat.le_of_ble_eq_true rfl) (Nat.le_of_ble_eq_true rfl) (fun E h => h) (fun hc2 => ?_)
  have hd := hg r (by omega) (by omega)
  refine g_astore_3 X dX11_cold_5 rfl (lt_kN hNL rfl) rfl ?_
  refine g_aload_n X dX11_cold_6 rfl rfl ?_
  refine g_iload_n X dX11_cold_7 rfl rfl ?_
  refine g_putI X ci8 (n16 hN (by omega) (by omega)) (en16 _ _ _ _) (ep16_5 _ _ _ _ _) (bI_rng _) (by decide) rfl (nar01 (bI_01 _)) (fit01 (bI_01 _)) (Nat.le_of_ble_eq_true rfl) fl_X11_102 dX11_cold_8 rfl ?_
  refine g_aload_n X dX11_cold_11 rfl rfl ?_
  refine g_aload_n X dX11_cold_12 rfl rfl ?_
  refine g_getI X ci11 (n0 hN) (en0 _ _ _ _) (by decide) fl_X11_19 rfl dX11_cold_13 rfl (fun r13 => ?_)
  refine g_int (b := M.1 0 2 0 0) rfl ?_
  have r13x := hM 0 2 0 0
  refine g_iV1_v X w_X8_yearToCopy ml_X11_106 dX11_cold_16 rfl (n16 hN (by omega) (by omega)) (en16 _ _ _ _) ⟨⟨Nat.le_of_ble_eq_true rfl, Nat.le_of_ble_eq_true rfl⟩, Nat.le_of_ble_eq_true rfl, Nat.le_of_ble_eq_true rfl⟩ (Nat.le_of_ble_eq_true rfl) (c_X8_yearToCopy hN (by omega) (by omega) (by simp only [setI_1]; simp; omega) (by omega)) ?_
  exact g_ret Y dX11_cold_19 ⟨_, rfl⟩ ⟨by assumption, rfl, rfl, rfl⟩
def reelM (M : Mem) (b y l p d : Int) : Mem := setI (beginR M (M.1 0 1 0 0) b y l (if p = -1 then 0 else (M.1 16 3 p 0) + 1) d) 0 1 0 0 ((M.1 0 1 0 0) + 1)
set_option maxRecDepth 100000 in
set_option maxHeartbeats 4000000 in
theorem c_X11_reel {δ : Dx} {nm : List (Nat × Int)} {ad : Ad} {M : Mem} {b y l p d : Int} (hN : NmOk nm) (rb : rng b) (ry : rng y) (rl : rng l) (rp : rng p) (rd : rng d) (rc : 0 ≤ (M.1 0 1 0 0) ∧ (M.1 0 1 0 0) ≤ 12) (hg : ∀ i, 0 ≤ i → i < (M.1 0 1 0 0) → (0 ≤ (M.1 16 3 i 0) ∧ (M.1 16 3 i 0) ≤ 12) ∧ (0 ≤ (M.1 16 4 i 0) ∧ (M.1 16 4 i 0) ≤ 1000)) : CtX δ md_X11_reel 3 18 nm ad M [.ref (ad 0 0), .int (iI b), .int (iI y), .int (iI l), .int (iI p), .int (iI d)] (pC ((p = -1 ∨ (0 ≤ p ∧ p < (M.1 0 1 0 0))) ∧ ((0 ≤ b ∧ b ≤ 1) ∧ (1890 ≤ y ∧ y ≤ 2000) ∧ (0 ≤ l ∧ l ≤ 3) ∧ (0 ≤ d ∧ d ≤ 299)) ∧ ((M.1 0 1 0 0) < 12)) (pV (.int (iI (M.1 0 1 0 0))) ad (reelM M b y l p d))) (fun E => (E = "java/lang/IndexOutOfBoundsException" ∧ ¬ (p = -1 ∨ (0 ≤ p ∧ p < (M.1 0 1 0 0)))) ∨ (E = "java/lang/IllegalArgumentException" ∧ (p = -1 ∨ (0 ≤ p ∧ p < (M.1 0 1 0 0))) ∧ ¬ ((0 ≤ b ∧ b ≤ 1) ∧ (1890 ≤ y ∧ y ≤ 2000) ∧ (0 ≤ l ∧ l ≤ 3) ∧ (0 ≤ d ∧ d ≤ 299))) ∨ (E = "java/lang/IllegalStateException" ∧ (p = -1 ∨ (0 ≤ p ∧ p < (M.1 0 1 0 0))) ∧ ((0 ≤ b ∧ b ≤ 1) ∧ (1890 ≤ y ∧ y ≤ 2000) ∧ (0 ≤ l ∧ l ≤ 3) ∧ (0 ≤ d ∧ d ≤ 299)) ∧ ¬ ((M.1 0 1 0 0) < 12))) := by
  refine CtX_of (ins := .ireturn) (ok := okI) [some (.ref (ad 0 0)), some (.int (iI b)), some (.int (iI y)), some (.int (iI l)), some (.int (iI p)), some (.int (iI d)), none] (by decide +kernel) rfl (Nat.le_of_ble_eq_true rfl) (fun κ X hr T => xendI rfl X hr T) (fun κ X hNL T Y => ?_)
  refine g_rm (fun hM => ?_)
  refine g_iload X dX11_reel_0 rfl rfl ?_
  refine g_iconst X dX11_reel_2 rfl ?_
  refine g_icmp_ne (tgt := 10) X dX11_reel_3 rfl rfl (by omega) (by omega) (fun h3 => ?_) (fun h3 => ?_)
  · skip
    refine g_aload_n X dX11_reel_10 rfl rfl ?_
    refine g_iload X dX11_reel_11 rfl rfl ?_
    refine g_xV1_v X T w_X11_reelNumbered ml_X11_60 dX11_reel_13 rfl (n0 hN) (en0 _ _ _ _) ⟨⟨Nat.le_of_ble_eq_true rfl, Nat.le_of_ble_eq_true rfl⟩, Nat.le_of_ble_eq_true rfl, Nat.le_of_ble_eq_true rfl⟩ (Nat.le_of_ble_eq_true rfl) (c_X11_reelNumbered hN (by omega) (by omega)) (Nat.le_of_ble_eq_true rfl) (Nat.le_of_ble_eq_true rfl) (fun E h => by first | exact Or.inl ⟨h.1, by omega⟩ | exact Or.inr (Or.inl ⟨h.1, by omega⟩) | exact Or.inr (Or.inr (⟨h.1, by omega⟩))) (fun hc13 => ?_)
    have hd := hg p (by omega) (by omega)
    refine g_getI X ci8 (n16 hN (by omega) (by omega)) (en16 _ _ _ _) (by decide) fl_X11_64 rfl dX11_reel_16 rfl (fun r16 => ?_)
    refine g_iconst X dX11_reel_19 rfl ?_
    refine g_iadd X dX11_reel_20 rfl ?_
    refine g_istore_6 X dX11_reel_21 rfl (lt_kN hNL rfl) rfl ?_
    refine g_cutB 71 ((0 ≤ b ∧ b ≤ 1) ∧ (1890 ≤ y ∧ y ≤ 2000) ∧ (0 ≤ l ∧ l ≤ 3) ∧ (0 ≤ d ∧ d ≤ 299)) (fun ct23 cf23 => ?_) ?_
    · skip
      refine g_iload_n X dX11_reel_23 rfl rfl ?_
      refine g_iconst X dX11_reel_24 rfl ?_
      refine g_iconst X dX11_reel_25 rfl ?_
      refine g_iS3_v X w_X11_isWithin ml_X11_67 dX11_reel_26 rfl ⟨⟨Nat.le_of_ble_eq_true rfl, Nat.le_of_ble_eq_true rfl⟩, Nat.le_of_ble_eq_true rfl, Nat.le_of_ble_eq_true rfl⟩ (Nat.le_of_ble_eq_true rfl) (c_X11_isWithin hN (by omega) (by omega) (by omega)) ?_
      refine g_ifB_eq (tgt := 70) X dX11_reel_29 rfl rfl (fun h29 => ?_) (fun h29 => ?_)
      · skip
        refine g_iconst X dX11_reel_70 rfl ?_
        exact cf23 (by omega)
      · skip
        refine g_iload_n X dX11_reel_32 rfl rfl ?_
        refine g_sipush X dX11_reel_33 rfl (by decide) ?_
        refine g_sipush X dX11_reel_36 rfl (by decide) ?_
        refine g_iS3_v X w_X11_isWithin ml_X11_67 dX11_reel_39 rfl ⟨⟨Nat.le_of_ble_eq_true rfl, Nat.le_of_ble_eq_true rfl⟩, Nat.le_of_ble_eq_true rfl, Nat.le_of_ble_eq_true rfl⟩ (Nat.le_of_ble_eq_true rfl) (c_X11_isWithin hN (by omega) (by omega) (by omega)) ?_
        refine g_ifB_eq (tgt := 70) X dX11_reel_42 rfl rfl (fun h42 => ?_) (fun h42 => ?_)
        · skip
          refine g_iconst X dX11_reel_70 rfl ?_
          exact cf23 (by omega)
        · skip
          refine g_iload_n X dX11_reel_45 rfl rfl ?_
          refine g_iconst X dX11_reel_46 rfl ?_
          refine g_iconst X dX11_reel_47 rfl ?_
          refine g_iS3_v X w_X11_isWithin ml_X11_67 dX11_reel_48 rfl ⟨⟨Nat.le_of_ble_eq_true rfl, Nat.le_of_ble_eq_true rfl⟩, Nat.le_of_ble_eq_true rfl, Nat.le_of_ble_eq_true rfl⟩ (Nat.le_of_ble_eq_true rfl) (c_X11_isWithin hN (by omega) (by omega) (by omega)) ?_
          refine g_ifB_eq (tgt := 70) X dX11_reel_51 rfl rfl (fun h51 => ?_) (fun h51 => ?_)
          · skip
            refine g_iconst X dX11_reel_70 rfl ?_
            exact cf23 (by omega)
          · skip
            refine g_iload X dX11_reel_54 rfl rfl ?_
            refine g_iconst X dX11_reel_56 rfl ?_
            refine g_sipush X dX11_reel_57 rfl (by decide) ?_
            refine g_iS3_v X w_X11_isWithin ml_X11_67 dX11_reel_60 rfl ⟨⟨Nat.le_of_ble_eq_true rfl, Nat.le_of_ble_eq_true rfl⟩, Nat.le_of_ble_eq_true rfl, Nat.le_of_ble_eq_true rfl⟩ (Nat.le_of_ble_eq_true rfl) (c_X11_isWithin hN (by omega) (by omega) (by omega)) ?_
            refine g_ifB_eq (tgt := 70) X dX11_reel_63 rfl rfl (fun h63 => ?_) (fun h63 => ?_)
            · skip
              refine g_iconst X dX11_reel_70 rfl ?_
              exact cf23 (by omega)
            · skip
              refine g_iconst X dX11_reel_66 rfl ?_
              refine g_goto (pc' := 71) X dX11_reel_67 rfl ?_
              exact ct23 (by omega)
    · skip
      refine g_xS1_n X T w_X11_needInRange ml_X11_71 dX11_reel_71 rfl ⟨⟨Nat.le_of_ble_eq_true rfl, Nat.le_of_ble_eq_true rfl⟩, Nat.le_of_ble_eq_true rfl, Nat.le_of_ble_eq_true rfl⟩ (Nat.le_of_ble_eq_true rfl) (c_X11_needInRange hN) (Nat.le_of_ble_eq_true rfl) (Nat.le_of_ble_eq_true rfl) (fun E h => by first | exact Or.inl ⟨h.1, by omega⟩ | exact Or.inr (Or.inl ⟨h.1, by omega⟩) | exact Or.inr (Or.inr (⟨h.1, by omega⟩))) (fun hc71 => ?_)
      refine g_cutB 88 ((M.1 0 1 0 0) < 12) (fun ct74 cf74 => ?_) ?_
      · skip
        refine g_aload_n X dX11_reel_74 rfl rfl ?_
        refine g_getI X ci11 (n0 hN) (en0 _ _ _ _) (by decide) fl_X11_15 rfl dX11_reel_75 rfl (fun r75 => ?_)
        refine g_bipush X dX11_reel_78 rfl (by decide) ?_
        refine g_icmp_ge (tgt := 87) X dX11_reel_80 rfl rfl (by omega) (by omega) (fun h80 => ?_) (fun h80 => ?_)
        · skip
          refine g_iconst X dX11_reel_87 rfl ?_
          exact cf74 (by omega)
        · skip
          refine g_iconst X dX11_reel_83 rfl ?_
          refine g_goto (pc' := 88) X dX11_reel_84 rfl ?_
          exact ct74 (by omega)
      · skip
        refine g_xS1_n X T w_X11_needPossible ml_X11_75 dX11_reel_88 rfl ⟨⟨Nat.le_of_ble_eq_true rfl, Nat.le_of_ble_eq_true rfl⟩, Nat.le_of_ble_eq_true rfl, Nat.le_of_ble_eq_true rfl⟩ (Nat.le_of_ble_eq_true rfl) (c_X11_needPossible hN) (Nat.le_of_ble_eq_true rfl) (Nat.le_of_ble_eq_true rfl) (fun E h => by first | exact Or.inl ⟨h.1, by omega⟩ | exact Or.inr (Or.inl ⟨h.1, by omega⟩) | exact Or.inr (Or.inr (⟨h.1, by omega⟩))) (fun hc88 => ?_)
        refine g_aload_n X dX11_reel_91 rfl rfl ?_
        refine g_get X ci11 (n0 hN) (en0 _ _ _ _) (by decide) fl_X11_11 rfl dX11_reel_92 rfl ?_
        refine g_aload_n X dX11_reel_95 rfl rfl ?_
        refine g_getI X ci11 (n0 hN) (en0 _ _ _ _) (by decide) fl_X11_15 rfl dX11_reel_96 rfl (fun r96 => ?_)
        refine g_rald X (n1 hN) (en1 _ _ _ _) (t0 := 4) rfl (by omega) (by omega) (by decide) dX11_reel_99 rfl ?_
        refine g_iload_n X dX11_reel_100 rfl rfl ?_
        refine g_iload_n X dX11_reel_101 rfl rfl ?_
        refine g_iload_n X dX11_reel_102 rfl rfl ?_
        refine g_iload X dX11_reel_103 rfl rfl ?_
        refine g_iload X dX11_reel_105 rfl rfl ?_
        refine g_iV5_n X w_X8_begin ml_X11_78 dX11_reel_107 rfl (n16 hN (by omega) (by omega)) (en16 _ _ _ _) ⟨⟨Nat.le_of_ble_eq_true rfl, Nat.le_of_ble_eq_true rfl⟩, Nat.le_of_ble_eq_true rfl, Nat.le_of_ble_eq_true rfl⟩ (Nat.le_of_ble_eq_true rfl) (c_X8_begin hN (by omega) (by omega) (by omega) (by omega) (by omega) (by omega) (by omega)) ?_
        refine g_aload_n X dX11_reel_110 rfl rfl ?_
        refine g_dup X dX11_reel_111 rfl rfl ?_
        refine g_getI X ci11 (n0 hN) (en0 _ _ _ _) (by decide) fl_X11_15 rfl dX11_reel_112 rfl (fun r112 => ?_)
        refine g_int (b := M.1 0 1 0 0) rfl ?_
        have r112x := hM 0 1 0 0
        refine g_iconst X dX11_reel_115 rfl ?_
        refine g_iadd X dX11_reel_116 rfl ?_
        refine g_putI X ci11 (n0 hN) (en0 _ _ _ _) (ep0_1 _ _ _ _ _) (by first | omega | (simp only [setI_1, setL_1, setI_2, setL_2]; omega) | (simp only [setI_1, setL_1, setI_2, setL_2]; simp; omega)) (by decide) rfl rfl rfl (Nat.le_of_ble_eq_true rfl) fl_X11_15 dX11_reel_117 rfl ?_
        refine g_aload_n X dX11_reel_120 rfl rfl ?_
        refine g_getI X ci11 (n0 hN) (en0 _ _ _ _) (by decide) fl_X11_15 rfl dX11_reel_121 rfl (fun r121 => ?_)
        refine g_int (b := (M.1 0 1 0 0) + 1) (by simp [setI_1, setI_2, setL_1, setL_2]) ?_
        refine g_iconst X dX11_reel_124 rfl ?_
        refine g_isub X dX11_reel_125 rfl ?_
        exact g_ret Y dX11_reel_126 ⟨_, rfl⟩ ⟨⟨by omega, by omega, by omega⟩, by congr 2; congr 1; omega, rfl, by unfold reelM; first | (rw [if_pos (by omega)]; done) | (rw [if_neg (by omega)]; done)⟩
  · skip
    refine g_iconst X dX11_reel_6 rfl ?_
    refine g_goto (pc' := 21) X dX11_reel_7 rfl ?_
    refine g_istore_6 X dX11_reel_21 rfl (lt_kN hNL rfl) rfl ?_
    refine g_cutB 71 ((0 ≤ b ∧ b ≤ 1) ∧ (1890 ≤ y ∧ y ≤ 2000) ∧ (0 ≤ l ∧ l ≤ 3) ∧ (0 ≤ d ∧ d ≤ 299)) (fun ct23 cf23 => ?_) ?_
    · skip
      refine g_iload_n X dX11_reel_23 rfl rfl ?_
      refine g_iconst X dX11_reel_24 rfl ?_
      refine g_iconst X dX11_reel_25 rfl ?_
      refine g_iS3_v X w_X11_isWithin ml_X11_67 dX11_reel_26 rfl ⟨⟨Nat.le_of_ble_eq_true rfl, Nat.le_of_ble_eq_true rfl⟩, Nat.le_of_ble_eq_true rfl, Nat.le_of_ble_eq_true rfl⟩ (Nat.le_of_ble_eq_true rfl) (c_X11_isWithin hN (by omega) (by omega) (by omega)) ?_
      refine g_ifB_eq (tgt := 70) X dX11_reel_29 rfl rfl (fun h29 => ?_) (fun h29 => ?_)
      · skip
        refine g_iconst X dX11_reel_70 rfl ?_
        exact cf23 (by omega)
      · skip
        refine g_iload_n X dX11_reel_32 rfl rfl ?_
        refine g_sipush X dX11_reel_33 rfl (by decide) ?_
        refine g_sipush X dX11_reel_36 rfl (by decide) ?_
        refine g_iS3_v X w_X11_isWithin ml_X11_67 dX11_reel_39 rfl ⟨⟨Nat.le_of_ble_eq_true rfl, Nat.le_of_ble_eq_true rfl⟩, Nat.le_of_ble_eq_true rfl, Nat.le_of_ble_eq_true rfl⟩ (Nat.le_of_ble_eq_true rfl) (c_X11_isWithin hN (by omega) (by omega) (by omega)) ?_
        refine g_ifB_eq (tgt := 70) X dX11_reel_42 rfl rfl (fun h42 => ?_) (fun h42 => ?_)
        · skip
          refine g_iconst X dX11_reel_70 rfl ?_
          exact cf23 (by omega)
        · skip
          refine g_iload_n X dX11_reel_45 rfl rfl ?_
          refine g_iconst X dX11_reel_46 rfl ?_
          refine g_iconst X dX11_reel_47 rfl ?_
          refine g_iS3_v X w_X11_isWithin ml_X11_67 dX11_reel_48 rfl ⟨⟨Nat.le_of_ble_eq_true rfl, Nat.le_of_ble_eq_true rfl⟩, Nat.le_of_ble_eq_true rfl, Nat.le_of_ble_eq_true rfl⟩ (Nat.le_of_ble_eq_true rfl) (c_X11_isWithin hN (by omega) (by omega) (by omega)) ?_
          refine g_ifB_eq (tgt := 70) X dX11_reel_51 rfl rfl (fun h51 => ?_) (fun h51 => ?_)
          · skip
            refine g_iconst X dX11_reel_70 rfl ?_
            exact cf23 (by omega)
          · skip
            refine g_iload X dX11_reel_54 rfl rfl ?_
            refine g_iconst X dX11_reel_56 rfl ?_
            refine g_sipush X dX11_reel_57 rfl (by decide) ?_
            refine g_iS3_v X w_X11_isWithin ml_X11_67 dX11_reel_60 rfl ⟨⟨Nat.le_of_ble_eq_true rfl, Nat.le_of_ble_eq_true rfl⟩, Nat.le_of_ble_eq_true rfl, Nat.le_of_ble_eq_true rfl⟩ (Nat.le_of_ble_eq_true rfl) (c_X11_isWithin hN (by omega) (by omega) (by omega)) ?_
            refine g_ifB_eq (tgt := 70) X dX11_reel_63 rfl rfl (fun h63 => ?_) (fun h63 => ?_)
            · skip
              refine g_iconst X dX11_reel_70 rfl ?_
              exact cf23 (by omega)
            · skip
              refine g_iconst X dX11_reel_66 rfl ?_
              refine g_goto (pc' := 71) X dX11_reel_67 rfl ?_
              exact ct23 (by omega)
    · skip
      refine g_xS1_n X T w_X11_needInRange ml_X11_71 dX11_reel_71 rfl ⟨⟨Nat.le_of_ble_eq_true rfl, Nat.le_of_ble_eq_true rfl⟩, Nat.le_of_ble_eq_true rfl, Nat.le_of_ble_eq_true rfl⟩ (Nat.le_of_ble_eq_true rfl) (c_X11_needInRange hN) (Nat.le_of_ble_eq_true rfl) (Nat.le_of_ble_eq_true rfl) (fun E h => by first | exact Or.inl ⟨h.1, by omega⟩ | exact Or.inr (Or.inl ⟨h.1, by omega⟩) | exact Or.inr (Or.inr (⟨h.1, by omega⟩))) (fun hc71 => ?_)
      refine g_cutB 88 ((M.1 0 1 0 0) < 12) (fun ct74 cf74 => ?_) ?_
      · skip
        refine g_aload_n X dX11_reel_74 rfl rfl ?_
        refine g_getI X ci11 (n0 hN) (en0 _ _ _ _) (by decide) fl_X11_15 rfl dX11_reel_75 rfl (fun r75 => ?_)
        refine g_bipush X dX11_reel_78 rfl (by decide) ?_
        refine g_icmp_ge (tgt := 87) X dX11_reel_80 rfl rfl (by omega) (by omega) (fun h80 => ?_) (fun h80 => ?_)
        · skip
          refine g_iconst X dX11_reel_87 rfl ?_
          exact cf74 (by omega)
        · skip
          refine g_iconst X dX11_reel_83 rfl ?_
          refine g_goto (pc' := 88) X dX11_reel_84 rfl ?_
          exact ct74 (by omega)
      · skip
        refine g_xS1_n X T w_X11_needPossible ml_X11_75 dX11_reel_88 rfl ⟨⟨Nat.le_of_ble_eq_true rfl, Nat.le_of_ble_eq_true rfl⟩, Nat.le_of_ble_eq_true rfl, Nat.le_of_ble_eq_true rfl⟩ (Nat.le_of_ble_eq_true rfl) (c_X11_needPossible hN) (Nat.le_of_ble_eq_true rfl) (Nat.le_of_ble_eq_true rfl) (fun E h => by first | exact Or.inl ⟨h.1, by omega⟩ | exact Or.inr (Or.inl ⟨h.1, by omega⟩) | exact Or.inr (Or.inr (⟨h.1, by omega⟩))) (fun hc88 => ?_)
        refine g_aload_n X dX11_reel_91 rfl rfl ?_
        refine g_get X ci11 (n0 hN) (en0 _ _ _ _) (by decide) fl_X11_11 rfl dX11_reel_92 rfl ?_
        refine g_aload_n X dX11_reel_95 rfl rfl ?_
        refine g_getI X ci11 (n0 hN) (en0 _ _ _ _) (by decide) fl_X11_15 rfl dX11_reel_96 rfl (fun r96 => ?_)
        refine g_rald X (n1 hN) (en1 _ _ _ _) (t0 := 4) rfl (by omega) (by omega) (by decide) dX11_reel_99 rfl ?_
        refine g_iload_n X dX11_reel_100 rfl rfl ?_
        refine g_iload_n X dX11_reel_101 rfl rfl ?_
        refine g_iload_n X dX11_reel_102 rfl rfl ?_
        refine g_iload X dX11_reel_103 rfl rfl ?_
        refine g_iload X dX11_reel_105 rfl rfl ?_
        refine g_iV5_n X w_X8_begin ml_X11_78 dX11_reel_107 rfl (n16 hN (by omega) (by omega)) (en16 _ _ _ _) ⟨⟨Nat.le_of_ble_eq_true rfl, Nat.le_of_ble_eq_true rfl⟩, Nat.le_of_ble_eq_true rfl, Nat.le_of_ble_eq_true rfl⟩ (Nat.le_of_ble_eq_true rfl) (c_X8_begin hN (by omega) (by omega) (by omega) (by omega) (by omega) (by omega) (by omega)) ?_
        refine g_aload_n X dX11_reel_110 rfl rfl ?_
        refine g_dup X dX11_reel_111 rfl rfl ?_
        refine g_getI X ci11 (n0 hN) (en0 _ _ _ _) (by decide) fl_X11_15 rfl dX11_reel_112 rfl (fun r112 => ?_)
        refine g_int (b := M.1 0 1 0 0) rfl ?_
        have r112x := hM 0 1 0 0
        refine g_iconst X dX11_reel_115 rfl ?_
        refine g_iadd X dX11_reel_116 rfl ?_
        refine g_putI X ci11 (n0 hN) (en0 _ _ _ _) (ep0_1 _ _ _ _ _) (by first | omega | (simp only [setI_1, setL_1, setI_2, setL_2]; omega) | (simp only [setI_1, setL_1, setI_2, setL_2]; simp; omega)) (by decide) rfl rfl rfl (Nat.le_of_ble_eq_true rfl) fl_X11_15 dX11_reel_117 rfl ?_
        refine g_aload_n X dX11_reel_120 rfl rfl ?_
        refine g_getI X ci11 (n0 hN) (en0 _ _ _ _) (by decide) fl_X11_15 rfl dX11_reel_121 rfl (fun r121 => ?_)
        refine g_int (b := (M.1 0 1 0 0) + 1) (by simp [setI_1, setI_2, setL_1, setL_2]) ?_
        refine g_iconst X dX11_reel_124 rfl ?_
        refine g_isub X dX11_reel_125 rfl ?_
        refine g_widen (cl' := 3) (sl' := 18) (Nat.le_of_ble_eq_true rfl) (Nat.le_of_ble_eq_true rfl) ?_
        exact g_ret Y dX11_reel_126 ⟨_, rfl⟩ ⟨⟨by omega, by omega, by omega⟩, by congr 2; congr 1; omega, rfl, by unfold reelM; first | (rw [if_pos (by omega)]; done) | (rw [if_neg (by omega)]; done)⟩
