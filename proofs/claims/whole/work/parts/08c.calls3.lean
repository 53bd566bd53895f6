set_option maxRecDepth 100000 in
set_option maxHeartbeats 4000000 in
theorem c_X11_right {δ : Dx} {nm : List (Nat × Int)} {ad : Ad} {M : Mem} {v h l f t : Int} (hN : NmOk nm) (rv : rng v) (rh : rng h) (rl : rng l) (rf : rng f) (rt : rng t) (vc : 0 ≤ (M.1 0 6 0 0) ∧ (M.1 0 6 0 0) ≤ 6) (hv : ∀ v, 0 ≤ v → v < (M.1 0 6 0 0) → VOk M v) (rgc : 0 ≤ (M.1 0 7 0 0) ∧ (M.1 0 7 0 0) ≤ 40) : CtX δ md_X11_right 4 24 nm ad M [.ref (ad 0 0), .int (iI v), .int (iI h), .int (iI l), .int (iI f), .int (iI t)] (pC ((0 ≤ v ∧ v < (M.1 0 6 0 0)) ∧ (0 ≤ h ∧ h < 10) ∧ ((0 ≤ l ∧ l ≤ 3) ∧ (1890 ≤ f ∧ f ≤ 2200) ∧ (f ≤ t ∧ t ≤ 2200)) ∧ ((M.1 0 7 0 0) < 40)) (pV (.int (iI ((M.1 22 8 v 0) + 1))) ad (setI (addRightM M v h l f t) 0 7 0 0 ((M.1 0 7 0 0) + 1)))) (fun E => (E = "java/lang/IndexOutOfBoundsException" ∧ ¬ (0 ≤ v ∧ v < (M.1 0 6 0 0))) ∨ (E = "java/lang/IndexOutOfBoundsException" ∧ (0 ≤ v ∧ v < (M.1 0 6 0 0)) ∧ ¬ (0 ≤ h ∧ h < 10)) ∨ (E = "java/lang/IllegalArgumentException" ∧ (0 ≤ v ∧ v < (M.1 0 6 0 0)) ∧ (0 ≤ h ∧ h < 10) ∧ ¬ ((0 ≤ l ∧ l ≤ 3) ∧ (1890 ≤ f ∧ f ≤ 2200) ∧ (f ≤ t ∧ t ≤ 2200))) ∨ (E = "java/lang/IllegalStateException" ∧ (0 ≤ v ∧ v < (M.1 0 6 0 0)) ∧ (0 ≤ h ∧ h < 10) ∧ ((0 ≤ l ∧ l ≤ 3) ∧ (1890 ≤ f ∧ f ≤ 2200) ∧ (f ≤ t ∧ t ≤ 2200)) ∧ ¬ ((M.1 0 7 0 0) < 40))) := by
  refine CtX_of (ins := .ireturn) (ok := okI) [some (.ref (ad 0 0)), some (.int (iI v)), some (.int (iI h)), some (.int (iI l)), some (.int (iI f)), some (.int (iI t)), none] (by decide +kernel) rfl (Nat.le_of_ble_eq_true rfl) (fun κ X hr T => xendI rfl X hr T) (fun κ X hNL T Y => ?_)
  refine g_rm (fun hM => ?_)
  refine g_aload_n X dX11_right_0 rfl rfl ?_
  refine g_iload_n X dX11_right_1 rfl rfl ?_
  refine g_xV1_v X T w_X11_versionNumbered ml_X11_168 dX11_right_2 rfl (n0 hN) (en0 _ _ _ _) ⟨⟨Nat.le_of_ble_eq_true rfl, Nat.le_of_ble_eq_true rfl⟩, Nat.le_of_ble_eq_true rfl, Nat.le_of_ble_eq_true rfl⟩ (Nat.le_of_ble_eq_true rfl) (c_X11_versionNumbered hN (by omega) (by omega)) (Nat.le_of_ble_eq_true rfl) (Nat.le_of_ble_eq_true rfl) (fun E h => Or.inl h) (fun hc2 => ?_)
  obtain ⟨h1, h2, h3, h4, h5, h6, h7⟩ := hv v (by omega) (by omega)
  refine g_astore_6 X dX11_right_5 rfl (lt_kN hNL rfl) rfl ?_
  refine g_iload_n X dX11_right_7 rfl rfl ?_
  refine g_bipush X dX11_right_8 rfl (by decide) ?_
  refine g_xS2_n X T w_X11_needPlace ml_X11_91 dX11_right_10 rfl ⟨⟨Nat.le_of_ble_eq_true rfl, Nat.le_of_ble_eq_true rfl⟩, Nat.le_of_ble_eq_true rfl, Nat.le_of_ble_eq_true rfl⟩ (Nat.le_of_ble_eq_true rfl) (c_X11_needPlace hN (by omega) (by omega)) (Nat.le_of_ble_eq_true rfl) (Nat.le_of_ble_eq_true rfl) (fun E h => Or.inr (Or.inl ⟨h.1, by omega, h.2⟩)) (fun hc10 => ?_)
  refine g_cutB 54 ((0 ≤ l ∧ l ≤ 3) ∧ (1890 ≤ f ∧ f ≤ 2200) ∧ (f ≤ t ∧ t ≤ 2200)) (fun ct13 cf13 => ?_) ?_
  · skip
    refine g_iload_n X dX11_right_13 rfl rfl ?_
    refine g_iconst X dX11_right_14 rfl ?_
    refine g_iconst X dX11_right_15 rfl ?_
    refine g_iS3_v X w_X11_isWithin ml_X11_67 dX11_right_16 rfl ⟨⟨Nat.le_of_ble_eq_true rfl, Nat.le_of_ble_eq_true rfl⟩, Nat.le_of_ble_eq_true rfl, Nat.le_of_ble_eq_true rfl⟩ (Nat.le_of_ble_eq_true rfl) (c_X11_isWithin hN (by omega) (by omega) (by omega)) ?_
    refine g_ifB_eq (tgt := 53) X dX11_right_19 rfl rfl (fun h19 => ?_) (fun h19 => ?_)
    · skip
      refine g_iconst X dX11_right_53 rfl ?_
      exact cf13 (by omega)
    · skip
      refine g_iload X dX11_right_22 rfl rfl ?_
      refine g_sipush X dX11_right_24 rfl (by decide) ?_
      refine g_sipush X dX11_right_27 rfl (by decide) ?_
      refine g_iS3_v X w_X11_isWithin ml_X11_67 dX11_right_30 rfl ⟨⟨Nat.le_of_ble_eq_true rfl, Nat.le_of_ble_eq_true rfl⟩, Nat.le_of_ble_eq_true rfl, Nat.le_of_ble_eq_true rfl⟩ (Nat.le_of_ble_eq_true rfl) (c_X11_isWithin hN (by omega) (by omega) (by omega)) ?_
      refine g_ifB_eq (tgt := 53) X dX11_right_33 rfl rfl (fun h33 => ?_) (fun h33 => ?_)
      · skip
        refine g_iconst X dX11_right_53 rfl ?_
        exact cf13 (by omega)
      · skip
        refine g_iload X dX11_right_36 rfl rfl ?_
        refine g_iload X dX11_right_38 rfl rfl ?_
        refine g_sipush X dX11_right_40 rfl (by decide) ?_
        refine g_iS3_v X w_X11_isWithin ml_X11_67 dX11_right_43 rfl ⟨⟨Nat.le_of_ble_eq_true rfl, Nat.le_of_ble_eq_true rfl⟩, Nat.le_of_ble_eq_true rfl, Nat.le_of_ble_eq_true rfl⟩ (Nat.le_of_ble_eq_true rfl) (c_X11_isWithin hN (by omega) (by omega) (by omega)) ?_
        refine g_ifB_eq (tgt := 53) X dX11_right_46 rfl rfl (fun h46 => ?_) (fun h46 => ?_)
        · skip
          refine g_iconst X dX11_right_53 rfl ?_
          exact cf13 (by omega)
        · skip
          refine g_iconst X dX11_right_49 rfl ?_
          refine g_goto (pc' := 54) X dX11_right_50 rfl ?_
          exact ct13 (by omega)
  · skip
    refine g_xS1_n X T w_X11_needInRange ml_X11_71 dX11_right_54 rfl ⟨⟨Nat.le_of_ble_eq_true rfl, Nat.le_of_ble_eq_true rfl⟩, Nat.le_of_ble_eq_true rfl, Nat.le_of_ble_eq_true rfl⟩ (Nat.le_of_ble_eq_true rfl) (c_X11_needInRange hN) (Nat.le_of_ble_eq_true rfl) (Nat.le_of_ble_eq_true rfl) (fun E h => Or.inr (Or.inr (Or.inl ⟨h.1, by omega, by omega, h.2⟩))) (fun hc54 => ?_)
    refine g_cutB 71 ((M.1 0 7 0 0) < 40) (fun ct57 cf57 => ?_) ?_
    · skip
      refine g_aload_n X dX11_right_57 rfl rfl ?_
      refine g_getI X ci11 (n0 hN) (en0 _ _ _ _) (by decide) fl_X11_41 rfl dX11_right_58 rfl (fun r58 => ?_)
      refine g_bipush X dX11_right_61 rfl (by decide) ?_
      refine g_icmp_ge (tgt := 70) X dX11_right_63 rfl rfl (by omega) (by omega) (fun h63 => ?_) (fun h63 => ?_)
      · skip
        refine g_iconst X dX11_right_70 rfl ?_
        exact cf57 (by omega)
      · skip
        refine g_iconst X dX11_right_66 rfl ?_
        refine g_goto (pc' := 71) X dX11_right_67 rfl ?_
        exact ct57 (by omega)
    · skip
      refine g_xS1_n X T w_X11_needPossible ml_X11_75 dX11_right_71 rfl ⟨⟨Nat.le_of_ble_eq_true rfl, Nat.le_of_ble_eq_true rfl⟩, Nat.le_of_ble_eq_true rfl, Nat.le_of_ble_eq_true rfl⟩ (Nat.le_of_ble_eq_true rfl) (c_X11_needPossible hN) (Nat.le_of_ble_eq_true rfl) (Nat.le_of_ble_eq_true rfl) (fun E h => Or.inr (Or.inr (Or.inr ⟨h.1, by omega, by omega, by omega, h.2⟩))) (fun hc71 => ?_)
      refine g_aload X dX11_right_74 rfl rfl ?_
      refine g_iload_n X dX11_right_76 rfl rfl ?_
      refine g_iload_n X dX11_right_77 rfl rfl ?_
      refine g_iload X dX11_right_78 rfl rfl ?_
      refine g_iload X dX11_right_80 rfl rfl ?_
      refine g_iV4_n X w_X10_addRight ml_X11_221 dX11_right_82 rfl (n22 hN (by omega) (by omega)) (en22 _ _ _ _) ⟨⟨Nat.le_of_ble_eq_true rfl, Nat.le_of_ble_eq_true rfl⟩, Nat.le_of_ble_eq_true rfl, Nat.le_of_ble_eq_true rfl⟩ (Nat.le_of_ble_eq_true rfl) (c_X10_addRight hN (by omega) (by omega) (by omega) (by omega) (by omega) (by omega) (by omega)) ?_
      refine g_aload_n X dX11_right_85 rfl rfl ?_
      refine g_dup X dX11_right_86 rfl rfl ?_
      refine g_getI X ci11 (n0 hN) (en0 _ _ _ _) (by decide) fl_X11_41 rfl dX11_right_87 rfl (fun r87 => ?_)
      refine g_iconst X dX11_right_90 rfl ?_
      refine g_iadd X dX11_right_91 rfl ?_
      refine g_putI X ci11 (n0 hN) (en0 _ _ _ _) (ep0_7 _ _ _ _ _) (by simp only [addRightM, setI_1]; simp; omega) (by decide) rfl rfl rfl (Nat.le_of_ble_eq_true rfl) fl_X11_41 dX11_right_92 rfl ?_
      refine g_aload X dX11_right_95 rfl rfl ?_
      refine g_getI X ci10 (n22 hN (by omega) (by omega)) (en22 _ _ _ _) (by decide) fl_X11_225 rfl dX11_right_97 rfl (fun r97 => ?_)
      refine g_int (b := (M.1 22 8 v 0) + 1) (by unfold addRightM; simp [setI_1]) ?_
      exact g_ret Y dX11_right_100 ⟨_, rfl⟩ ⟨⟨by omega, by omega, by omega, by omega⟩, rfl, rfl, by unfold addRightM; simp [setI_1]⟩
set_option maxRecDepth 100000 in
set_option maxHeartbeats 4000000 in
theorem c_X11_allow {δ : Dx} {nm : List (Nat × Int)} {ad : Ad} {M : Mem} {v h : Int} {P : Prop} (hN : NmOk nm) (rv : rng v) (rh : rng h) (vc : 0 ≤ (M.1 0 6 0 0) ∧ (M.1 0 6 0 0) ≤ 6) (hv : ∀ v, 0 ≤ v → v < (M.1 0 6 0 0) → VOk M v) : CtX δ md_X11_allow 2 12 nm ad M [.ref (ad 0 0), .int (iI v), .int (iI h), .int (iI (bI P))] (pC ((0 ≤ v ∧ v < (M.1 0 6 0 0)) ∧ (0 ≤ h ∧ h < 10)) (pV (.int (iI (M.1 30 0 v h))) ad (setI M 30 0 v h (bI P)))) (fun E => (E = "java/lang/IndexOutOfBoundsException" ∧ ¬ (0 ≤ v ∧ v < (M.1 0 6 0 0))) ∨ (E = "java/lang/IndexOutOfBoundsException" ∧ (0 ≤ v ∧ v < (M.1 0 6 0 0)) ∧ ¬ (0 ≤ h ∧ h < 10))) := by
  refine CtX_of (ins := .ireturn) (ok := okZ) [some (.ref (ad 0 0)), some (.int (iI v)), some (.int (iI h)), some (.int (iI (bI P))), none, none] (by decide +kernel) rfl (Nat.le_of_ble_eq_true rfl) (fun κ X hr T => xendZ rfl X hr T) (fun κ X hNL T Y => ?_)
  refine g_rm (fun hM => ?_)
  refine g_aload_n X dX11_allow_0 rfl rfl ?_
  refine g_iload_n X dX11_allow_1 rfl rfl ?_
  refine g_xV1_v X T w_X11_versionNumbered ml_X11_168 dX11_allow_2 rfl (n0 hN) (en0 _ _ _ _) ⟨⟨Nat.le_of_ble_eq_true rfl, Nat.le_of_ble_eq_true rfl⟩, Nat.le_of_ble_eq_true rfl, Nat.le_of_ble_eq_true rfl⟩ (Nat.le_of_ble_eq_true rfl) (c_X11_versionNumbered hN (by omega) (by omega)) (Nat.le_of_ble_eq_true rfl) (Nat.le_of_ble_eq_true rfl) (fun E h => Or.inl h) (fun hc2 => ?_)
  obtain ⟨h1, h2, h3, h4, h5, h6, h7⟩ := hv v (by omega) (by omega)
  refine g_astore_4 X dX11_allow_5 rfl (lt_kN hNL rfl) rfl ?_
  refine g_iload_n X dX11_allow_7 rfl rfl ?_
  refine g_bipush X dX11_allow_8 rfl (by decide) ?_
  refine g_xS2_n X T w_X11_needPlace ml_X11_91 dX11_allow_10 rfl ⟨⟨Nat.le_of_ble_eq_true rfl, Nat.le_of_ble_eq_true rfl⟩, Nat.le_of_ble_eq_true rfl, Nat.le_of_ble_eq_true rfl⟩ (Nat.le_of_ble_eq_true rfl) (c_X11_needPlace hN (by omega) (by omega)) (Nat.le_of_ble_eq_true rfl) (Nat.le_of_ble_eq_true rfl) (fun E h => Or.inr ⟨h.1, by omega, h.2⟩) (fun hc10 => ?_)
  refine g_aload X dX11_allow_13 rfl rfl ?_
  refine g_get X ci10 (n22 hN (by omega) (by omega)) (en22 _ _ _ _) (by decide) fl_X11_226 rfl dX11_allow_15 rfl ?_
  refine g_iload_n X dX11_allow_18 rfl rfl ?_
  refine g_zald X dX11_allow_19 rfl (n30 hN (by omega) (by omega)) (en30 _ _ _ _) (t0 := 2) rfl (by omega) (by omega) (by decide) (fun r19 => ?_)
  refine g_istore_5 X dX11_allow_20 rfl (lt_kN hNL rfl) rfl ?_
  refine g_aload X dX11_allow_22 rfl rfl ?_
  refine g_get X ci10 (n22 hN (by omega) (by omega)) (en22 _ _ _ _) (by decide) fl_X11_226 rfl dX11_allow_24 rfl ?_
  refine g_iload_n X dX11_allow_27 rfl rfl ?_
  refine g_iload_n X dX11_allow_28 rfl rfl ?_
  refine g_zast X (n30 hN (by omega) (by omega)) (en30 _ _ _ _) (en30 _ _ _ _) (t0 := 2) rfl (by omega) (by omega) (by decide) (bI_01 _) dX11_allow_29 rfl ?_
  refine g_iload X dX11_allow_30 rfl rfl ?_
  exact g_ret Y dX11_allow_32 ⟨_, by (have := h7 h (by omega) (by omega); omega), rfl⟩ ⟨⟨by omega, by omega⟩, rfl, rfl, rfl⟩
set_option maxRecDepth 100000 in
set_option maxHeartbeats 4000000 in
theorem c_X11_mayShow {δ : Dx} {nm : List (Nat × Int)} {ad : Ad} {M : Mem} {v l y : Int} (hN : NmOk nm) (rv : rng v) (rl : rng l) (ry : rng y) (vc : 0 ≤ (M.1 0 6 0 0) ∧ (M.1 0 6 0 0) ≤ 6) (hv : ∀ v, 0 ≤ v → v < (M.1 0 6 0 0) → VOk M v) (rgc : 0 ≤ (M.1 0 7 0 0) ∧ (M.1 0 7 0 0) ≤ 40) : CtX δ md_X11_mayShow 2 12 nm ad M [.ref (ad 0 0), .int (iI v), .int (iI l), .int (iI y)] (pC ((0 ≤ v ∧ v < (M.1 0 6 0 0)) ∧ ((0 ≤ l ∧ l ≤ 3) ∧ (1890 ≤ y ∧ y ≤ 2200))) (pV (.int (iI (bI (freeIn M v l y)))) ad M)) (fun E => (E = "java/lang/IndexOutOfBoundsException" ∧ ¬ (0 ≤ v ∧ v < (M.1 0 6 0 0))) ∨ (E = "java/lang/IllegalArgumentException" ∧ (0 ≤ v ∧ v < (M.1 0 6 0 0)) ∧ ¬ ((0 ≤ l ∧ l ≤ 3) ∧ (1890 ≤ y ∧ y ≤ 2200)))) := by
  refine CtX_of (ins := .ireturn) (ok := okZ) [some (.ref (ad 0 0)), some (.int (iI v)), some (.int (iI l)), some (.int (iI y)), none] (by decide +kernel) rfl (Nat.le_of_ble_eq_true rfl) (fun κ X hr T => xendZ rfl X hr T) (fun κ X hNL T Y => ?_)
  refine g_rm (fun hM => ?_)
  refine g_aload_n X dX11_mayShow_0 rfl rfl ?_
  refine g_iload_n X dX11_mayShow_1 rfl rfl ?_
  refine g_xV1_v X T w_X11_versionNumbered ml_X11_168 dX11_mayShow_2 rfl (n0 hN) (en0 _ _ _ _) ⟨⟨Nat.le_of_ble_eq_true rfl, Nat.le_of_ble_eq_true rfl⟩, Nat.le_of_ble_eq_true rfl, Nat.le_of_ble_eq_true rfl⟩ (Nat.le_of_ble_eq_true rfl) (c_X11_versionNumbered hN (by omega) (by omega)) (Nat.le_of_ble_eq_true rfl) (Nat.le_of_ble_eq_true rfl) (fun E h => Or.inl h) (fun hc2 => ?_)
  obtain ⟨h1, h2, h3, h4, h5, h6, h7⟩ := hv v (by omega) (by omega)
  refine g_astore_4 X dX11_mayShow_5 rfl (lt_kN hNL rfl) rfl ?_
  refine g_cutB 34 ((0 ≤ l ∧ l ≤ 3) ∧ (1890 ≤ y ∧ y ≤ 2200)) (fun ct7 cf7 => ?_) ?_
  · skip
    refine g_iload_n X dX11_mayShow_7 rfl rfl ?_
    refine g_iconst X dX11_mayShow_8 rfl ?_
    refine g_iconst X dX11_mayShow_9 rfl ?_
    refine g_iS3_v X w_X11_isWithin ml_X11_67 dX11_mayShow_10 rfl ⟨⟨Nat.le_of_ble_eq_true rfl, Nat.le_of_ble_eq_true rfl⟩, Nat.le_of_ble_eq_true rfl, Nat.le_of_ble_eq_true rfl⟩ (Nat.le_of_ble_eq_true rfl) (c_X11_isWithin hN (by omega) (by omega) (by omega)) ?_
    refine g_ifB_eq (tgt := 33) X dX11_mayShow_13 rfl rfl (fun h13 => ?_) (fun h13 => ?_)
    · skip
      refine g_iconst X dX11_mayShow_33 rfl ?_
      exact cf7 (by omega)
    · skip
      refine g_iload_n X dX11_mayShow_16 rfl rfl ?_
      refine g_sipush X dX11_mayShow_17 rfl (by decide) ?_
      refine g_sipush X dX11_mayShow_20 rfl (by decide) ?_
      refine g_iS3_v X w_X11_isWithin ml_X11_67 dX11_mayShow_23 rfl ⟨⟨Nat.le_of_ble_eq_true rfl, Nat.le_of_ble_eq_true rfl⟩, Nat.le_of_ble_eq_true rfl, Nat.le_of_ble_eq_true rfl⟩ (Nat.le_of_ble_eq_true rfl) (c_X11_isWithin hN (by omega) (by omega) (by omega)) ?_
      refine g_ifB_eq (tgt := 33) X dX11_mayShow_26 rfl rfl (fun h26 => ?_) (fun h26 => ?_)
      · skip
        refine g_iconst X dX11_mayShow_33 rfl ?_
        exact cf7 (by omega)
      · skip
        refine g_iconst X dX11_mayShow_29 rfl ?_
        refine g_goto (pc' := 34) X dX11_mayShow_30 rfl ?_
        exact ct7 (by omega)
  · skip
    refine g_xS1_n X T w_X11_needInRange ml_X11_71 dX11_mayShow_34 rfl ⟨⟨Nat.le_of_ble_eq_true rfl, Nat.le_of_ble_eq_true rfl⟩, Nat.le_of_ble_eq_true rfl, Nat.le_of_ble_eq_true rfl⟩ (Nat.le_of_ble_eq_true rfl) (c_X11_needInRange hN) (Nat.le_of_ble_eq_true rfl) (Nat.le_of_ble_eq_true rfl) (fun E h => Or.inr ⟨h.1, by omega, h.2⟩) (fun hc34 => ?_)
    refine g_aload X dX11_mayShow_37 rfl rfl ?_
    refine g_iload_n X dX11_mayShow_39 rfl rfl ?_
    refine g_iload_n X dX11_mayShow_40 rfl rfl ?_
    refine g_iV2_v X w_X10_isFreeIn ml_X11_230 dX11_mayShow_41 rfl (n22 hN (by omega) (by omega)) (en22 _ _ _ _) ⟨⟨Nat.le_of_ble_eq_true rfl, Nat.le_of_ble_eq_true rfl⟩, Nat.le_of_ble_eq_true rfl, Nat.le_of_ble_eq_true rfl⟩ (Nat.le_of_ble_eq_true rfl) (c_X10_isFreeIn hN (by omega) (by omega) (by omega) h5 (by omega) (by omega)) ?_
    exact g_ret Y dX11_mayShow_44 okZb ⟨⟨by omega, by omega⟩, rfl, rfl, rfl⟩
set_option maxRecDepth 100000 in
set_option maxHeartbeats 4000000 in
theorem c_X11_protect {δ : Dx} {nm : List (Nat × Int)} {ad : Ad} {M : Mem} {p : Int} {P : Prop} (hN : NmOk nm) (rp : rng p) (e0 : 0 ≤ (M.1 10 0 0 0) ∧ (M.1 10 0 0 0) ≤ 120) (hp : ∀ k, 0 ≤ k → k < (M.1 10 0 0 0) → (M.1 31 5 k 0) = 0 ∨ (M.1 31 5 k 0) = 1) : CtX δ md_X11_protect 1 6 nm ad M [.ref (ad 0 0), .int (iI p), .int (iI (bI P))] (pC ((0 ≤ p ∧ p < (M.1 10 0 0 0))) (pV (.int (iI (M.1 31 5 p 0))) ad (setI M 31 5 p 0 (bI P)))) (fun E => (E = "java/lang/IndexOutOfBoundsException" ∧ ¬ (0 ≤ p ∧ p < (M.1 10 0 0 0)))) := by
  refine CtX_of (ins := .ireturn) (ok := okZ) [some (.ref (ad 0 0)), some (.int (iI p)), some (.int (iI (bI P))), none, none] (by decide +kernel) rfl (Nat.le_of_ble_eq_true rfl) (fun κ X hr T => xendZ rfl X hr T) (fun κ X hNL T Y => ?_)
  refine g_rm (fun hM => ?_)
  refine g_aload_n X dX11_protect_0 rfl rfl ?_
  refine g_iload_n X dX11_protect_1 rfl rfl ?_
  refine g_xV1_v X T w_X11_editionFrameAt ml_X11_242 dX11_protect_2 rfl (n0 hN) (en0 _ _ _ _) ⟨⟨Nat.le_of_ble_eq_true rfl, Nat.le_of_ble_eq_true rfl⟩, Nat.le_of_ble_eq_true rfl, Nat.le_of_ble_eq_true rfl⟩ (Nat.le_of_ble_eq_true rfl) (c_X11_editionFrameAt hN (by omega) (by omega)) (Nat.le_of_ble_eq_true rfl) (Nat.le_of_ble_eq_true rfl) (fun E h => h) (fun hc2 => ?_)
  refine g_astore_3 X dX11_protect_5 rfl (lt_kN hNL rfl) rfl ?_
  refine g_aload_n X dX11_protect_6 rfl rfl ?_
  refine g_getI X ci3 (n31 hN (by omega) (by omega)) (en31 _ _ _ _) (by decide) fl_X11_246 rfl dX11_protect_7 rfl (fun r7 => ?_)
  refine g_istore_4 X dX11_protect_10 rfl (lt_kN hNL rfl) rfl ?_
  refine g_aload_n X dX11_protect_12 rfl rfl ?_
  refine g_iload_n X dX11_protect_13 rfl rfl ?_
  refine g_putI X ci3 (n31 hN (by omega) (by omega)) (en31 _ _ _ _) (ep31_5 _ _ _ _ _) (bI_rng _) (by decide) rfl (nar01 (bI_01 _)) (fit01 (bI_01 _)) (Nat.le_of_ble_eq_true rfl) fl_X11_246 dX11_protect_14 rfl ?_
  refine g_iload X dX11_protect_17 rfl rfl ?_
  exact g_ret Y dX11_protect_19 ⟨_, by (have := hp p (by omega) (by omega); omega), rfl⟩ ⟨by assumption, rfl, rfl, rfl⟩
set_option maxRecDepth 100000 in
set_option maxHeartbeats 4000000 in
theorem c_X11_limit {δ : Dx} {nm : List (Nat × Int)} {ad : Ad} {M : Mem} {l : Int} (hN : NmOk nm) (rl : rng l) : CtX δ md_X11_limit 1 6 nm ad M [.ref (ad 0 0), .int (iI l)] (pC ((0 ≤ l ∧ l ≤ 8)) (pV (.int (iI (M.1 10 1 0 0))) ad (setI M 10 1 0 0 l))) (fun E => (E = "java/lang/IllegalArgumentException" ∧ ¬ (0 ≤ l ∧ l ≤ 8))) := by
  refine CtX_of (ins := .ireturn) (ok := okI) [some (.ref (ad 0 0)), some (.int (iI l)), none] (by decide +kernel) rfl (Nat.le_of_ble_eq_true rfl) (fun κ X hr T => xendI rfl X hr T) (fun κ X hNL T Y => ?_)
  refine g_rm (fun hM => ?_)
  refine g_iload_n X dX11_limit_0 rfl rfl ?_
  refine g_iconst X dX11_limit_1 rfl ?_
  refine g_bipush X dX11_limit_2 rfl (by decide) ?_
  refine g_iS3_v X w_X11_isWithin ml_X11_67 dX11_limit_4 rfl ⟨⟨Nat.le_of_ble_eq_true rfl, Nat.le_of_ble_eq_true rfl⟩, Nat.le_of_ble_eq_true rfl, Nat.le_of_ble_eq_true rfl⟩ (Nat.le_of_ble_eq_true rfl) (c_X11_isWithin hN (by omega) (by omega) (by omega)) ?_
  refine g_xS1_n X T w_X11_needInRange ml_X11_71 dX11_limit_7 rfl ⟨⟨Nat.le_of_ble_eq_true rfl, Nat.le_of_ble_eq_true rfl⟩, Nat.le_of_ble_eq_true rfl, Nat.le_of_ble_eq_true rfl⟩ (Nat.le_of_ble_eq_true rfl) (c_X11_needInRange hN) (Nat.le_of_ble_eq_true rfl) (Nat.le_of_ble_eq_true rfl) (fun E h => h) (fun hc7 => ?_)
  refine g_aload_n X dX11_limit_10 rfl rfl ?_
  refine g_get X ci11 (n0 hN) (en0 _ _ _ _) (by decide) fl_X11_54 rfl dX11_limit_11 rfl ?_
  refine g_getI X ci2 (n10 hN) (en10 _ _ _ _) (by decide) fl_X11_251 rfl dX11_limit_14 rfl (fun r14 => ?_)
  refine g_istore_2 X dX11_limit_17 rfl (lt_kN hNL rfl) rfl ?_
  refine g_aload_n X dX11_limit_18 rfl rfl ?_
  refine g_get X ci11 (n0 hN) (en0 _ _ _ _) (by decide) fl_X11_54 rfl dX11_limit_19 rfl ?_
  refine g_iload_n X dX11_limit_22 rfl rfl ?_
  refine g_putI X ci2 (n10 hN) (en10 _ _ _ _) (ep10_1 _ _ _ _ _) (by omega) (by decide) rfl rfl rfl (Nat.le_of_ble_eq_true rfl) fl_X11_251 dX11_limit_23 rfl ?_
  refine g_iload_n X dX11_limit_26 rfl rfl ?_
  exact g_ret Y dX11_limit_27 ⟨_, rfl⟩ ⟨by assumption, rfl, rfl, rfl⟩
set_option maxRecDepth 100000 in
set_option maxHeartbeats 4000000 in
theorem c_X11_takeBack {δ : Dx} {nm : List (Nat × Int)} {ad : Ad} {M : Mem} {c : Int} (hN : NmOk nm) (rc : rng c) (hc : CapOk M) (cm : (M.1 12 0 0 0) ≤ 61440) (hpl : ∀ j, 0 ≤ j → j < (M.1 12 0 0 0) → 0 ≤ (M.1 13 0 0 j) ∧ (M.1 13 0 0 j) < 120) (nb : ∀ k, 0 ≤ k → k < 120 → 0 ≤ (M.1 31 6 k 0) ∧ (M.1 31 6 k 0) ≤ 99000) : CtX δ md_X11_takeBack 2 12 nm ad M [.ref (ad 0 0), .int (iI c)] (pC ((0 ≤ c ∧ c < (M.1 12 0 0 0)) ∧ ((M.1 31 7 ((M.1 13 0 0 c)) 0) = c)) (pV (.int (iI (M.1 13 0 0 c))) ad (undoM M c))) (fun E => (E = "java/lang/IndexOutOfBoundsException" ∧ ¬ (0 ≤ c ∧ c < (M.1 12 0 0 0))) ∨ (E = "java/lang/IllegalStateException" ∧ (0 ≤ c ∧ c < (M.1 12 0 0 0)) ∧ ¬ ((M.1 31 7 ((M.1 13 0 0 c)) 0) = c))) := by
  refine CtX_of (ins := .ireturn) (ok := okI) [some (.ref (ad 0 0)), some (.int (iI c))] (by decide +kernel) rfl (Nat.le_of_ble_eq_true rfl) (fun κ X hr T => xendI rfl X hr T) (fun κ X hNL T Y => ?_)
  refine g_rm (fun hM => ?_)
  obtain ⟨q1, q2, q3, q4, q5⟩ := id hc
  have q6 : (M.1 13 1 0 0) ≤ 61440 := by omega
  refine g_iload_n X dX11_takeBack_0 rfl rfl ?_
  refine g_aload_n X dX11_takeBack_1 rfl rfl ?_
  refine g_get X ci11 (n0 hN) (en0 _ _ _ _) (by decide) fl_X11_54 rfl dX11_takeBack_2 rfl ?_
  refine g_get X ci2 (n10 hN) (en10 _ _ _ _) (by decide) fl_X11_270 rfl dX11_takeBack_5 rfl ?_
  refine g_getI X ci0 (n12 hN) (en12 _ _ _ _) (by decide) fl_X11_274 rfl dX11_takeBack_8 rfl (fun r8 => ?_)
  refine g_xS2_n X T w_X11_needPlace ml_X11_91 dX11_takeBack_11 rfl ⟨⟨Nat.le_of_ble_eq_true rfl, Nat.le_of_ble_eq_true rfl⟩, Nat.le_of_ble_eq_true rfl, Nat.le_of_ble_eq_true rfl⟩ (Nat.le_of_ble_eq_true rfl) (c_X11_needPlace hN (by omega) (by omega)) (Nat.le_of_ble_eq_true rfl) (Nat.le_of_ble_eq_true rfl) (fun E h => Or.inl h) (fun hc11 => ?_)
  have hp1 := hpl c (by omega) (by omega)
  have nb1 := nb (M.1 13 0 0 c) (by omega) (by omega)
  refine g_aload_n X dX11_takeBack_14 rfl rfl ?_
  refine g_get X ci11 (n0 hN) (en0 _ _ _ _) (by decide) fl_X11_54 rfl dX11_takeBack_15 rfl ?_
  refine g_iload_n X dX11_takeBack_18 rfl rfl ?_
  refine g_iV1_v X w_X2_isOnTop ml_X11_277 dX11_takeBack_19 rfl (n10 hN) (en10 _ _ _ _) ⟨⟨Nat.le_of_ble_eq_true rfl, Nat.le_of_ble_eq_true rfl⟩, Nat.le_of_ble_eq_true rfl, Nat.le_of_ble_eq_true rfl⟩ (Nat.le_of_ble_eq_true rfl) (c_X2_isOnTop hN (by omega) (by omega) ⟨q5, q6⟩ hp1) ?_
  refine g_xS1_n X T w_X11_needPossible ml_X11_75 dX11_takeBack_22 rfl ⟨⟨Nat.le_of_ble_eq_true rfl, Nat.le_of_ble_eq_true rfl⟩, Nat.le_of_ble_eq_true rfl, Nat.le_of_ble_eq_true rfl⟩ (Nat.le_of_ble_eq_true rfl) (c_X11_needPossible hN) (Nat.le_of_ble_eq_true rfl) (Nat.le_of_ble_eq_true rfl) (fun E h => Or.inr ⟨h.1, by omega, h.2⟩) (fun hc22 => ?_)
  refine g_aload_n X dX11_takeBack_25 rfl rfl ?_
  refine g_get X ci11 (n0 hN) (en0 _ _ _ _) (by decide) fl_X11_54 rfl dX11_takeBack_26 rfl ?_
  refine g_iload_n X dX11_takeBack_29 rfl rfl ?_
  refine g_iV1_v X w_X2_undo ml_X11_281 dX11_takeBack_30 rfl (n10 hN) (en10 _ _ _ _) ⟨⟨Nat.le_of_ble_eq_true rfl, Nat.le_of_ble_eq_true rfl⟩, Nat.le_of_ble_eq_true rfl, Nat.le_of_ble_eq_true rfl⟩ (Nat.le_of_ble_eq_true rfl) (c_X2_undo hN (by omega) (by omega) ⟨q5, q6⟩ hp1 ⟨q1, q2⟩ (by omega)) ?_
  exact g_ret Y dX11_takeBack_33 ⟨_, rfl⟩ ⟨⟨by omega, by assumption⟩, rfl, rfl, rfl⟩
set_option maxRecDepth 100000 in
set_option maxHeartbeats 4000000 in
theorem c_X11_ofFrame {δ : Dx} {nm : List (Nat × Int)} {ad : Ad} {M : Mem} {p w : Int} (hN : NmOk nm) (rp : rng p) (rw : rng w) (e0 : 0 ≤ (M.1 10 0 0 0) ∧ (M.1 10 0 0 0) ≤ 120) : CtX δ md_X11_ofFrame 2 12 nm ad M [.ref (ad 0 0), .int (iI p), .int (iI w)] (pC ((0 ≤ p ∧ p < (M.1 10 0 0 0)) ∧ (0 ≤ w ∧ w ≤ 4)) (pV (.int (iI (ofFV M p w))) ad M)) (fun E => (E = "java/lang/IndexOutOfBoundsException" ∧ ¬ (0 ≤ p ∧ p < (M.1 10 0 0 0))) ∨ (E = "java/lang/IllegalArgumentException" ∧ (0 ≤ p ∧ p < (M.1 10 0 0 0)) ∧ ¬ (0 ≤ w ∧ w ≤ 4))) := by
  refine CtX_of (ins := .ireturn) (ok := okI) [some (.ref (ad 0 0)), some (.int (iI p)), some (.int (iI w)), none] (by decide +kernel) rfl (Nat.le_of_ble_eq_true rfl) (fun κ X hr T => xendI rfl X hr T) (fun κ X hNL T Y => ?_)
  refine g_rm (fun hM => ?_)
  refine g_aload_n X dX11_ofFrame_0 rfl rfl ?_
  refine g_iload_n X dX11_ofFrame_1 rfl rfl ?_
  refine g_xV1_v X T w_X11_editionFrameAt ml_X11_242 dX11_ofFrame_2 rfl (n0 hN) (en0 _ _ _ _) ⟨⟨Nat.le_of_ble_eq_true rfl, Nat.le_of_ble_eq_true rfl⟩, Nat.le_of_ble_eq_true rfl, Nat.le_of_ble_eq_true rfl⟩ (Nat.le_of_ble_eq_true rfl) (c_X11_editionFrameAt hN (by omega) (by omega)) (Nat.le_of_ble_eq_true rfl) (Nat.le_of_ble_eq_true rfl) (fun E h => Or.inl h) (fun hc2 => ?_)
  refine g_astore_3 X dX11_ofFrame_5 rfl (lt_kN hNL rfl) rfl ?_
  refine g_iload_n X dX11_ofFrame_6 rfl rfl ?_
  by_cases hs7 : w < 0 ∨ 4 < w
  · refine g_swOut (tgt := 72) X dX11_ofFrame_7 (by omega) hs7 rfl ?_
    exact g_throwS X T wt_140_144 (fun _ h => tx_what h) dX11_ofFrame_72 dX11_ofFrame_75 dX11_ofFrame_76 dX11_ofFrame_78 dX11_ofFrame_81 (Or.inr ⟨rfl, by omega, by omega⟩) ⟨Nat.le_of_ble_eq_true rfl, Nat.le_of_ble_eq_true rfl, Nat.le_of_ble_eq_true rfl, Nat.le_of_ble_eq_true rfl⟩ ⟨Nat.le_of_ble_eq_true rfl, Nat.le_of_ble_eq_true rfl⟩
  · rcases (show w = 0 ∨ w = 1 ∨ w = 2 ∨ w = 3 ∨ w = 4 by omega) with hw7 | hw7 | hw7 | hw7 | hw7
    · refine g_swIn (tgt := 40) X dX11_ofFrame_7 (by omega) (by omega) (by omega) (by rw [hw7]; rfl) rfl ?_
      refine g_aload_n X dX11_ofFrame_40 rfl rfl ?_
      refine g_getI X ci3 (n31 hN (by omega) (by omega)) (en31 _ _ _ _) (by decide) fl_X11_284 rfl dX11_ofFrame_41 rfl (fun r41 => ?_)
      refine g_widen (cl' := 2) (sl' := 12) (Nat.le_of_ble_eq_true rfl) (Nat.le_of_ble_eq_true rfl) ?_
      exact g_ret Y dX11_ofFrame_44 ⟨_, rfl⟩ ⟨(by exact ⟨by omega, by omega⟩), pVI (by rw [hw7]; rfl)⟩
    · refine g_swIn (tgt := 45) X dX11_ofFrame_7 (by omega) (by omega) (by omega) (by rw [hw7]; rfl) rfl ?_
      refine g_aload_n X dX11_ofFrame_45 rfl rfl ?_
      refine g_getI X ci3 (n31 hN (by omega) (by omega)) (en31 _ _ _ _) (by decide) fl_X11_287 rfl dX11_ofFrame_46 rfl (fun r46 => ?_)
      refine g_widen (cl' := 2) (sl' := 12) (Nat.le_of_ble_eq_true rfl) (Nat.le_of_ble_eq_true rfl) ?_
      exact g_ret Y dX11_ofFrame_49 ⟨_, rfl⟩ ⟨(by exact ⟨by omega, by omega⟩), pVI (by rw [hw7]; rfl)⟩
    · refine g_swIn (tgt := 50) X dX11_ofFrame_7 (by omega) (by omega) (by omega) (by rw [hw7]; rfl) rfl ?_
      refine g_aload_n X dX11_ofFrame_50 rfl rfl ?_
      refine g_getI X ci3 (n31 hN (by omega) (by omega)) (en31 _ _ _ _) (by decide) fl_X11_290 rfl dX11_ofFrame_51 rfl (fun r51 => ?_)
      refine g_widen (cl' := 2) (sl' := 12) (Nat.le_of_ble_eq_true rfl) (Nat.le_of_ble_eq_true rfl) ?_
      exact g_ret Y dX11_ofFrame_54 ⟨_, rfl⟩ ⟨(by exact ⟨by omega, by omega⟩), pVI (by rw [hw7]; rfl)⟩
    · refine g_swIn (tgt := 55) X dX11_ofFrame_7 (by omega) (by omega) (by omega) (by rw [hw7]; rfl) rfl ?_
      refine g_aload_n X dX11_ofFrame_55 rfl rfl ?_
      refine g_get X ci3 (n31 hN (by omega) (by omega)) (en31 _ _ _ _) (by decide) fl_X11_293 rfl dX11_ofFrame_56 rfl ?_
      refine g_aload_n X dX11_ofFrame_59 rfl rfl ?_
      refine g_get X ci3 (n31 hN (by omega) (by omega)) (en31 _ _ _ _) (by decide) fl_X11_297 rfl dX11_ofFrame_60 rfl ?_
      refine g_iS2_v X w_X7_unlike ml_X11_300 dX11_ofFrame_63 rfl ⟨⟨Nat.le_of_ble_eq_true rfl, Nat.le_of_ble_eq_true rfl⟩, Nat.le_of_ble_eq_true rfl, Nat.le_of_ble_eq_true rfl⟩ (Nat.le_of_ble_eq_true rfl) (c_X7_unlike hN) ?_
      refine g_widen (cl' := 2) (sl' := 12) (Nat.le_of_ble_eq_true rfl) (Nat.le_of_ble_eq_true rfl) ?_
      exact g_ret Y dX11_ofFrame_66 ⟨_, rfl⟩ ⟨(by exact ⟨by omega, by omega⟩), pVI (by rw [hw7]; rfl)⟩
    · refine g_swIn (tgt := 67) X dX11_ofFrame_7 (by omega) (by omega) (by omega) (by rw [hw7]; rfl) rfl ?_
      refine g_aload_n X dX11_ofFrame_67 rfl rfl ?_
      refine g_getI X ci3 (n31 hN (by omega) (by omega)) (en31 _ _ _ _) (by decide) fl_X11_303 rfl dX11_ofFrame_68 rfl (fun r68 => ?_)
      refine g_widen (cl' := 2) (sl' := 12) (Nat.le_of_ble_eq_true rfl) (Nat.le_of_ble_eq_true rfl) ?_
      exact g_ret Y dX11_ofFrame_71 ⟨_, rfl⟩ ⟨(by exact ⟨by omega, by omega⟩), pVI (by rw [hw7]; rfl)⟩
set_option maxRecDepth 100000 in
set_option maxHeartbeats 4000000 in
theorem c_X11_seen {δ : Dx} {nm : List (Nat × Int)} {ad : Ad} {M : Mem} {p : Int} (hN : NmOk nm) (rp : rng p) (e0 : 0 ≤ (M.1 10 0 0 0) ∧ (M.1 10 0 0 0) ≤ 120) : CtX δ md_X11_seen 1 6 nm ad M [.ref (ad 0 0), .int (iI p)] (pC ((0 ≤ p ∧ p < (M.1 10 0 0 0))) (pV (.long (M.2 31 4 p 0)) ad M)) (fun E => (E = "java/lang/IndexOutOfBoundsException" ∧ ¬ (0 ≤ p ∧ p < (M.1 10 0 0 0)))) := by
  refine CtX_of (ins := .lreturn) (ok := okL) [some (.ref (ad 0 0)), some (.int (iI p))] (by decide +kernel) rfl (Nat.le_of_ble_eq_true rfl) (fun κ X hr T => xendL rfl X hr T) (fun κ X hNL T Y => ?_)
  refine g_rm (fun hM => ?_)
  refine g_aload_n X dX11_seen_0 rfl rfl ?_
  refine g_iload_n X dX11_seen_1 rfl rfl ?_
  refine g_xV1_v X T w_X11_editionFrameAt ml_X11_242 dX11_seen_2 rfl (n0 hN) (en0 _ _ _ _) ⟨⟨Nat.le_of_ble_eq_true rfl, Nat.le_of_ble_eq_true rfl⟩, Nat.le_of_ble_eq_true rfl, Nat.le_of_ble_eq_true rfl⟩ (Nat.le_of_ble_eq_true rfl) (c_X11_editionFrameAt hN (by omega) (by omega)) (Nat.le_of_ble_eq_true rfl) (Nat.le_of_ble_eq_true rfl) (fun E h => h) (fun hc2 => ?_)
  refine g_get X ci3 (n31 hN (by omega) (by omega)) (en31 _ _ _ _) (by decide) fl_X11_293 rfl dX11_seen_5 rfl ?_
  exact g_ret Y dX11_seen_8 ⟨_, rfl⟩ ⟨by assumption, rfl, rfl, rfl⟩
set_option maxRecDepth 100000 in
set_option maxHeartbeats 4000000 in
theorem c_X11_sum {δ : Dx} {nm : List (Nat × Int)} {ad : Ad} {M : Mem} {b : Int} (hN : NmOk nm) (e0 : 0 ≤ (M.1 10 0 0 0) ∧ (M.1 10 0 0 0) ≤ 120) (rb : rng b) : Ct δ md_X11_sum 0 0 nm ad M [.ref (ad 0 0), .int (iI b)] (pV (.long (csm M b ((M.1 10 0 0 0)).toNat)) ad M) := by
  refine Ct_of (ins := .lreturn) (ok := okL) [some (.ref (ad 0 0)), some (.int (iI b))] (by decide +kernel) rfl (Nat.le_of_ble_eq_true rfl) (fun κ s hs X hr hQ hδ => endL rfl hs X hr hQ hδ) (fun κ X hNL hδ Y => ?_)
  refine g_rm (fun hM => ?_)
  refine g_aload_n X dX11_sum_0 rfl rfl ?_
  refine g_get X ci11 (n0 hN) (en0 _ _ _ _) (by decide) fl_X11_54 rfl dX11_sum_1 rfl ?_
  refine g_iload_n X dX11_sum_4 rfl rfl ?_
  refine g_iV1_v X w_X2_checksum ml_X11_306 dX11_sum_5 rfl (n10 hN) (en10 _ _ _ _) ⟨⟨Nat.le_of_ble_eq_true rfl, Nat.le_of_ble_eq_true rfl⟩, Nat.le_of_ble_eq_true rfl, Nat.le_of_ble_eq_true rfl⟩ (Nat.le_of_ble_eq_true rfl) (c_X2_checksum hN (by omega) (by omega)) ?_
  exact g_ret Y dX11_sum_8 ⟨_, rfl⟩ ⟨rfl, rfl, rfl⟩
