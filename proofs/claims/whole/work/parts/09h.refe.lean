set_option maxRecDepth 100000 in
set_option maxHeartbeats 4000000 in
theorem c_X12_limit {δ : Dx} {nm : List (Nat × Int)} {ad : Ad} {M : Mem} {C : Mem} {l : Int} (hN : NmOk nm) (hE : RelE C M) (rl : rng l) : Ct δ md_X12_limit 0 0 nm ad M [.ref (ad 40 0), .int (iI l)] (pRf (if 0 ≤ l ∧ l ≤ 8 then 0 else 1) (.int (iI (-1))) (.int (iI (C.1 10 1 0 0))) ad M (fun M' => M' = setI (setI M 40 46 0 0 0) 40 40 0 0 l)) := by
  refine Ct_of (ins := .ireturn) (ok := okI) [some (.ref (ad 40 0)), some (.int (iI l)), none] (by decide +kernel) rfl (Nat.le_of_ble_eq_true rfl) (fun κ s hs X hr hQ hδ => endI rfl hs X hr hQ hδ) (fun κ X hNL hδ Y => ?_)
  refine g_rm (fun hM => ?_)
  have ec := hE.ec
  have ee := hE.e
  have li := hE.li
  refine g_aload_n X dX12_limit_0 rfl rfl ?_
  refine g_cutI 17 (if 0 ≤ l ∧ l ≤ 8 then 0 else 1) (fun ci1 => ?_) ?_
  · skip
    refine g_aload_n X dX12_limit_1 rfl rfl ?_
    refine g_iload_n X dX12_limit_2 rfl rfl ?_
    refine g_iconst X dX12_limit_3 rfl ?_
    refine g_bipush X dX12_limit_4 rfl (by decide) ?_
    refine g_iV3_v X w_X12_in ml_X12_146 dX12_limit_6 rfl (n40 hN) (en40 _ _ _ _) ⟨⟨Nat.le_of_ble_eq_true rfl, Nat.le_of_ble_eq_true rfl⟩, Nat.le_of_ble_eq_true rfl, Nat.le_of_ble_eq_true rfl⟩ (Nat.le_of_ble_eq_true rfl) (c_X12_in hN (by omega) (by omega) (by omega)) ?_
    refine g_ifB_eq (tgt := 16) X dX12_limit_9 rfl rfl (fun h9 => ?_) (fun h9 => ?_)
    · skip
      refine g_iconst X dX12_limit_16 rfl ?_
      exact ci1 _ (by omega)
    · skip
      refine g_iconst X dX12_limit_12 rfl ?_
      refine g_goto (pc' := 17) X dX12_limit_13 rfl ?_
      exact ci1 _ (by omega)
  · skip
    refine g_iV1_v X w_X12_holds ml_X12_158 dX12_limit_17 rfl (n40 hN) (en40 _ _ _ _) ⟨⟨Nat.le_of_ble_eq_true rfl, Nat.le_of_ble_eq_true rfl⟩, Nat.le_of_ble_eq_true rfl, Nat.le_of_ble_eq_true rfl⟩ (Nat.le_of_ble_eq_true rfl) (c_X12_holds hN (by omega)) ?_
    refine g_ifB_eq (tgt := 25) X dX12_limit_20 rfl rfl (fun h20 => ?_) (fun h20 => ?_)
    · skip
      have w0 : (if 0 ≤ l ∧ l ≤ 8 then 0 else 1 : Int) = 0 := by omega
      rw [w0]
      refine g_aload_n X dX12_limit_25 rfl rfl ?_
      refine g_getI X ci12 (n40 hN) (en40 _ _ _ _) (by decide) fl_X12_117 rfl dX12_limit_26 rfl (fun r26 => ?_)
      refine g_int (b := M.1 40 40 0 0) rfl ?_
      have r26x := hM 40 40 0 0
      refine g_istore_2 X dX12_limit_29 rfl (lt_kN hNL rfl) rfl ?_
      refine g_aload_n X dX12_limit_30 rfl rfl ?_
      refine g_iload_n X dX12_limit_31 rfl rfl ?_
      refine g_putI X ci12 (n40 hN) (en40 _ _ _ _) (ep40_40 _ _ _ _ _) (by first | omega | (simp only [setI_1, setL_1, setI_2, setL_2]; omega) | (simp only [setI_1, setL_1, setI_2, setL_2]; simp; omega)) (by decide) rfl rfl rfl (Nat.le_of_ble_eq_true rfl) fl_X12_117 dX12_limit_32 rfl ?_
      refine g_iload_n X dX12_limit_35 rfl rfl ?_
      refine g_int (b := (C.1 10 1 0 0)) (by omega) ?_
      exact g_ret Y dX12_limit_36 ⟨_, rfl⟩ (pRo w0 rfl)
    · skip
      refine g_iconst X dX12_limit_23 rfl ?_
      exact g_ret Y dX12_limit_24 ⟨_, rfl⟩ (pRx (by assumption))
set_option maxRecDepth 100000 in
set_option maxHeartbeats 4000000 in
theorem c_X12_protect {δ : Dx} {nm : List (Nat × Int)} {ad : Ad} {M : Mem} {C : Mem} {p : Int} {P : Prop} (hN : NmOk nm) (hE : RelE C M) (rp : rng p) : Ct δ md_X12_protect 0 0 nm ad M [.ref (ad 40 0), .int (iI p), .int (iI (bI P))] (pRf (if 0 ≤ p ∧ p < (C.1 10 0 0 0) then 0 else 1) (.int (iI 0)) (.int (iI (C.1 31 5 p 0))) ad M (fun M' => M' = setI (setI M 40 46 0 0 0) 72 0 0 p (bI P))) := by
  refine Ct_of (ins := .ireturn) (ok := okZ) [some (.ref (ad 40 0)), some (.int (iI p)), some (.int (iI (bI P))), none] (by decide +kernel) rfl (Nat.le_of_ble_eq_true rfl) (fun κ s hs X hr hQ hδ => endZ rfl hs X hr hQ hδ) (fun κ X hNL hδ Y => ?_)
  refine g_rm (fun hM => ?_)
  have ec := hE.ec
  have ee := hE.e
  have li := hE.li
  refine g_aload_n X dX12_protect_0 rfl rfl ?_
  refine g_cutI 14 (if 0 ≤ p ∧ p < (C.1 10 0 0 0) then 0 else 1) (fun ci1 => ?_) ?_
  · skip
    refine g_aload_n X dX12_protect_1 rfl rfl ?_
    refine g_iload_n X dX12_protect_2 rfl rfl ?_
    refine g_iV1_v X w_X12_isPlace ml_X12_255 dX12_protect_3 rfl (n40 hN) (en40 _ _ _ _) ⟨⟨Nat.le_of_ble_eq_true rfl, Nat.le_of_ble_eq_true rfl⟩, Nat.le_of_ble_eq_true rfl, Nat.le_of_ble_eq_true rfl⟩ (Nat.le_of_ble_eq_true rfl) (c_X12_isPlace hN (by omega) (by omega)) ?_
    refine g_ifB_eq (tgt := 13) X dX12_protect_6 rfl rfl (fun h6 => ?_) (fun h6 => ?_)
    · skip
      refine g_iconst X dX12_protect_13 rfl ?_
      exact ci1 _ (by omega)
    · skip
      refine g_iconst X dX12_protect_9 rfl ?_
      refine g_goto (pc' := 14) X dX12_protect_10 rfl ?_
      exact ci1 _ (by omega)
  · skip
    refine g_iV1_v X w_X12_holds ml_X12_158 dX12_protect_14 rfl (n40 hN) (en40 _ _ _ _) ⟨⟨Nat.le_of_ble_eq_true rfl, Nat.le_of_ble_eq_true rfl⟩, Nat.le_of_ble_eq_true rfl, Nat.le_of_ble_eq_true rfl⟩ (Nat.le_of_ble_eq_true rfl) (c_X12_holds hN (by omega)) ?_
    refine g_ifB_eq (tgt := 22) X dX12_protect_17 rfl rfl (fun h17 => ?_) (fun h17 => ?_)
    · skip
      have w0 : (if 0 ≤ p ∧ p < (C.1 10 0 0 0) then 0 else 1 : Int) = 0 := by omega
      rw [w0]
      have me := hE.me p (by omega) (by omega)
      have pr := hE.pr p (by omega) (by omega)
      have z72 : (((setI M 40 46 0 0 0)).1 72 0 0 p) = (M.1 72 0 0 p) := rfl
      refine g_cutB 37 ((C.1 31 5 p 0) = 1) (fun ct22 cf22 => ?_) ?_
      · skip
        refine g_aload_n X dX12_protect_22 rfl rfl ?_
        refine g_get X ci12 (n40 hN) (en40 _ _ _ _) (by decide) fl_X12_111 rfl dX12_protect_23 rfl ?_
        refine g_iload_n X dX12_protect_26 rfl rfl ?_
        refine g_iald X dX12_protect_27 rfl (n72 hN) (en72 _ _ _ _) (t0 := 0) rfl (by first | omega | (simp only [setI_1, setL_1, setI_2, setL_2]; omega) | (simp only [setI_1, setL_1, setI_2, setL_2]; simp; omega)) (by first | omega | (simp only [setI_1, setL_1, setI_2, setL_2]; omega) | (simp only [setI_1, setL_1, setI_2, setL_2]; simp; omega)) (by decide) (fun r27 => ?_)
        refine g_int (b := M.1 72 0 0 p) rfl ?_
        have r27x := hM 72 0 0 p
        refine g_iconst X dX12_protect_28 rfl ?_
        refine g_icmp_ne (tgt := 36) X dX12_protect_29 rfl rfl (by first | omega | (simp only [setI_1, setL_1, setI_2, setL_2]; omega) | (simp only [setI_1, setL_1, setI_2, setL_2]; simp; omega)) (by first | omega | (simp only [setI_1, setL_1, setI_2, setL_2]; omega) | (simp only [setI_1, setL_1, setI_2, setL_2]; simp; omega)) (fun h29 => ?_) (fun h29 => ?_)
        · skip
          refine g_iconst X dX12_protect_36 rfl ?_
          exact cf22 (by omega)
        · skip
          refine g_iconst X dX12_protect_32 rfl ?_
          refine g_goto (pc' := 37) X dX12_protect_33 rfl ?_
          exact ct22 (by omega)
      · skip
        refine g_istore_3 X dX12_protect_37 rfl (lt_kN hNL rfl) rfl ?_
        refine g_aload_n X dX12_protect_38 rfl rfl ?_
        refine g_get X ci12 (n40 hN) (en40 _ _ _ _) (by decide) fl_X12_111 rfl dX12_protect_39 rfl ?_
        refine g_iload_n X dX12_protect_42 rfl rfl ?_
        refine g_cutB 52 (P) (fun ct43 cf43 => ?_) ?_
        · skip
          refine g_iload_n X dX12_protect_43 rfl rfl ?_
          refine g_ifB_eq (tgt := 51) X dX12_protect_44 rfl rfl (fun h44 => ?_) (fun h44 => ?_)
          · skip
            refine g_iconst X dX12_protect_51 rfl ?_
            exact cf43 (by assumption)
          · skip
            refine g_iconst X dX12_protect_47 rfl ?_
            refine g_goto (pc' := 52) X dX12_protect_48 rfl ?_
            exact ct43 (by assumption)
        · skip
          refine g_iast X (n72 hN) (en72 _ _ _ _) (en72 _ _ _ _) (t0 := 0) rfl (by first | omega | (simp only [setI_1, setL_1, setI_2, setL_2]; omega) | (simp only [setI_1, setL_1, setI_2, setL_2]; simp; omega)) (by first | omega | (simp only [setI_1, setL_1, setI_2, setL_2]; omega) | (simp only [setI_1, setL_1, setI_2, setL_2]; simp; omega)) (by decide) (bI_rng _) dX12_protect_52 rfl ?_
          refine g_iload_n X dX12_protect_53 rfl rfl ?_
          refine g_int (b := (C.1 31 5 p 0)) (by rcases pr.1 with z | z <;> rw [z] <;> first | exact bI_f (by decide) | exact bI_t rfl) ?_
          exact g_ret Y dX12_protect_54 ⟨_, pr.1, rfl⟩ (pRo w0 rfl)
    · skip
      refine g_iconst X dX12_protect_20 rfl ?_
      exact g_ret Y dX12_protect_21 okZ0 (pRx (by assumption))
set_option maxRecDepth 100000 in
set_option maxHeartbeats 4000000 in
theorem c_X12_seen {δ : Dx} {nm : List (Nat × Int)} {ad : Ad} {M : Mem} {C : Mem} {p : Int} (hN : NmOk nm) (hE : RelE C M) (rp : rng p) : Ct δ md_X12_seen 0 0 nm ad M [.ref (ad 40 0), .int (iI p)] (pRf (if 0 ≤ p ∧ p < (C.1 10 0 0 0) then 0 else 1) (.long (-1)) (.long (C.2 31 4 p 0)) ad M (fun M' => M' = (setI M 40 46 0 0 0))) := by
  refine Ct_of (ins := .lreturn) (ok := okL) [some (.ref (ad 40 0)), some (.int (iI p))] (by decide +kernel) rfl (Nat.le_of_ble_eq_true rfl) (fun κ s hs X hr hQ hδ => endL rfl hs X hr hQ hδ) (fun κ X hNL hδ Y => ?_)
  refine g_rm (fun hM => ?_)
  have ec := hE.ec
  have ee := hE.e
  have li := hE.li
  refine g_aload_n X dX12_seen_0 rfl rfl ?_
  refine g_cutI 14 (if 0 ≤ p ∧ p < (C.1 10 0 0 0) then 0 else 1) (fun ci1 => ?_) ?_
  · skip
    refine g_aload_n X dX12_seen_1 rfl rfl ?_
    refine g_iload_n X dX12_seen_2 rfl rfl ?_
    refine g_iV1_v X w_X12_isPlace ml_X12_255 dX12_seen_3 rfl (n40 hN) (en40 _ _ _ _) ⟨⟨Nat.le_of_ble_eq_true rfl, Nat.le_of_ble_eq_true rfl⟩, Nat.le_of_ble_eq_true rfl, Nat.le_of_ble_eq_true rfl⟩ (Nat.le_of_ble_eq_true rfl) (c_X12_isPlace hN (by omega) (by omega)) ?_
    refine g_ifB_eq (tgt := 13) X dX12_seen_6 rfl rfl (fun h6 => ?_) (fun h6 => ?_)
    · skip
      refine g_iconst X dX12_seen_13 rfl ?_
      exact ci1 _ (by omega)
    · skip
      refine g_iconst X dX12_seen_9 rfl ?_
      refine g_goto (pc' := 14) X dX12_seen_10 rfl ?_
      exact ci1 _ (by omega)
  · skip
    refine g_iV1_v X w_X12_holds ml_X12_158 dX12_seen_14 rfl (n40 hN) (en40 _ _ _ _) ⟨⟨Nat.le_of_ble_eq_true rfl, Nat.le_of_ble_eq_true rfl⟩, Nat.le_of_ble_eq_true rfl, Nat.le_of_ble_eq_true rfl⟩ (Nat.le_of_ble_eq_true rfl) (c_X12_holds hN (by omega)) ?_
    refine g_ifB_eq (tgt := 26) X dX12_seen_17 rfl rfl (fun h17 => ?_) (fun h17 => ?_)
    · skip
      have w0 : (if 0 ≤ p ∧ p < (C.1 10 0 0 0) then 0 else 1 : Int) = 0 := by omega
      rw [w0]
      have me := hE.me p (by omega) (by omega)
      refine g_aload_n X dX12_seen_26 rfl rfl ?_
      refine g_get X ci12 (n40 hN) (en40 _ _ _ _) (by decide) fl_X12_108 rfl dX12_seen_27 rfl ?_
      refine g_iload_n X dX12_seen_30 rfl rfl ?_
      refine g_lald X dX12_seen_31 rfl (n71 hN) (en71 _ _ _ _) (t0 := 1) rfl (by first | omega | (simp only [setI_1, setL_1, setI_2, setL_2]; omega) | (simp only [setI_1, setL_1, setI_2, setL_2]; simp; omega)) (by first | omega | (simp only [setI_1, setL_1, setI_2, setL_2]; omega) | (simp only [setI_1, setL_1, setI_2, setL_2]; simp; omega)) (by decide) ?_
      refine g_lng (b := M.2 71 0 0 p) rfl ?_
      first
        | exact g_ret Y dX12_seen_32 ⟨_, rfl⟩ (pRx (by assumption))
        | (refine g_lng (b := (C.2 31 4 p 0)) (me.2.2.2.2.1) ?_
           exact g_ret Y dX12_seen_32 ⟨_, rfl⟩ (pRo w0 rfl))
    · skip
      refine g_ldc2 X dX12_seen_20 rfl kc_X12_266 ?_
      refine g_goto (pc' := 32) X dX12_seen_23 rfl ?_
      first
        | exact g_ret Y dX12_seen_32 ⟨_, rfl⟩ (pRx (by assumption))
        | (refine g_lng (b := (C.2 31 4 p 0)) (me.2.2.2.2.1) ?_
           exact g_ret Y dX12_seen_32 ⟨_, rfl⟩ (pRo w0 rfl))
set_option maxRecDepth 100000 in
set_option maxHeartbeats 4000000 in
theorem c_X12_sum {δ : Dx} {nm : List (Nat × Int)} {ad : Ad} {M : Mem} {C : Mem} {b : Int} (hN : NmOk nm) (hE : RelE C M) (rb : rng b) : Ct δ md_X12_sum 0 0 nm ad M [.ref (ad 40 0), .int (iI b)] (pRf 0 (.long 0) (.long (csm C b ((C.1 10 0 0 0)).toNat)) ad M (fun M' => M' = (setI M 40 46 0 0 0))) := by
  refine Ct_of (ins := .lreturn) (ok := okL) [some (.ref (ad 40 0)), some (.int (iI b)), none, none, none] (by decide +kernel) rfl (Nat.le_of_ble_eq_true rfl) (fun κ s hs X hr hQ hδ => endL rfl hs X hr hQ hδ) (fun κ X hNL hδ Y => ?_)
  refine g_rm (fun hM => ?_)
  have ec := hE.ec
  have ee := hE.e
  have li := hE.li
  refine g_aload_n X dX12_sum_0 rfl rfl ?_
  refine g_iconst X dX12_sum_1 rfl ?_
  refine g_iV1_v X w_X12_holds ml_X12_158 dX12_sum_2 rfl (n40 hN) (en40 _ _ _ _) ⟨⟨Nat.le_of_ble_eq_true rfl, Nat.le_of_ble_eq_true rfl⟩, Nat.le_of_ble_eq_true rfl, Nat.le_of_ble_eq_true rfl⟩ (Nat.le_of_ble_eq_true rfl) (c_X12_holds hN (by omega)) ?_
  refine g_pop X dX12_sum_5 rfl rfl ?_
  refine g_ldc2 X dX12_sum_6 rfl kc_X12_302 ?_
  refine g_lstore_2 X dX12_sum_9 rfl (lt_kN hNL rfl) rfl ?_
  refine g_iconst X dX12_sum_10 rfl ?_
  refine g_istore_4 X dX12_sum_11 rfl (lt_kN hNL rfl) rfl ?_
  have lp13 : ∀ (k : Int) (k0 : 0 ≤ k) (k1 : k ≤ (C.1 10 0 0 0)), G κ nm ad (setI M 40 46 0 0 0) 13 [some (.ref (ad 40 0)), some (.int (iI b)), some (.long (csm C b k.toNat)), none, some (.int (iI k))] [] 0 0 := by
    refine ind1 (fun k => (120 - k).toNat) ?_
    intro k ih13 k0 k1
    refine g_rm (fun hM13 => ?_)
    have e39 : (((setI M 40 46 0 0 0)).1 40 39 0 0) = (C.1 10 0 0 0) := ee.1
    refine g_iload X dX12_sum_13 rfl rfl ?_
    refine g_aload_n X dX12_sum_15 rfl rfl ?_
    refine g_getI X ci12 (n40 hN) (en40 _ _ _ _) (by decide) fl_X12_249 rfl dX12_sum_16 rfl (fun r16 => ?_)
    refine g_icmp_ge (tgt := 56) X dX12_sum_19 rfl rfl (by omega) (by omega) (fun h19 => ?_) (fun h19 => ?_)
    · skip
      refine g_lload_n X dX12_sum_56 rfl rfl ?_
      rw [show k = (C.1 10 0 0 0) by omega]
      exact g_ret Y dX12_sum_57 ⟨_, rfl⟩ (pRo rfl rfl)
    · skip
      have me := hE.me k k0 (by omega)
      have cs := csm_s C b k0
      have e70 : (((setI M 40 46 0 0 0)).2 70 0 0 k) = (C.2 31 3 k 0) := me.2.2.2.1
      have e71 : (((setI M 40 46 0 0 0)).2 71 0 0 k) = (C.2 31 4 k 0) := me.2.2.2.2.1
      refine g_lload_n X dX12_sum_22 rfl rfl ?_
      refine g_iload_n X dX12_sum_23 rfl rfl ?_
      refine g_if_eq (tgt := 37) X dX12_sum_24 rfl rfl (by omega) (fun h24 => ?_) (fun h24 => ?_)
      · skip
        refine g_aload_n X dX12_sum_37 rfl rfl ?_
        refine g_get X ci12 (n40 hN) (en40 _ _ _ _) (by decide) fl_X12_105 rfl dX12_sum_38 rfl ?_
        refine g_iload X dX12_sum_41 rfl rfl ?_
        refine g_lald X dX12_sum_43 rfl (n70 hN) (en70 _ _ _ _) (t0 := 1) rfl (by omega) (by omega) (by decide) ?_
        refine g_lng (b := if b = 0 then (C.2 31 3 k 0) else (C.2 31 4 k 0)) (by first | (rw [if_pos (by assumption)]; first | exact e70 | exact e71) | (rw [if_neg (by assumption)]; first | exact e70 | exact e71)) ?_
        refine g_lxor X dX12_sum_44 rfl ?_
        refine g_ldc2 X dX12_sum_45 rfl kc_X12_304 ?_
        refine g_lmul X dX12_sum_48 rfl ?_
        refine g_lstore_2 X dX12_sum_49 rfl (lt_kN hNL rfl) rfl ?_
        refine g_iinc_4 X dX12_sum_50 rfl (lt_kN hNL rfl) rfl ?_
        refine g_goto (pc' := 13) X dX12_sum_53 rfl ?_
        rw [← cs]
        exact ih13 (k + 1) (by omega) (by omega) (by omega)
      · skip
        refine g_aload_n X dX12_sum_27 rfl rfl ?_
        refine g_get X ci12 (n40 hN) (en40 _ _ _ _) (by decide) fl_X12_108 rfl dX12_sum_28 rfl ?_
        refine g_iload X dX12_sum_31 rfl rfl ?_
        refine g_lald X dX12_sum_33 rfl (n71 hN) (en71 _ _ _ _) (t0 := 1) rfl (by omega) (by omega) (by decide) ?_
        refine g_goto (pc' := 44) X dX12_sum_34 rfl ?_
        refine g_lng (b := if b = 0 then (C.2 31 3 k 0) else (C.2 31 4 k 0)) (by first | (rw [if_pos (by assumption)]; first | exact e70 | exact e71) | (rw [if_neg (by assumption)]; first | exact e70 | exact e71)) ?_
        refine g_lxor X dX12_sum_44 rfl ?_
        refine g_ldc2 X dX12_sum_45 rfl kc_X12_304 ?_
        refine g_lmul X dX12_sum_48 rfl ?_
        refine g_lstore_2 X dX12_sum_49 rfl (lt_kN hNL rfl) rfl ?_
        refine g_iinc_4 X dX12_sum_50 rfl (lt_kN hNL rfl) rfl ?_
        refine g_goto (pc' := 13) X dX12_sum_53 rfl ?_
        rw [← cs]
        exact ih13 (k + 1) (by omega) (by omega) (by omega)
  exact lp13 0 (by omega) (by omega)
theorem absI_b {a b : Int} (ha : 0 ≤ a ∧ a ≤ 255) (hb : 0 ≤ b ∧ b ≤ 255) : 0 ≤ absI (a - b) ∧ absI (a - b) ≤ 255 := by
  unfold absI
  omega
theorem liv_n (M : Mem) (k : Int) : ∀ j, 0 ≤ bI (liv M k j) ∧ bI (liv M k j) ≤ 1 := fun _ => bI_b _
/-- change c is the last one of its frame -/
def lasC (M : Mem) (c k : Int) : Prop := ∀ j, c < j → j < k → (M.1 76 0 0 j) = 1 ∨ (M.1 74 0 0 j) ≠ (M.1 74 0 0 c)
def chgM (M : Mem) (k : Int) (x : Int64) : Prop := x ≠ (M.2 71 0 0 k) ∧ unl x (M.2 70 0 0 k) ≤ (M.1 40 40 0 0)
def chM (M : Mem) (k : Int) (x : Int64) : Mem := setL (setI (setI (setL (setI M 74 0 0 (M.1 40 44 0 0) k) 75 0 0 (M.1 40 44 0 0) (M.2 71 0 0 k)) 76 0 0 (M.1 40 44 0 0) 0) 40 44 0 0 ((M.1 40 44 0 0) + 1)) 71 0 0 k x
def tbM (M : Mem) (c : Int) : Mem := setL (setI M 76 0 0 c 1) 71 0 0 (M.1 74 0 0 c) (M.2 75 0 0 c)
theorem RelK.last {C M : Mem} {n c : Int} (hK : RelK n C M) (c0 : 0 ≤ c) (c1 : c < (C.1 12 0 0 0)) : ((M.1 76 0 0 c) ≠ 1 ∧ lasC M c (C.1 12 0 0 0)) ↔ (C.1 31 7 ((C.1 13 0 0 c)) 0) = c := by
  obtain ⟨p1, p2, p3, p4, p5⟩ := hK.mj c c0 c1
  obtain ⟨k1, k2⟩ := hK.nk (C.1 13 0 0 c) p1.1 p1.2
  rw [k2]
  constructor
  · rintro ⟨a, b⟩
    refine lst_is _ c0 c1 ⟨by omega, p2⟩ (fun j h1 h2 q => ?_)
    have q1 := q.1
    have q2 := q.2
    rcases b j h1 h2 with z | z <;> omega
  · intro h
    obtain ⟨a, b, d⟩ := lst_at (liv M (C.1 13 0 0 c)) ((C.1 12 0 0 0)).toNat c c0 h
    have b1 := b.1
    refine ⟨by omega, fun j h1 h2 => ?_⟩
    have := d j h1 (by omega)
    obtain ⟨-, -, -, y, -⟩ := hK.mj j (by omega) h2
    rcases y with y | y
    · right
      intro z
      exact this ⟨y, by omega⟩
    · left; exact y
set_option maxRecDepth 100000 in
set_option maxHeartbeats 4000000 in
theorem c_X12_changesOf {δ : Dx} {nm : List (Nat × Int)} {ad : Ad} {M : Mem} {C : Mem} {n : Int} {p : Int} (hN : NmOk nm) (hK : RelK n C M) (n0 : 0 ≤ n ∧ n ≤ 511) (p0 : 0 ≤ p) (p1 : p < (C.1 10 0 0 0)) (rp : rng p) : Ct δ md_X12_changesOf 0 0 nm ad M [.ref (ad 40 0), .int (iI p)] (pV (.int (iI (C.1 31 6 p 0))) ad M) := by
  refine Ct_of (ins := .ireturn) (ok := okI) [some (.ref (ad 40 0)), some (.int (iI p)), none, none] (by decide +kernel) rfl (Nat.le_of_ble_eq_true rfl) (fun κ s hs X hr hQ hδ => endI rfl hs X hr hQ hδ) (fun κ X hNL hδ Y => ?_)
  refine g_rm (fun hM => ?_)
  have kc := hK.cc
  have ke := hK.e
  have nk := (hK.nk p p0 p1).1
  refine g_iconst X dX12_changesOf_0 rfl ?_
  refine g_istore_2 X dX12_changesOf_1 rfl (lt_kN hNL rfl) rfl ?_
  refine g_iconst X dX12_changesOf_2 rfl ?_
  refine g_istore_3 X dX12_changesOf_3 rfl (lt_kN hNL rfl) rfl ?_
  have lp4 : ∀ (a : Int) (j : Int) (j0 : 0 ≤ j) (j1 : j ≤ (C.1 12 0 0 0)) (ha : a = sm (fun j => bI (liv M p j)) 0 j), G κ nm ad M 4 [some (.ref (ad 40 0)), some (.int (iI p)), some (.int (iI a)), some (.int (iI j))] [] 0 0 := by
    refine ind2 (fun a j => (61440 - j).toNat) ?_
    intro a j ih4 j0 j1 ha
    refine g_rm (fun hM4 => ?_)
    have ps := sm_s (fun j => bI (liv M p j)) (lo := 0) (hi := j) j0
    refine g_iload_n X dX12_changesOf_4 rfl rfl ?_
    refine g_aload_n X dX12_changesOf_5 rfl rfl ?_
    refine g_getI X ci12 (n40 hN) (en40 _ _ _ _) (by decide) fl_X12_252 rfl dX12_changesOf_6 rfl (fun r6 => ?_)
    refine g_icmp_ge (tgt := 45) X dX12_changesOf_9 rfl rfl (by omega) (by omega) (fun h9 => ?_) (fun h9 => ?_)
    · skip
      refine g_iload_n X dX12_changesOf_45 rfl rfl ?_
      exact g_ret Y dX12_changesOf_46 ⟨_, rfl⟩ (pVI (by rw [ha, nk, show j = (C.1 12 0 0 0) by omega]))
    · skip
      refine g_iload_n X dX12_changesOf_12 rfl rfl ?_
      refine g_cutB 37 (liv M p j) (fun ct13 cf13 => ?_) ?_
      · skip
        refine g_aload_n X dX12_changesOf_13 rfl rfl ?_
        refine g_get X ci12 (n40 hN) (en40 _ _ _ _) (by decide) fl_X12_127 rfl dX12_changesOf_14 rfl ?_
        refine g_iload_n X dX12_changesOf_17 rfl rfl ?_
        refine g_iald X dX12_changesOf_18 rfl (n76 hN) (en76 _ _ _ _) (t0 := 0) rfl (by omega) (by omega) (by decide) (fun r18 => ?_)
        refine g_if_ne (tgt := 36) X dX12_changesOf_19 rfl rfl (by omega) (fun h19 => ?_) (fun h19 => ?_)
        · skip
          refine g_iconst X dX12_changesOf_36 rfl ?_
          exact cf13 (by unfold liv; omega)
        · skip
          refine g_aload_n X dX12_changesOf_22 rfl rfl ?_
          refine g_get X ci12 (n40 hN) (en40 _ _ _ _) (by decide) fl_X12_121 rfl dX12_changesOf_23 rfl ?_
          refine g_iload_n X dX12_changesOf_26 rfl rfl ?_
          refine g_iald X dX12_changesOf_27 rfl (n74 hN) (en74 _ _ _ _) (t0 := 0) rfl (by omega) (by omega) (by decide) (fun r27 => ?_)
          refine g_iload_n X dX12_changesOf_28 rfl rfl ?_
          refine g_icmp_ne (tgt := 36) X dX12_changesOf_29 rfl rfl (by omega) (by omega) (fun h29 => ?_) (fun h29 => ?_)
          · skip
            refine g_iconst X dX12_changesOf_36 rfl ?_
            exact cf13 (by unfold liv; omega)
          · skip
            refine g_iconst X dX12_changesOf_32 rfl ?_
            refine g_goto (pc' := 37) X dX12_changesOf_33 rfl ?_
            exact ct13 (by unfold liv; omega)
      · skip
        refine g_iadd X dX12_changesOf_37 rfl ?_
        refine g_istore_2 X dX12_changesOf_38 rfl (lt_kN hNL rfl) rfl ?_
        refine g_iinc_3 X dX12_changesOf_39 rfl (lt_kN hNL rfl) rfl ?_
        refine g_goto (pc' := 4) X dX12_changesOf_42 rfl ?_
        exact ih4 _ (j + 1) (by omega) (by omega) (by omega) (by rw [ps, ha])
  exact lp4 0 0 (by omega) (by omega) (sm_0 _ (by omega)).symm
set_option maxRecDepth 100000 in
set_option maxHeartbeats 4000000 in
theorem c_X12_isLast {δ : Dx} {nm : List (Nat × Int)} {ad : Ad} {M : Mem} {C : Mem} {n : Int} {c : Int} (hN : NmOk nm) (hK : RelK n C M) (n0 : 0 ≤ n ∧ n ≤ 511) (c0 : 0 ≤ c) (c1 : c < (C.1 12 0 0 0)) : Ct δ md_X12_isLast 0 0 nm ad M [.ref (ad 40 0), .int (iI c)] (pV (.int (iI (bI (lasC M c (C.1 12 0 0 0))))) ad M) := by
  refine Ct_of (ins := .ireturn) (ok := okZ) [some (.ref (ad 40 0)), some (.int (iI c)), none, none] (by decide +kernel) rfl (Nat.le_of_ble_eq_true rfl) (fun κ s hs X hr hQ hδ => endZ rfl hs X hr hQ hδ) (fun κ X hNL hδ Y => ?_)
  refine g_rm (fun hM => ?_)
  have kc := hK.cc
  have ke := hK.e
  refine g_iconst X dX12_isLast_0 rfl ?_
  refine g_istore_2 X dX12_isLast_1 rfl (lt_kN hNL rfl) rfl ?_
  refine g_iload_n X dX12_isLast_2 rfl rfl ?_
  refine g_iconst X dX12_isLast_3 rfl ?_
  refine g_iadd X dX12_isLast_4 rfl ?_
  refine g_istore_3 X dX12_isLast_5 rfl (lt_kN hNL rfl) rfl ?_
  refine g_of (a := [some (.ref (ad 40 0)), some (.int (iI c)), some (.int (iI (bI (lasC M c (c + 1))))), some (.int (iI (c + 1)))]) (fun k v h => by rw [← h, bI_t (P := lasC M c (c + 1)) (fun d h1 h2 => absurd h2 (by omega))]) ?_
  have lp6 : ∀ (k : Int) (k0 : c < k) (k1 : k ≤ (C.1 12 0 0 0)), G κ nm ad M 6 [some (.ref (ad 40 0)), some (.int (iI c)), some (.int (iI (bI (lasC M c k)))), some (.int (iI k))] [] 0 0 := by
    refine ind1 (fun k => (61440 - k).toNat) ?_
    intro k ih6 k0 k1
    refine g_rm (fun hM6 => ?_)
    refine g_iload_n X dX12_isLast_6 rfl rfl ?_
    refine g_aload_n X dX12_isLast_7 rfl rfl ?_
    refine g_getI X ci12 (n40 hN) (en40 _ _ _ _) (by decide) fl_X12_252 rfl dX12_isLast_8 rfl (fun r8 => ?_)
    refine g_icmp_ge (tgt := 53) X dX12_isLast_11 rfl rfl (by omega) (by omega) (fun h11 => ?_) (fun h11 => ?_)
    · skip
      refine g_iload_n X dX12_isLast_53 rfl rfl ?_
      rw [show k = (C.1 12 0 0 0) by omega]
      exact g_ret Y dX12_isLast_54 okZb ⟨rfl, rfl, rfl⟩
    · skip
      refine g_iload_n X dX12_isLast_14 rfl rfl ?_
      refine g_cutB 45 ((M.1 76 0 0 k) = 1 ∨ (M.1 74 0 0 k) ≠ (M.1 74 0 0 c)) (fun ct15 cf15 => ?_) ?_
      · skip
        refine g_aload_n X dX12_isLast_15 rfl rfl ?_
        refine g_get X ci12 (n40 hN) (en40 _ _ _ _) (by decide) fl_X12_127 rfl dX12_isLast_16 rfl ?_
        refine g_iload_n X dX12_isLast_19 rfl rfl ?_
        refine g_iald X dX12_isLast_20 rfl (n76 hN) (en76 _ _ _ _) (t0 := 0) rfl (by omega) (by omega) (by decide) (fun r20 => ?_)
        refine g_iconst X dX12_isLast_21 rfl ?_
        refine g_icmp_eq (tgt := 40) X dX12_isLast_22 rfl rfl (by omega) (by omega) (fun h22 => ?_) (fun h22 => ?_)
        · skip
          refine g_iconst X dX12_isLast_40 rfl ?_
          refine g_goto (pc' := 45) X dX12_isLast_41 rfl ?_
          exact ct15 (by first | omega | exact Or.inl (by assumption) | exact Or.inr (by assumption))
        · skip
          refine g_aload_n X dX12_isLast_25 rfl rfl ?_
          refine g_get X ci12 (n40 hN) (en40 _ _ _ _) (by decide) fl_X12_121 rfl dX12_isLast_26 rfl ?_
          refine g_iload_n X dX12_isLast_29 rfl rfl ?_
          refine g_iald X dX12_isLast_30 rfl (n74 hN) (en74 _ _ _ _) (t0 := 0) rfl (by omega) (by omega) (by decide) (fun r30 => ?_)
          refine g_aload_n X dX12_isLast_31 rfl rfl ?_
          refine g_get X ci12 (n40 hN) (en40 _ _ _ _) (by decide) fl_X12_121 rfl dX12_isLast_32 rfl ?_
          refine g_iload_n X dX12_isLast_35 rfl rfl ?_
          refine g_iald X dX12_isLast_36 rfl (n74 hN) (en74 _ _ _ _) (t0 := 0) rfl (by omega) (by omega) (by decide) (fun r36 => ?_)
          refine g_icmp_eq (tgt := 44) X dX12_isLast_37 rfl rfl (by omega) (by omega) (fun h37 => ?_) (fun h37 => ?_)
          · skip
            refine g_iconst X dX12_isLast_44 rfl ?_
            exact cf15 (by first | omega | exact Or.inl (by assumption) | exact Or.inr (by assumption))
          · skip
            refine g_iconst X dX12_isLast_40 rfl ?_
            refine g_goto (pc' := 45) X dX12_isLast_41 rfl ?_
            exact ct15 (by first | omega | exact Or.inl (by assumption) | exact Or.inr (by assumption))
      · skip
        refine g_iand X dX12_isLast_45 rfl (bI_and _ _) ?_
        refine g_istore_2 X dX12_isLast_46 rfl (lt_kN hNL rfl) rfl ?_
        refine g_iinc_3 X dX12_isLast_47 rfl (lt_kN hNL rfl) rfl ?_
        refine g_goto (pc' := 6) X dX12_isLast_50 rfl ?_
        rw [bI_c (show (lasC M c k ∧ ((M.1 76 0 0 k) = 1 ∨ (M.1 74 0 0 k) ≠ (M.1 74 0 0 c))) ↔ lasC M c (k + 1) from ⟨fun q g g0 g1 => by
          by_cases e : g = k
          · rw [e]; exact q.2
          · exact q.1 g g0 (by omega), fun q => ⟨fun g g0 g1 => q g g0 (by omega), q k k0 (by omega)⟩⟩)]
        exact ih6 (k + 1) (by omega) (by omega) (by omega)
  exact lp6 (c + 1) (by omega) (by omega)
set_option maxRecDepth 100000 in
set_option maxHeartbeats 4000000 in
theorem c_X12_takeBack {δ : Dx} {nm : List (Nat × Int)} {ad : Ad} {M : Mem} {C : Mem} {n : Int} {c : Int} (hN : NmOk nm) (hE : RelE C M) (hK : RelK n C M) (n0 : 0 ≤ n ∧ n ≤ 511) (rc : rng c) : Ct δ md_X12_takeBack 0 0 nm ad M [.ref (ad 40 0), .int (iI c)] (pRf (if ¬ (0 ≤ c ∧ c < (C.1 12 0 0 0)) then 1 else if (C.1 31 7 ((C.1 13 0 0 c)) 0) = c then 0 else 2) (.int (iI (-1))) (.int (iI (C.1 13 0 0 c))) ad M (fun M' => M' = tbM (setI M 40 46 0 0 0) c)) := by
  refine Ct_of (ins := .ireturn) (ok := okI) [some (.ref (ad 40 0)), some (.int (iI c)), none] (by decide +kernel) rfl (Nat.le_of_ble_eq_true rfl) (fun κ s hs X hr hQ hδ => endI rfl hs X hr hQ hδ) (fun κ X hNL hδ Y => ?_)
  refine g_rm (fun hM => ?_)
  have kc := hK.cc
  have ke := hK.e
  have ec := hE.ec
  refine g_aload_n X dX12_takeBack_0 rfl rfl ?_
  refine g_iload_n X dX12_takeBack_1 rfl rfl ?_
  refine g_iconst X dX12_takeBack_2 rfl ?_
  refine g_aload_n X dX12_takeBack_3 rfl rfl ?_
  refine g_getI X ci12 (n40 hN) (en40 _ _ _ _) (by decide) fl_X12_252 rfl dX12_takeBack_4 rfl (fun r4 => ?_)
  refine g_iconst X dX12_takeBack_7 rfl ?_
  refine g_isub X dX12_takeBack_8 rfl ?_
  refine g_iV3_v X w_X12_in ml_X12_146 dX12_takeBack_9 rfl (n40 hN) (en40 _ _ _ _) ⟨⟨Nat.le_of_ble_eq_true rfl, Nat.le_of_ble_eq_true rfl⟩, Nat.le_of_ble_eq_true rfl, Nat.le_of_ble_eq_true rfl⟩ (Nat.le_of_ble_eq_true rfl) (c_X12_in hN (by omega) (by omega) (by omega)) ?_
  refine g_istore_2 X dX12_takeBack_12 rfl (lt_kN hNL rfl) rfl ?_
  refine g_aload_n X dX12_takeBack_13 rfl rfl ?_
  refine g_cutI 45 (if ¬ (0 ≤ c ∧ c < (C.1 12 0 0 0)) then 1 else if (C.1 31 7 ((C.1 13 0 0 c)) 0) = c then 0 else 2) (fun ci14 => ?_) ?_
  · skip
    refine g_iload_n X dX12_takeBack_14 rfl rfl ?_
    refine g_ifB_ne (tgt := 22) X dX12_takeBack_15 rfl rfl (fun h15 => ?_) (fun h15 => ?_)
    · skip
      have la := hK.last (c := c) (by omega) (by omega)
      refine g_aload_n X dX12_takeBack_22 rfl rfl ?_
      refine g_get X ci12 (n40 hN) (en40 _ _ _ _) (by decide) fl_X12_127 rfl dX12_takeBack_23 rfl ?_
      refine g_iload_n X dX12_takeBack_26 rfl rfl ?_
      refine g_iald X dX12_takeBack_27 rfl (n76 hN) (en76 _ _ _ _) (t0 := 0) rfl (by omega) (by omega) (by decide) (fun r27 => ?_)
      refine g_iconst X dX12_takeBack_28 rfl ?_
      refine g_icmp_eq (tgt := 40) X dX12_takeBack_29 rfl rfl (by omega) (by omega) (fun h29 => ?_) (fun h29 => ?_)
      · skip
        refine g_iconst X dX12_takeBack_40 rfl ?_
        refine g_goto (pc' := 45) X dX12_takeBack_41 rfl ?_
        exact ci14 _ (by first | omega | (have q := la.mp ⟨by assumption, by assumption⟩; omega) | (have q : ¬ (C.1 31 7 ((C.1 13 0 0 c)) 0) = c := fun z => absurd (la.mpr z).2 (by assumption); omega) | (have q : ¬ (C.1 31 7 ((C.1 13 0 0 c)) 0) = c := fun z => absurd (by assumption) (la.mpr z).1; omega))
      · skip
        refine g_aload_n X dX12_takeBack_32 rfl rfl ?_
        refine g_iload_n X dX12_takeBack_33 rfl rfl ?_
        refine g_iV1_v X w_X12_isLast ml_X12_296 dX12_takeBack_34 rfl (n40 hN) (en40 _ _ _ _) ⟨⟨Nat.le_of_ble_eq_true rfl, Nat.le_of_ble_eq_true rfl⟩, Nat.le_of_ble_eq_true rfl, Nat.le_of_ble_eq_true rfl⟩ (Nat.le_of_ble_eq_true rfl) (c_X12_isLast hN hK n0 (by omega) (by omega)) ?_
        refine g_ifB_ne (tgt := 44) X dX12_takeBack_37 rfl rfl (fun h37 => ?_) (fun h37 => ?_)
        · skip
          refine g_iconst X dX12_takeBack_44 rfl ?_
          exact ci14 _ (by first | omega | (have q := la.mp ⟨by assumption, by assumption⟩; omega) | (have q : ¬ (C.1 31 7 ((C.1 13 0 0 c)) 0) = c := fun z => absurd (la.mpr z).2 (by assumption); omega) | (have q : ¬ (C.1 31 7 ((C.1 13 0 0 c)) 0) = c := fun z => absurd (by assumption) (la.mpr z).1; omega))
        · skip
          refine g_iconst X dX12_takeBack_40 rfl ?_
          refine g_goto (pc' := 45) X dX12_takeBack_41 rfl ?_
          exact ci14 _ (by first | omega | (have q := la.mp ⟨by assumption, by assumption⟩; omega) | (have q : ¬ (C.1 31 7 ((C.1 13 0 0 c)) 0) = c := fun z => absurd (la.mpr z).2 (by assumption); omega) | (have q : ¬ (C.1 31 7 ((C.1 13 0 0 c)) 0) = c := fun z => absurd (by assumption) (la.mpr z).1; omega))
    · skip
      refine g_iconst X dX12_takeBack_18 rfl ?_
      refine g_goto (pc' := 45) X dX12_takeBack_19 rfl ?_
      exact ci14 _ (by first | omega | (have q := la.mp ⟨by assumption, by assumption⟩; omega) | (have q : ¬ (C.1 31 7 ((C.1 13 0 0 c)) 0) = c := fun z => absurd (la.mpr z).2 (by assumption); omega) | (have q : ¬ (C.1 31 7 ((C.1 13 0 0 c)) 0) = c := fun z => absurd (by assumption) (la.mpr z).1; omega))
  · skip
    refine g_iV1_v X w_X12_holds ml_X12_158 dX12_takeBack_45 rfl (n40 hN) (en40 _ _ _ _) ⟨⟨Nat.le_of_ble_eq_true rfl, Nat.le_of_ble_eq_true rfl⟩, Nat.le_of_ble_eq_true rfl, Nat.le_of_ble_eq_true rfl⟩ (Nat.le_of_ble_eq_true rfl) (c_X12_holds hN (by omega)) ?_
    refine g_ifB_eq (tgt := 53) X dX12_takeBack_48 rfl rfl (fun h48 => ?_) (fun h48 => ?_)
    · skip
      have w0 : (if ¬ (0 ≤ c ∧ c < (C.1 12 0 0 0)) then 1 else if (C.1 31 7 ((C.1 13 0 0 c)) 0) = c then 0 else 2 : Int) = 0 := by omega
      rw [w0]
      have mj := hK.mj c (by omega) (by omega)
      have z74 : (((setI M 40 46 0 0 0)).1 74 0 0 c) = (M.1 74 0 0 c) := rfl
      refine g_aload_n X dX12_takeBack_53 rfl rfl ?_
      refine g_get X ci12 (n40 hN) (en40 _ _ _ _) (by decide) fl_X12_127 rfl dX12_takeBack_54 rfl ?_
      refine g_iload_n X dX12_takeBack_57 rfl rfl ?_
      refine g_iconst X dX12_takeBack_58 rfl ?_
      refine g_iast X (n76 hN) (en76 _ _ _ _) (en76 _ _ _ _) (t0 := 0) rfl (by first | omega | (simp only [setI_1, setL_1, setI_2, setL_2]; omega) | (simp only [setI_1, setL_1, setI_2, setL_2]; simp; omega)) (by first | omega | (simp only [setI_1, setL_1, setI_2, setL_2]; omega) | (simp only [setI_1, setL_1, setI_2, setL_2]; simp; omega)) (by decide) (by first | omega | (simp only [setI_1, setL_1, setI_2, setL_2]; omega) | (simp only [setI_1, setL_1, setI_2, setL_2]; simp; omega)) dX12_takeBack_59 rfl ?_
      refine g_aload_n X dX12_takeBack_60 rfl rfl ?_
      refine g_get X ci12 (n40 hN) (en40 _ _ _ _) (by decide) fl_X12_108 rfl dX12_takeBack_61 rfl ?_
      refine g_aload_n X dX12_takeBack_64 rfl rfl ?_
      refine g_get X ci12 (n40 hN) (en40 _ _ _ _) (by decide) fl_X12_121 rfl dX12_takeBack_65 rfl ?_
      refine g_iload_n X dX12_takeBack_68 rfl rfl ?_
      refine g_iald X dX12_takeBack_69 rfl (n74 hN) (en74 _ _ _ _) (t0 := 0) rfl (by first | omega | (simp only [setI_1, setL_1, setI_2, setL_2]; omega) | (simp only [setI_1, setL_1, setI_2, setL_2]; simp; omega)) (by first | omega | (simp only [setI_1, setL_1, setI_2, setL_2]; omega) | (simp only [setI_1, setL_1, setI_2, setL_2]; simp; omega)) (by decide) (fun r69 => ?_)
      refine g_int (b := M.1 74 0 0 c) rfl ?_
      have r69x := hM 74 0 0 c
      refine g_aload_n X dX12_takeBack_70 rfl rfl ?_
      refine g_get X ci12 (n40 hN) (en40 _ _ _ _) (by decide) fl_X12_124 rfl dX12_takeBack_71 rfl ?_
      refine g_iload_n X dX12_takeBack_74 rfl rfl ?_
      refine g_lald X dX12_takeBack_75 rfl (n75 hN) (en75 _ _ _ _) (t0 := 1) rfl (by first | omega | (simp only [setI_1, setL_1, setI_2, setL_2]; omega) | (simp only [setI_1, setL_1, setI_2, setL_2]; simp; omega)) (by first | omega | (simp only [setI_1, setL_1, setI_2, setL_2]; omega) | (simp only [setI_1, setL_1, setI_2, setL_2]; simp; omega)) (by decide) ?_
      refine g_lng (b := M.2 75 0 0 c) rfl ?_
      refine g_last X (n71 hN) (en71 _ _ _ _) (en71 _ _ _ _) (t0 := 1) rfl (by first | omega | (simp only [setI_1, setL_1, setI_2, setL_2]; omega) | (simp only [setI_1, setL_1, setI_2, setL_2]; simp; omega)) (by first | omega | (simp only [setI_1, setL_1, setI_2, setL_2]; omega) | (simp only [setI_1, setL_1, setI_2, setL_2]; simp; omega)) (by decide) dX12_takeBack_76 rfl ?_
      refine g_aload_n X dX12_takeBack_77 rfl rfl ?_
      refine g_get X ci12 (n40 hN) (en40 _ _ _ _) (by decide) fl_X12_121 rfl dX12_takeBack_78 rfl ?_
      refine g_iload_n X dX12_takeBack_81 rfl rfl ?_
      refine g_iald X dX12_takeBack_82 rfl (n74 hN) (en74 _ _ _ _) (t0 := 0) rfl (by first | omega | (simp only [setI_1, setL_1, setI_2, setL_2]; omega) | (simp only [setI_1, setL_1, setI_2, setL_2]; simp; omega)) (by first | omega | (simp only [setI_1, setL_1, setI_2, setL_2]; omega) | (simp only [setI_1, setL_1, setI_2, setL_2]; simp; omega)) (by decide) (fun r82 => ?_)
      refine g_int (b := M.1 74 0 0 c) rfl ?_
      have r82x := hM 74 0 0 c
      refine g_int (b := (C.1 13 0 0 c)) (by omega) ?_
      exact g_ret Y dX12_takeBack_83 ⟨_, rfl⟩ (pRo w0 rfl)
    · skip
      refine g_iconst X dX12_takeBack_51 rfl ?_
      exact g_ret Y dX12_takeBack_52 ⟨_, rfl⟩ (pRx (by assumption))
set_option maxRecDepth 100000 in
set_option maxHeartbeats 4000000 in
theorem c_X12_ofFrame {δ : Dx} {nm : List (Nat × Int)} {ad : Ad} {M : Mem} {C : Mem} {n : Int} {p w : Int} (hN : NmOk nm) (hE : RelE C M) (hK : RelK n C M) (n0 : 0 ≤ n ∧ n ≤ 511) (rp : rng p) (rw : rng w) : Ct δ md_X12_ofFrame 0 0 nm ad M [.ref (ad 40 0), .int (iI p), .int (iI w)] (pRf (if ¬ (0 ≤ p ∧ p < (C.1 10 0 0 0)) then 1 else if 0 ≤ w ∧ w ≤ 4 then 0 else 2) (.int (iI (-1))) (.int (iI (ofFV C p w))) ad M (fun M' => M' = (setI M 40 46 0 0 0))) := by
  refine Ct_of (ins := .ireturn) (ok := okI) [some (.ref (ad 40 0)), some (.int (iI p)), some (.int (iI w))] (by decide +kernel) rfl (Nat.le_of_ble_eq_true rfl) (fun κ s hs X hr hQ hδ => endI rfl hs X hr hQ hδ) (fun κ X hNL hδ Y => ?_)
  refine g_rm (fun hM => ?_)
  have ec := hE.ec
  have ee := hE.e
  have li := hE.li
  refine g_aload_n X dX12_ofFrame_0 rfl rfl ?_
  refine g_cutI 28 (if ¬ (0 ≤ p ∧ p < (C.1 10 0 0 0)) then 1 else if 0 ≤ w ∧ w ≤ 4 then 0 else 2) (fun ci1 => ?_) ?_
  · skip
    refine g_aload_n X dX12_ofFrame_1 rfl rfl ?_
    refine g_iload_n X dX12_ofFrame_2 rfl rfl ?_
    refine g_iV1_v X w_X12_isPlace ml_X12_255 dX12_ofFrame_3 rfl (n40 hN) (en40 _ _ _ _) ⟨⟨Nat.le_of_ble_eq_true rfl, Nat.le_of_ble_eq_true rfl⟩, Nat.le_of_ble_eq_true rfl, Nat.le_of_ble_eq_true rfl⟩ (Nat.le_of_ble_eq_true rfl) (c_X12_isPlace hN (by omega) (by omega)) ?_
    refine g_ifB_ne (tgt := 13) X dX12_ofFrame_6 rfl rfl (fun h6 => ?_) (fun h6 => ?_)
    · skip
      refine g_aload_n X dX12_ofFrame_13 rfl rfl ?_
      refine g_iload_n X dX12_ofFrame_14 rfl rfl ?_
      refine g_iconst X dX12_ofFrame_15 rfl ?_
      refine g_iconst X dX12_ofFrame_16 rfl ?_
      refine g_iV3_v X w_X12_in ml_X12_146 dX12_ofFrame_17 rfl (n40 hN) (en40 _ _ _ _) ⟨⟨Nat.le_of_ble_eq_true rfl, Nat.le_of_ble_eq_true rfl⟩, Nat.le_of_ble_eq_true rfl, Nat.le_of_ble_eq_true rfl⟩ (Nat.le_of_ble_eq_true rfl) (c_X12_in hN (by omega) (by omega) (by omega)) ?_
      refine g_ifB_eq (tgt := 27) X dX12_ofFrame_20 rfl rfl (fun h20 => ?_) (fun h20 => ?_)
      · skip
        refine g_iconst X dX12_ofFrame_27 rfl ?_
        exact ci1 _ (by omega)
      · skip
        refine g_iconst X dX12_ofFrame_23 rfl ?_
        refine g_goto (pc' := 28) X dX12_ofFrame_24 rfl ?_
        exact ci1 _ (by omega)
    · skip
      refine g_iconst X dX12_ofFrame_9 rfl ?_
      refine g_goto (pc' := 28) X dX12_ofFrame_10 rfl ?_
      exact ci1 _ (by omega)
  · skip
    refine g_iV1_v X w_X12_holds ml_X12_158 dX12_ofFrame_28 rfl (n40 hN) (en40 _ _ _ _) ⟨⟨Nat.le_of_ble_eq_true rfl, Nat.le_of_ble_eq_true rfl⟩, Nat.le_of_ble_eq_true rfl, Nat.le_of_ble_eq_true rfl⟩ (Nat.le_of_ble_eq_true rfl) (c_X12_holds hN (by omega)) ?_
    refine g_ifB_eq (tgt := 36) X dX12_ofFrame_31 rfl rfl (fun h31 => ?_) (fun h31 => ?_)
    · skip
      have w0 : (if ¬ (0 ≤ p ∧ p < (C.1 10 0 0 0)) then 1 else if 0 ≤ w ∧ w ≤ 4 then 0 else 2 : Int) = 0 := by omega
      rw [w0]
      have me := hE.me p (by omega) (by omega)
      refine g_iload_n X dX12_ofFrame_36 rfl rfl ?_
      by_cases hs37 : w < 0 ∨ 3 < w
      · refine g_swOut (tgt := 106) X dX12_ofFrame_37 (by first | omega | (simp only [setI_1, setL_1, setI_2, setL_2]; omega) | (simp only [setI_1, setL_1, setI_2, setL_2]; simp; omega)) hs37 rfl ?_
        refine g_aload_n X dX12_ofFrame_106 rfl rfl ?_
        refine g_iload_n X dX12_ofFrame_107 rfl rfl ?_
        refine g_iV1_v X w_X12_changesOf ml_X12_299 dX12_ofFrame_108 rfl (n40 hN) (en40 _ _ _ _) ⟨⟨Nat.le_of_ble_eq_true rfl, Nat.le_of_ble_eq_true rfl⟩, Nat.le_of_ble_eq_true rfl, Nat.le_of_ble_eq_true rfl⟩ (Nat.le_of_ble_eq_true rfl) (c_X12_changesOf hN hK.th n0 (by omega) (by omega) (by assumption)) ?_
        have hw37 : w = 4 := by omega
        refine g_int (b := ofFV C p w) (by rw [hw37]; rfl) ?_
        exact g_ret Y dX12_ofFrame_111 ⟨_, rfl⟩ (pRo w0 rfl)
      · rcases (show w = 0 ∨ w = 1 ∨ w = 2 ∨ w = 3 by omega) with hw37 | hw37 | hw37 | hw37
        · refine g_swIn (tgt := 68) X dX12_ofFrame_37 (by first | omega | (simp only [setI_1, setL_1, setI_2, setL_2]; omega) | (simp only [setI_1, setL_1, setI_2, setL_2]; simp; omega)) (by omega) (by omega) (by rw [hw37]; rfl) rfl ?_
          refine g_aload_n X dX12_ofFrame_68 rfl rfl ?_
          refine g_get X ci12 (n40 hN) (en40 _ _ _ _) (by decide) fl_X12_96 rfl dX12_ofFrame_69 rfl ?_
          refine g_iload_n X dX12_ofFrame_72 rfl rfl ?_
          refine g_iald X dX12_ofFrame_73 rfl (n67 hN) (en67 _ _ _ _) (t0 := 0) rfl (by first | omega | (simp only [setI_1, setL_1, setI_2, setL_2]; omega) | (simp only [setI_1, setL_1, setI_2, setL_2]; simp; omega)) (by first | omega | (simp only [setI_1, setL_1, setI_2, setL_2]; omega) | (simp only [setI_1, setL_1, setI_2, setL_2]; simp; omega)) (by decide) (fun r73 => ?_)
          refine g_int (b := M.1 67 0 0 p) rfl ?_
          have r73x := hM 67 0 0 p
          refine g_int (b := ofFV C p w) (by rw [hw37]; exact me.1) ?_
          exact g_ret Y dX12_ofFrame_74 ⟨_, rfl⟩ (pRo w0 rfl)
        · refine g_swIn (tgt := 75) X dX12_ofFrame_37 (by first | omega | (simp only [setI_1, setL_1, setI_2, setL_2]; omega) | (simp only [setI_1, setL_1, setI_2, setL_2]; simp; omega)) (by omega) (by omega) (by rw [hw37]; rfl) rfl ?_
          refine g_aload_n X dX12_ofFrame_75 rfl rfl ?_
          refine g_get X ci12 (n40 hN) (en40 _ _ _ _) (by decide) fl_X12_99 rfl dX12_ofFrame_76 rfl ?_
          refine g_iload_n X dX12_ofFrame_79 rfl rfl ?_
          refine g_iald X dX12_ofFrame_80 rfl (n68 hN) (en68 _ _ _ _) (t0 := 0) rfl (by first | omega | (simp only [setI_1, setL_1, setI_2, setL_2]; omega) | (simp only [setI_1, setL_1, setI_2, setL_2]; simp; omega)) (by first | omega | (simp only [setI_1, setL_1, setI_2, setL_2]; omega) | (simp only [setI_1, setL_1, setI_2, setL_2]; simp; omega)) (by decide) (fun r80 => ?_)
          refine g_int (b := M.1 68 0 0 p) rfl ?_
          have r80x := hM 68 0 0 p
          refine g_int (b := ofFV C p w) (by rw [hw37]; exact me.2.1) ?_
          exact g_ret Y dX12_ofFrame_81 ⟨_, rfl⟩ (pRo w0 rfl)
        · refine g_swIn (tgt := 82) X dX12_ofFrame_37 (by first | omega | (simp only [setI_1, setL_1, setI_2, setL_2]; omega) | (simp only [setI_1, setL_1, setI_2, setL_2]; simp; omega)) (by omega) (by omega) (by rw [hw37]; rfl) rfl ?_
          refine g_aload_n X dX12_ofFrame_82 rfl rfl ?_
          refine g_get X ci12 (n40 hN) (en40 _ _ _ _) (by decide) fl_X12_102 rfl dX12_ofFrame_83 rfl ?_
          refine g_iload_n X dX12_ofFrame_86 rfl rfl ?_
          refine g_iald X dX12_ofFrame_87 rfl (n69 hN) (en69 _ _ _ _) (t0 := 0) rfl (by first | omega | (simp only [setI_1, setL_1, setI_2, setL_2]; omega) | (simp only [setI_1, setL_1, setI_2, setL_2]; simp; omega)) (by first | omega | (simp only [setI_1, setL_1, setI_2, setL_2]; omega) | (simp only [setI_1, setL_1, setI_2, setL_2]; simp; omega)) (by decide) (fun r87 => ?_)
          refine g_int (b := M.1 69 0 0 p) rfl ?_
          have r87x := hM 69 0 0 p
          refine g_int (b := ofFV C p w) (by rw [hw37]; exact me.2.2.1) ?_
          exact g_ret Y dX12_ofFrame_88 ⟨_, rfl⟩ (pRo w0 rfl)
        · refine g_swIn (tgt := 89) X dX12_ofFrame_37 (by first | omega | (simp only [setI_1, setL_1, setI_2, setL_2]; omega) | (simp only [setI_1, setL_1, setI_2, setL_2]; simp; omega)) (by omega) (by omega) (by rw [hw37]; rfl) rfl ?_
          refine g_aload_n X dX12_ofFrame_89 rfl rfl ?_
          refine g_aload_n X dX12_ofFrame_90 rfl rfl ?_
          refine g_get X ci12 (n40 hN) (en40 _ _ _ _) (by decide) fl_X12_108 rfl dX12_ofFrame_91 rfl ?_
          refine g_iload_n X dX12_ofFrame_94 rfl rfl ?_
          refine g_lald X dX12_ofFrame_95 rfl (n71 hN) (en71 _ _ _ _) (t0 := 1) rfl (by first | omega | (simp only [setI_1, setL_1, setI_2, setL_2]; omega) | (simp only [setI_1, setL_1, setI_2, setL_2]; simp; omega)) (by first | omega | (simp only [setI_1, setL_1, setI_2, setL_2]; omega) | (simp only [setI_1, setL_1, setI_2, setL_2]; simp; omega)) (by decide) ?_
          refine g_lng (b := M.2 71 0 0 p) rfl ?_
          refine g_aload_n X dX12_ofFrame_96 rfl rfl ?_
          refine g_get X ci12 (n40 hN) (en40 _ _ _ _) (by decide) fl_X12_105 rfl dX12_ofFrame_97 rfl ?_
          refine g_iload_n X dX12_ofFrame_100 rfl rfl ?_
          refine g_lald X dX12_ofFrame_101 rfl (n70 hN) (en70 _ _ _ _) (t0 := 1) rfl (by first | omega | (simp only [setI_1, setL_1, setI_2, setL_2]; omega) | (simp only [setI_1, setL_1, setI_2, setL_2]; simp; omega)) (by first | omega | (simp only [setI_1, setL_1, setI_2, setL_2]; omega) | (simp only [setI_1, setL_1, setI_2, setL_2]; simp; omega)) (by decide) ?_
          refine g_lng (b := M.2 70 0 0 p) rfl ?_
          refine g_iV2_v X w_X12_unlike ml_X12_261 dX12_ofFrame_102 rfl (n40 hN) (en40 _ _ _ _) ⟨⟨Nat.le_of_ble_eq_true rfl, Nat.le_of_ble_eq_true rfl⟩, Nat.le_of_ble_eq_true rfl, Nat.le_of_ble_eq_true rfl⟩ (Nat.le_of_ble_eq_true rfl) (c_X12_unlike hN) ?_
          refine g_int (b := ofFV C p w) (by rw [hw37]; show unl (M.2 71 0 0 p) (M.2 70 0 0 p) = unl (C.2 31 4 p 0) (C.2 31 3 p 0); rw [me.2.2.2.2.1, me.2.2.2.1]) ?_
          exact g_ret Y dX12_ofFrame_105 ⟨_, rfl⟩ (pRo w0 rfl)
    · skip
      refine g_iconst X dX12_ofFrame_34 rfl ?_
      exact g_ret Y dX12_ofFrame_35 ⟨_, rfl⟩ (pRx (by assumption))
set_option maxRecDepth 100000 in
set_option maxHeartbeats 4000000 in
theorem c_X12_between {δ : Dx} {nm : List (Nat × Int)} {ad : Ad} {M : Mem} {a b : Int} (hN : NmOk nm) (a0 : 0 ≤ a ∧ a ≤ 255) (b0 : 0 ≤ b ∧ b ≤ 255) : Ct δ md_X12_between 0 0 nm ad M [.ref (ad 40 0), .int (iI a), .int (iI b)] (pV (.int (iI (absI (a - b)))) ad M) := by
  refine Ct_of (ins := .ireturn) (ok := okI) [some (.ref (ad 40 0)), some (.int (iI a)), some (.int (iI b))] (by decide +kernel) rfl (Nat.le_of_ble_eq_true rfl) (fun κ s hs X hr hQ hδ => endI rfl hs X hr hQ hδ) (fun κ X hNL hδ Y => ?_)
  refine g_rm (fun hM => ?_)
  refine g_iload_n X dX12_between_0 rfl rfl ?_
  refine g_iload_n X dX12_between_1 rfl rfl ?_
  refine g_icmp_ge (tgt := 11) X dX12_between_2 rfl rfl (by omega) (by omega) (fun h2 => ?_) (fun h2 => ?_)
  · skip
    refine g_iload_n X dX12_between_11 rfl rfl ?_
    refine g_iload_n X dX12_between_12 rfl rfl ?_
    refine g_isub X dX12_between_13 rfl ?_
    exact g_ret Y dX12_between_14 ⟨_, rfl⟩ (pVI (by unfold absI; omega))
  · skip
    refine g_iload_n X dX12_between_5 rfl rfl ?_
    refine g_iload_n X dX12_between_6 rfl rfl ?_
    refine g_isub X dX12_between_7 rfl ?_
    refine g_goto (pc' := 14) X dX12_between_8 rfl ?_
    exact g_ret Y dX12_between_14 ⟨_, rfl⟩ (pVI (by unfold absI; omega))
set_option maxRecDepth 100000 in
set_option maxHeartbeats 4000000 in
theorem c_X12_keep {δ : Dx} {nm : List (Nat × Int)} {ad : Ad} {M : Mem} (hN : NmOk nm) (m2 : 0 ≤ (M.1 40 39 0 0) ∧ (M.1 40 39 0 0) ≤ 120) : Ct δ md_X12_keep 0 0 nm ad M [.ref (ad 40 0)] (pGn ad (fun M' => Ex (fun k => k == 73) M M' ∧ ∀ k, 0 ≤ k → k < (M.1 40 39 0 0) → (M'.2 73 0 0 k) = (M.2 71 0 0 k))) := by
  refine Ct_of (ins := .return_) (ok := okN) [some (.ref (ad 40 0)), none] (by decide +kernel) rfl (Nat.le_of_ble_eq_true rfl) (fun κ s hs X hr hQ hδ => endN rfl hs X hr hQ hδ) (fun κ X hNL hδ Y => ?_)
  refine g_rm (fun hM => ?_)
  refine g_iconst X dX12_keep_0 rfl ?_
  refine g_istore_1 X dX12_keep_1 rfl (lt_kN hNL rfl) rfl ?_
  have lp2 : ∀ (k : Int) (M1 : Mem) (k0 : 0 ≤ k) (k1 : k ≤ (M.1 40 39 0 0)) (hE1 : Ex (fun k => k == 73) M M1) (hb : ∀ j, 0 ≤ j → j < k → (M1.2 73 0 0 j) = (M.2 71 0 0 j)), G κ nm ad M1 2 [some (.ref (ad 40 0)), some (.int (iI k))] [] 0 0 := by
    refine ind2 (fun k M1 => (120 - k).toNat) ?_
    intro k M1 ih2 k0 k1 hE1 hb
    refine g_rm (fun hM2 => ?_)
    have e39 := hE1.i 40 39 0 0 rfl
    have e71 := hE1.l 71 0 0 k rfl
    refine g_iload_n X dX12_keep_2 rfl rfl ?_
    refine g_aload_n X dX12_keep_3 rfl rfl ?_
    refine g_getI X ci12 (n40 hN) (en40 _ _ _ _) (by decide) fl_X12_249 rfl dX12_keep_4 rfl (fun r4 => ?_)
    refine g_icmp_ge (tgt := 28) X dX12_keep_7 rfl rfl (by omega) (by omega) (fun h7 => ?_) (fun h7 => ?_)
    · skip
      exact g_retn Y dX12_keep_28 rfl ⟨rfl, rfl, hE1, fun j h1 h2 => hb j h1 (by omega)⟩
    · skip
      refine g_aload_n X dX12_keep_10 rfl rfl ?_
      refine g_get X ci12 (n40 hN) (en40 _ _ _ _) (by decide) fl_X12_114 rfl dX12_keep_11 rfl ?_
      refine g_iload_n X dX12_keep_14 rfl rfl ?_
      refine g_aload_n X dX12_keep_15 rfl rfl ?_
      refine g_get X ci12 (n40 hN) (en40 _ _ _ _) (by decide) fl_X12_108 rfl dX12_keep_16 rfl ?_
      refine g_iload_n X dX12_keep_19 rfl rfl ?_
      refine g_lald X dX12_keep_20 rfl (n71 hN) (en71 _ _ _ _) (t0 := 1) rfl (by omega) (by omega) (by decide) ?_
      refine g_last X (n73 hN) (en73 _ _ _ _) (en73 _ _ _ _) (t0 := 1) rfl (by omega) (by omega) (by decide) dX12_keep_21 rfl ?_
      refine g_iinc_1 X dX12_keep_22 rfl (lt_kN hNL rfl) rfl ?_
      refine g_goto (pc' := 2) X dX12_keep_25 rfl ?_
      exact ih2 (k + 1) _ (by omega) (by omega) (by omega) (hE1.setL rfl) (fun j h1 h2 => by
              rw [setL_2]
              by_cases z : j = k
              · subst z; rw [if_pos ⟨rfl, rfl, rfl, rfl⟩]; exact e71
              · rw [if_neg (by omega)]; exact hb j h1 (by omega))
  exact lp2 0 _ (by omega) (by omega) (Ex.rf M) (fun j h1 h2 => by omega)
set_option maxRecDepth 100000 in
set_option maxHeartbeats 4000000 in
theorem c_X12_cleaned {δ : Dx} {nm : List (Nat × Int)} {ad : Ad} {M : Mem} {k t : Int} (hN : NmOk nm) (k0 : 1 ≤ k) (k1 : k ≤ 118) (t0 : 0 ≤ t ∧ t ≤ 255) : Ct δ md_X12_cleaned 0 0 nm ad M [.ref (ad 40 0), .int (iI k), .int (iI t)] (pV (.long (mdD t (M.2 73 0 0 (k - 1)) (M.2 73 0 0 k) (M.2 73 0 0 (k + 1)) 8)) ad M) := by
  refine Ct_of (ins := .lreturn) (ok := okL) [some (.ref (ad 40 0)), some (.int (iI k)), some (.int (iI t)), none, none, none, none, none, none] (by decide +kernel) rfl (Nat.le_of_ble_eq_true rfl) (fun κ s hs X hr hQ hδ => endL rfl hs X hr hQ hδ) (fun κ X hNL hδ Y => ?_)
  refine g_rm (fun hM => ?_)
  refine g_aload_n X dX12_cleaned_0 rfl rfl ?_
  refine g_get X ci12 (n40 hN) (en40 _ _ _ _) (by decide) fl_X12_114 rfl dX12_cleaned_1 rfl ?_
  refine g_iload_n X dX12_cleaned_4 rfl rfl ?_
  refine g_lald X dX12_cleaned_5 rfl (n73 hN) (en73 _ _ _ _) (t0 := 1) rfl (by omega) (by omega) (by decide) ?_
  refine g_lstore_3 X dX12_cleaned_6 rfl (lt_kN hNL rfl) rfl ?_
  refine g_iconst X dX12_cleaned_7 rfl ?_
  refine g_istore_5 X dX12_cleaned_8 rfl (lt_kN hNL rfl) rfl ?_
  have lp10 : ∀ (p : Int) (p0 : 0 ≤ p) (p1 : p ≤ 8), G κ nm ad M 10 [some (.ref (ad 40 0)), some (.int (iI k)), some (.int (iI t)), some (.long (mdD t (M.2 73 0 0 (k - 1)) (M.2 73 0 0 k) (M.2 73 0 0 (k + 1)) p.toNat)), none, some (.int (iI p)), none, none, none] [] 0 0 := by
    refine ind1 (fun p => (8 - p).toNat) ?_
    intro p ih10 p0 p1
    refine g_rm (fun hM10 => ?_)
    have p1_ := pt_b (M.2 73 0 0 k) p
    have p2_ := pt_b (M.2 73 0 0 (k - 1)) p
    have p3_ := pt_b (M.2 73 0 0 (k + 1)) p
    have td := tdiv_b (a := pt (M.2 73 0 0 (k - 1)) p + pt (M.2 73 0 0 (k + 1)) p) (b := 2) (by omega) (by decide)
    have ab1 := absI_b p1_ p2_
    have ab2 := absI_b p1_ p3_
    have ab3 := absI_b p2_ p3_
    have ms := mdD_s t (M.2 73 0 0 (k - 1)) (M.2 73 0 0 k) (M.2 73 0 0 (k + 1)) p0
    refine g_iload X dX12_cleaned_10 rfl rfl ?_
    refine g_bipush X dX12_cleaned_12 rfl (by decide) ?_
    refine g_icmp_ge (tgt := 120) X dX12_cleaned_14 rfl rfl (by omega) (by omega) (fun h14 => ?_) (fun h14 => ?_)
    · skip
      refine g_lload_n X dX12_cleaned_120 rfl rfl ?_
      rw [show p = 8 by omega]
      exact g_ret Y dX12_cleaned_121 ⟨_, rfl⟩ ⟨rfl, rfl, rfl⟩
    · skip
      refine g_aload_n X dX12_cleaned_17 rfl rfl ?_
      refine g_aload_n X dX12_cleaned_18 rfl rfl ?_
      refine g_get X ci12 (n40 hN) (en40 _ _ _ _) (by decide) fl_X12_114 rfl dX12_cleaned_19 rfl ?_
      refine g_iload_n X dX12_cleaned_22 rfl rfl ?_
      refine g_lald X dX12_cleaned_23 rfl (n73 hN) (en73 _ _ _ _) (t0 := 1) rfl (by omega) (by omega) (by decide) ?_
      refine g_iload X dX12_cleaned_24 rfl rfl ?_
      refine g_iV2_v X w_X12_point ml_X12_150 dX12_cleaned_26 rfl (n40 hN) (en40 _ _ _ _) ⟨⟨Nat.le_of_ble_eq_true rfl, Nat.le_of_ble_eq_true rfl⟩, Nat.le_of_ble_eq_true rfl, Nat.le_of_ble_eq_true rfl⟩ (Nat.le_of_ble_eq_true rfl) (c_X12_point hN) ?_
      refine g_istore_6 X dX12_cleaned_29 rfl (lt_kN hNL rfl) rfl ?_
      refine g_aload_n X dX12_cleaned_31 rfl rfl ?_
      refine g_aload_n X dX12_cleaned_32 rfl rfl ?_
      refine g_get X ci12 (n40 hN) (en40 _ _ _ _) (by decide) fl_X12_114 rfl dX12_cleaned_33 rfl ?_
      refine g_iload_n X dX12_cleaned_36 rfl rfl ?_
      refine g_iconst X dX12_cleaned_37 rfl ?_
      refine g_isub X dX12_cleaned_38 rfl ?_
      refine g_lald X dX12_cleaned_39 rfl (n73 hN) (en73 _ _ _ _) (t0 := 1) rfl (by omega) (by omega) (by decide) ?_
      refine g_iload X dX12_cleaned_40 rfl rfl ?_
      refine g_iV2_v X w_X12_point ml_X12_150 dX12_cleaned_42 rfl (n40 hN) (en40 _ _ _ _) ⟨⟨Nat.le_of_ble_eq_true rfl, Nat.le_of_ble_eq_true rfl⟩, Nat.le_of_ble_eq_true rfl, Nat.le_of_ble_eq_true rfl⟩ (Nat.le_of_ble_eq_true rfl) (c_X12_point hN) ?_
      refine g_istore_7 X dX12_cleaned_45 rfl (lt_kN hNL rfl) rfl ?_
      refine g_aload_n X dX12_cleaned_47 rfl rfl ?_
      refine g_aload_n X dX12_cleaned_48 rfl rfl ?_
      refine g_get X ci12 (n40 hN) (en40 _ _ _ _) (by decide) fl_X12_114 rfl dX12_cleaned_49 rfl ?_
      refine g_iload_n X dX12_cleaned_52 rfl rfl ?_
      refine g_iconst X dX12_cleaned_53 rfl ?_
      refine g_iadd X dX12_cleaned_54 rfl ?_
      refine g_lald X dX12_cleaned_55 rfl (n73 hN) (en73 _ _ _ _) (t0 := 1) rfl (by omega) (by omega) (by decide) ?_
      refine g_iload X dX12_cleaned_56 rfl rfl ?_
      refine g_iV2_v X w_X12_point ml_X12_150 dX12_cleaned_58 rfl (n40 hN) (en40 _ _ _ _) ⟨⟨Nat.le_of_ble_eq_true rfl, Nat.le_of_ble_eq_true rfl⟩, Nat.le_of_ble_eq_true rfl, Nat.le_of_ble_eq_true rfl⟩ (Nat.le_of_ble_eq_true rfl) (c_X12_point hN) ?_
      refine g_istore_8 X dX12_cleaned_61 rfl (lt_kN hNL rfl) rfl ?_
      refine g_aload_n X dX12_cleaned_63 rfl rfl ?_
      refine g_iload X dX12_cleaned_64 rfl rfl ?_
      refine g_iload X dX12_cleaned_66 rfl rfl ?_
      refine g_iV2_v X w_X12_between ml_X12_268 dX12_cleaned_68 rfl (n40 hN) (en40 _ _ _ _) ⟨⟨Nat.le_of_ble_eq_true rfl, Nat.le_of_ble_eq_true rfl⟩, Nat.le_of_ble_eq_true rfl, Nat.le_of_ble_eq_true rfl⟩ (Nat.le_of_ble_eq_true rfl) (c_X12_between hN p1_ p2_) ?_
      refine g_iload_n X dX12_cleaned_71 rfl rfl ?_
      refine g_icmp_le (tgt := 114) X dX12_cleaned_72 rfl rfl (by omega) (by omega) (fun h72 => ?_) (fun h72 => ?_)
      · skip
        refine g_iinc_5 X dX12_cleaned_114 rfl (lt_kN hNL rfl) rfl ?_
        refine g_goto (pc' := 10) X dX12_cleaned_117 rfl ?_
        refine g_drop_6 ?_
        refine g_drop_7 ?_
        refine g_drop_8 ?_
        first
                | (rw [cif_t ⟨by assumption, by assumption, by assumption⟩] at ms
                   rw [← ms])
                | (rw [cif_f (fun q => by have q1 := q.1; have q2 := q.2.1; have q3 := q.2.2; omega)] at ms
                   rw [← ms])
        exact ih10 (p + 1) (by omega) (by omega) (by omega)
      · skip
        refine g_aload_n X dX12_cleaned_75 rfl rfl ?_
        refine g_iload X dX12_cleaned_76 rfl rfl ?_
        refine g_iload X dX12_cleaned_78 rfl rfl ?_
        refine g_iV2_v X w_X12_between ml_X12_268 dX12_cleaned_80 rfl (n40 hN) (en40 _ _ _ _) ⟨⟨Nat.le_of_ble_eq_true rfl, Nat.le_of_ble_eq_true rfl⟩, Nat.le_of_ble_eq_true rfl, Nat.le_of_ble_eq_true rfl⟩ (Nat.le_of_ble_eq_true rfl) (c_X12_between hN p1_ p3_) ?_
        refine g_iload_n X dX12_cleaned_83 rfl rfl ?_
        refine g_icmp_le (tgt := 114) X dX12_cleaned_84 rfl rfl (by omega) (by omega) (fun h84 => ?_) (fun h84 => ?_)
        · skip
          refine g_iinc_5 X dX12_cleaned_114 rfl (lt_kN hNL rfl) rfl ?_
          refine g_goto (pc' := 10) X dX12_cleaned_117 rfl ?_
          refine g_drop_6 ?_
          refine g_drop_7 ?_
          refine g_drop_8 ?_
          first
                  | (rw [cif_t ⟨by assumption, by assumption, by assumption⟩] at ms
                     rw [← ms])
                  | (rw [cif_f (fun q => by have q1 := q.1; have q2 := q.2.1; have q3 := q.2.2; omega)] at ms
                     rw [← ms])
          exact ih10 (p + 1) (by omega) (by omega) (by omega)
        · skip
          refine g_aload_n X dX12_cleaned_87 rfl rfl ?_
          refine g_iload X dX12_cleaned_88 rfl rfl ?_
          refine g_iload X dX12_cleaned_90 rfl rfl ?_
          refine g_iV2_v X w_X12_between ml_X12_268 dX12_cleaned_92 rfl (n40 hN) (en40 _ _ _ _) ⟨⟨Nat.le_of_ble_eq_true rfl, Nat.le_of_ble_eq_true rfl⟩, Nat.le_of_ble_eq_true rfl, Nat.le_of_ble_eq_true rfl⟩ (Nat.le_of_ble_eq_true rfl) (c_X12_between hN p2_ p3_) ?_
          refine g_iload_n X dX12_cleaned_95 rfl rfl ?_
          refine g_icmp_gt (tgt := 114) X dX12_cleaned_96 rfl rfl (by omega) (by omega) (fun h96 => ?_) (fun h96 => ?_)
          · skip
            refine g_iinc_5 X dX12_cleaned_114 rfl (lt_kN hNL rfl) rfl ?_
            refine g_goto (pc' := 10) X dX12_cleaned_117 rfl ?_
            refine g_drop_6 ?_
            refine g_drop_7 ?_
            refine g_drop_8 ?_
            first
                    | (rw [cif_t ⟨by assumption, by assumption, by assumption⟩] at ms
                       rw [← ms])
                    | (rw [cif_f (fun q => by have q1 := q.1; have q2 := q.2.1; have q3 := q.2.2; omega)] at ms
                       rw [← ms])
            exact ih10 (p + 1) (by omega) (by omega) (by omega)
          · skip
            refine g_aload_n X dX12_cleaned_99 rfl rfl ?_
            refine g_lload_n X dX12_cleaned_100 rfl rfl ?_
            refine g_iload X dX12_cleaned_101 rfl rfl ?_
            refine g_iload X dX12_cleaned_103 rfl rfl ?_
            refine g_iload X dX12_cleaned_105 rfl rfl ?_
            refine g_iadd X dX12_cleaned_107 rfl ?_
            refine g_iconst X dX12_cleaned_108 rfl ?_
            refine g_idiv X dX12_cleaned_109 rfl (by omega) (by omega) (by omega) (by omega) ?_
            refine g_iV3_v X w_X12_set ml_X12_271 dX12_cleaned_110 rfl (n40 hN) (en40 _ _ _ _) ⟨⟨Nat.le_of_ble_eq_true rfl, Nat.le_of_ble_eq_true rfl⟩, Nat.le_of_ble_eq_true rfl, Nat.le_of_ble_eq_true rfl⟩ (Nat.le_of_ble_eq_true rfl) (c_X12_set hN) ?_
            refine g_lstore_3 X dX12_cleaned_113 rfl (lt_kN hNL rfl) rfl ?_
            refine g_iinc_5 X dX12_cleaned_114 rfl (lt_kN hNL rfl) rfl ?_
            refine g_goto (pc' := 10) X dX12_cleaned_117 rfl ?_
            refine g_drop_6 ?_
            refine g_drop_7 ?_
            refine g_drop_8 ?_
            first
                    | (rw [cif_t ⟨by assumption, by assumption, by assumption⟩] at ms
                       rw [← ms])
                    | (rw [cif_f (fun q => by have q1 := q.1; have q2 := q.2.1; have q3 := q.2.2; omega)] at ms
                       rw [← ms])
            exact ih10 (p + 1) (by omega) (by omega) (by omega)
  exact lp10 0 (by omega) (by omega)
set_option maxRecDepth 100000 in
set_option maxHeartbeats 4000000 in
theorem c_X12_levelled {δ : Dx} {nm : List (Nat × Int)} {ad : Ad} {M : Mem} {k : Int} (hN : NmOk nm) (k0 : 1 ≤ k) (k1 : k ≤ 118) : Ct δ md_X12_levelled 0 0 nm ad M [.ref (ad 40 0), .int (iI k)] (pV (.long (mfF (flk (M.2 73 0 0 (k - 1)) (M.2 73 0 0 k) (M.2 73 0 0 (k + 1))) (M.2 73 0 0 k) 8)) ad M) := by
  refine Ct_of (ins := .lreturn) (ok := okL) [some (.ref (ad 40 0)), some (.int (iI k)), none, none, none, none, none] (by decide +kernel) rfl (Nat.le_of_ble_eq_true rfl) (fun κ s hs X hr hQ hδ => endL rfl hs X hr hQ hδ) (fun κ X hNL hδ Y => ?_)
  refine g_rm (fun hM => ?_)
  have t1 := tot_b (M.2 73 0 0 (k - 1))
  have t2 := tot_b (M.2 73 0 0 k)
  have t3 := tot_b (M.2 73 0 0 (k + 1))
  have td := tdiv_b (a := tot (M.2 73 0 0 (k - 1)) + tot (M.2 73 0 0 (k + 1))) (b := 2) (by omega) (by decide)
  have fb := flk_b (M.2 73 0 0 (k - 1)) (M.2 73 0 0 k) (M.2 73 0 0 (k + 1))
  refine g_aload_n X dX12_levelled_0 rfl rfl ?_
  refine g_aload_n X dX12_levelled_1 rfl rfl ?_
  refine g_get X ci12 (n40 hN) (en40 _ _ _ _) (by decide) fl_X12_114 rfl dX12_levelled_2 rfl ?_
  refine g_iload_n X dX12_levelled_5 rfl rfl ?_
  refine g_iconst X dX12_levelled_6 rfl ?_
  refine g_isub X dX12_levelled_7 rfl ?_
  refine g_lald X dX12_levelled_8 rfl (n73 hN) (en73 _ _ _ _) (t0 := 1) rfl (by omega) (by omega) (by decide) ?_
  refine g_iV1_v X w_X12_sumOf ml_X12_288 dX12_levelled_9 rfl (n40 hN) (en40 _ _ _ _) ⟨⟨Nat.le_of_ble_eq_true rfl, Nat.le_of_ble_eq_true rfl⟩, Nat.le_of_ble_eq_true rfl, Nat.le_of_ble_eq_true rfl⟩ (Nat.le_of_ble_eq_true rfl) (c_X12_sumOf hN) ?_
  refine g_aload_n X dX12_levelled_12 rfl rfl ?_
  refine g_aload_n X dX12_levelled_13 rfl rfl ?_
  refine g_get X ci12 (n40 hN) (en40 _ _ _ _) (by decide) fl_X12_114 rfl dX12_levelled_14 rfl ?_
  refine g_iload_n X dX12_levelled_17 rfl rfl ?_
  refine g_iconst X dX12_levelled_18 rfl ?_
  refine g_iadd X dX12_levelled_19 rfl ?_
  refine g_lald X dX12_levelled_20 rfl (n73 hN) (en73 _ _ _ _) (t0 := 1) rfl (by omega) (by omega) (by decide) ?_
  refine g_iV1_v X w_X12_sumOf ml_X12_288 dX12_levelled_21 rfl (n40 hN) (en40 _ _ _ _) ⟨⟨Nat.le_of_ble_eq_true rfl, Nat.le_of_ble_eq_true rfl⟩, Nat.le_of_ble_eq_true rfl, Nat.le_of_ble_eq_true rfl⟩ (Nat.le_of_ble_eq_true rfl) (c_X12_sumOf hN) ?_
  refine g_iadd X dX12_levelled_24 rfl ?_
  refine g_iconst X dX12_levelled_25 rfl ?_
  refine g_idiv X dX12_levelled_26 rfl (by omega) (by omega) (by omega) (by omega) ?_
  refine g_aload_n X dX12_levelled_27 rfl rfl ?_
  refine g_aload_n X dX12_levelled_28 rfl rfl ?_
  refine g_get X ci12 (n40 hN) (en40 _ _ _ _) (by decide) fl_X12_114 rfl dX12_levelled_29 rfl ?_
  refine g_iload_n X dX12_levelled_32 rfl rfl ?_
  refine g_lald X dX12_levelled_33 rfl (n73 hN) (en73 _ _ _ _) (t0 := 1) rfl (by omega) (by omega) (by decide) ?_
  refine g_iV1_v X w_X12_sumOf ml_X12_288 dX12_levelled_34 rfl (n40 hN) (en40 _ _ _ _) ⟨⟨Nat.le_of_ble_eq_true rfl, Nat.le_of_ble_eq_true rfl⟩, Nat.le_of_ble_eq_true rfl, Nat.le_of_ble_eq_true rfl⟩ (Nat.le_of_ble_eq_true rfl) (c_X12_sumOf hN) ?_
  refine g_isub X dX12_levelled_37 rfl ?_
  refine g_bipush X dX12_levelled_38 rfl (by decide) ?_
  refine g_idiv X dX12_levelled_40 rfl (by omega) (by omega) (by omega) (by omega) ?_
  refine g_istore_2 X dX12_levelled_41 rfl (lt_kN hNL rfl) rfl ?_
  refine g_aload_n X dX12_levelled_42 rfl rfl ?_
  refine g_get X ci12 (n40 hN) (en40 _ _ _ _) (by decide) fl_X12_114 rfl dX12_levelled_43 rfl ?_
  refine g_iload_n X dX12_levelled_46 rfl rfl ?_
  refine g_lald X dX12_levelled_47 rfl (n73 hN) (en73 _ _ _ _) (t0 := 1) rfl (by omega) (by omega) (by decide) ?_
  refine g_lstore_3 X dX12_levelled_48 rfl (lt_kN hNL rfl) rfl ?_
  refine g_iconst X dX12_levelled_49 rfl ?_
  refine g_istore_5 X dX12_levelled_50 rfl (lt_kN hNL rfl) rfl ?_
  have lp52 : ∀ (p : Int) (p0 : 0 ≤ p) (p1 : p ≤ 8), G κ nm ad M 52 [some (.ref (ad 40 0)), some (.int (iI k)), some (.int (iI (flk (M.2 73 0 0 (k - 1)) (M.2 73 0 0 k) (M.2 73 0 0 (k + 1))))), some (.long (mfF (flk (M.2 73 0 0 (k - 1)) (M.2 73 0 0 k) (M.2 73 0 0 (k + 1))) (M.2 73 0 0 k) p.toNat)), none, some (.int (iI p)), none] [] 0 0 := by
    refine ind1 (fun p => (8 - p).toNat) ?_
    intro p ih52 p0 p1
    refine g_rm (fun hM52 => ?_)
    have p1_ := pt_b (M.2 73 0 0 k) p
    have ms := mfF_s (flk (M.2 73 0 0 (k - 1)) (M.2 73 0 0 k) (M.2 73 0 0 (k + 1))) (M.2 73 0 0 k) p0
    refine g_iload X dX12_levelled_52 rfl rfl ?_
    refine g_bipush X dX12_levelled_54 rfl (by decide) ?_
    refine g_icmp_ge (tgt := 114) X dX12_levelled_56 rfl rfl (by omega) (by omega) (fun h56 => ?_) (fun h56 => ?_)
    · skip
      refine g_lload_n X dX12_levelled_114 rfl rfl ?_
      rw [show p = 8 by omega]
      exact g_ret Y dX12_levelled_115 ⟨_, rfl⟩ ⟨rfl, rfl, rfl⟩
    · skip
      refine g_aload_n X dX12_levelled_59 rfl rfl ?_
      refine g_aload_n X dX12_levelled_60 rfl rfl ?_
      refine g_get X ci12 (n40 hN) (en40 _ _ _ _) (by decide) fl_X12_114 rfl dX12_levelled_61 rfl ?_
      refine g_iload_n X dX12_levelled_64 rfl rfl ?_
      refine g_lald X dX12_levelled_65 rfl (n73 hN) (en73 _ _ _ _) (t0 := 1) rfl (by omega) (by omega) (by decide) ?_
      refine g_iload X dX12_levelled_66 rfl rfl ?_
      refine g_iV2_v X w_X12_point ml_X12_150 dX12_levelled_68 rfl (n40 hN) (en40 _ _ _ _) ⟨⟨Nat.le_of_ble_eq_true rfl, Nat.le_of_ble_eq_true rfl⟩, Nat.le_of_ble_eq_true rfl, Nat.le_of_ble_eq_true rfl⟩ (Nat.le_of_ble_eq_true rfl) (c_X12_point hN) ?_
      refine g_iload_n X dX12_levelled_71 rfl rfl ?_
      refine g_iadd X dX12_levelled_72 rfl ?_
      refine g_istore_6 X dX12_levelled_73 rfl (lt_kN hNL rfl) rfl ?_
      refine g_aload_n X dX12_levelled_75 rfl rfl ?_
      refine g_lload_n X dX12_levelled_76 rfl rfl ?_
      refine g_iload X dX12_levelled_77 rfl rfl ?_
      refine g_cutI 104 (cl255 (pt (M.2 73 0 0 k) p + flk (M.2 73 0 0 (k - 1)) (M.2 73 0 0 k) (M.2 73 0 0 (k + 1)))) (fun ci79 => ?_) ?_
      · skip
        refine g_iload X dX12_levelled_79 rfl rfl ?_
        refine g_if_ge (tgt := 88) X dX12_levelled_81 rfl rfl (by omega) (fun h81 => ?_) (fun h81 => ?_)
        · skip
          refine g_iload X dX12_levelled_88 rfl rfl ?_
          refine g_sipush X dX12_levelled_90 rfl (by decide) ?_
          refine g_icmp_le (tgt := 102) X dX12_levelled_93 rfl rfl (by omega) (by omega) (fun h93 => ?_) (fun h93 => ?_)
          · skip
            refine g_iload X dX12_levelled_102 rfl rfl ?_
            exact ci79 _ (by unfold cl255; omega)
          · skip
            refine g_sipush X dX12_levelled_96 rfl (by decide) ?_
            refine g_goto (pc' := 104) X dX12_levelled_99 rfl ?_
            exact ci79 _ (by unfold cl255; omega)
        · skip
          refine g_iconst X dX12_levelled_84 rfl ?_
          refine g_goto (pc' := 104) X dX12_levelled_85 rfl ?_
          exact ci79 _ (by unfold cl255; omega)
      · skip
        refine g_iV3_v X w_X12_set ml_X12_271 dX12_levelled_104 rfl (n40 hN) (en40 _ _ _ _) ⟨⟨Nat.le_of_ble_eq_true rfl, Nat.le_of_ble_eq_true rfl⟩, Nat.le_of_ble_eq_true rfl, Nat.le_of_ble_eq_true rfl⟩ (Nat.le_of_ble_eq_true rfl) (c_X12_set hN) ?_
        refine g_lstore_3 X dX12_levelled_107 rfl (lt_kN hNL rfl) rfl ?_
        refine g_iinc_5 X dX12_levelled_108 rfl (lt_kN hNL rfl) rfl ?_
        refine g_goto (pc' := 52) X dX12_levelled_111 rfl ?_
        refine g_drop_6 ?_
        rw [← ms]
        exact ih52 (p + 1) (by omega) (by omega) (by omega)
  exact lp52 0 (by omega) (by omega)
set_option maxRecDepth 100000 in
set_option maxHeartbeats 4000000 in
theorem c_X12_changes {δ : Dx} {nm : List (Nat × Int)} {ad : Ad} {M : Mem} {k : Int} {x : Int64} (hN : NmOk nm) (k0 : 0 ≤ k ∧ k < 120) (mc : 0 ≤ (M.1 40 44 0 0) ∧ (M.1 40 44 0 0) < 62000) : Ct δ md_X12_changes 0 0 nm ad M [.ref (ad 40 0), .int (iI k), .long x] (fun v ad' M' => ad' = ad ∧ v = some (.int (iI (bI (chgM M k x)))) ∧ M' = cif (chgM M k x) (chM M k x) M) := by
  refine Ct_of (ins := .ireturn) (ok := okI) [some (.ref (ad 40 0)), some (.int (iI k)), some (.long x), none] (by decide +kernel) rfl (Nat.le_of_ble_eq_true rfl) (fun κ s hs X hr hQ hδ => endI rfl hs X hr hQ hδ) (fun κ X hNL hδ Y => ?_)
  refine g_rm (fun hM => ?_)
  have ub := unl_b x (M.2 70 0 0 k)
  have rl := hM 40 40 0 0
  refine g_lload_n X dX12_changes_0 rfl rfl ?_
  refine g_aload_n X dX12_changes_1 rfl rfl ?_
  refine g_get X ci12 (n40 hN) (en40 _ _ _ _) (by decide) fl_X12_108 rfl dX12_changes_2 rfl ?_
  refine g_iload_n X dX12_changes_5 rfl rfl ?_
  refine g_lald X dX12_changes_6 rfl (n71 hN) (en71 _ _ _ _) (t0 := 1) rfl (by omega) (by omega) (by decide) ?_
  refine g_lcmp X dX12_changes_7 rfl ?_
  refine g_ifL_eq (tgt := 29) X dX12_changes_8 rfl rfl (fun h8 => ?_) (fun h8 => ?_)
  · skip
    refine g_iconst X dX12_changes_29 rfl ?_
    have hc : ¬ chgM M k x := by
      intro q
      first
        | exact q.1 (by assumption)
        | (have := q.2; omega)
    refine g_int (b := bI (chgM M k x)) (bI_f hc).symm ?_
    exact g_ret Y dX12_changes_30 ⟨_, rfl⟩ ⟨rfl, rfl, by rw [cif_f hc]⟩
  · skip
    refine g_aload_n X dX12_changes_11 rfl rfl ?_
    refine g_lload_n X dX12_changes_12 rfl rfl ?_
    refine g_aload_n X dX12_changes_13 rfl rfl ?_
    refine g_get X ci12 (n40 hN) (en40 _ _ _ _) (by decide) fl_X12_105 rfl dX12_changes_14 rfl ?_
    refine g_iload_n X dX12_changes_17 rfl rfl ?_
    refine g_lald X dX12_changes_18 rfl (n70 hN) (en70 _ _ _ _) (t0 := 1) rfl (by omega) (by omega) (by decide) ?_
    refine g_iV2_v X w_X12_unlike ml_X12_261 dX12_changes_19 rfl (n40 hN) (en40 _ _ _ _) ⟨⟨Nat.le_of_ble_eq_true rfl, Nat.le_of_ble_eq_true rfl⟩, Nat.le_of_ble_eq_true rfl, Nat.le_of_ble_eq_true rfl⟩ (Nat.le_of_ble_eq_true rfl) (c_X12_unlike hN) ?_
    refine g_aload_n X dX12_changes_22 rfl rfl ?_
    refine g_getI X ci12 (n40 hN) (en40 _ _ _ _) (by decide) fl_X12_117 rfl dX12_changes_23 rfl (fun r23 => ?_)
    refine g_icmp_le (tgt := 31) X dX12_changes_26 rfl rfl (by omega) (by omega) (fun h26 => ?_) (fun h26 => ?_)
    · skip
      refine g_aload_n X dX12_changes_31 rfl rfl ?_
      refine g_get X ci12 (n40 hN) (en40 _ _ _ _) (by decide) fl_X12_121 rfl dX12_changes_32 rfl ?_
      refine g_aload_n X dX12_changes_35 rfl rfl ?_
      refine g_getI X ci12 (n40 hN) (en40 _ _ _ _) (by decide) fl_X12_252 rfl dX12_changes_36 rfl (fun r36 => ?_)
      refine g_iload_n X dX12_changes_39 rfl rfl ?_
      refine g_iast X (n74 hN) (en74 _ _ _ _) (en74 _ _ _ _) (t0 := 0) rfl (by omega) (by omega) (by decide) (by omega) dX12_changes_40 rfl ?_
      refine g_aload_n X dX12_changes_41 rfl rfl ?_
      refine g_get X ci12 (n40 hN) (en40 _ _ _ _) (by decide) fl_X12_124 rfl dX12_changes_42 rfl ?_
      refine g_aload_n X dX12_changes_45 rfl rfl ?_
      refine g_getI X ci12 (n40 hN) (en40 _ _ _ _) (by decide) fl_X12_252 rfl dX12_changes_46 rfl (fun r46 => ?_)
      refine g_int (b := M.1 40 44 0 0) rfl ?_
      have r46x := hM 40 44 0 0
      refine g_aload_n X dX12_changes_49 rfl rfl ?_
      refine g_get X ci12 (n40 hN) (en40 _ _ _ _) (by decide) fl_X12_108 rfl dX12_changes_50 rfl ?_
      refine g_iload_n X dX12_changes_53 rfl rfl ?_
      refine g_lald X dX12_changes_54 rfl (n71 hN) (en71 _ _ _ _) (t0 := 1) rfl (by first | omega | (simp only [setI_1, setL_1, setI_2, setL_2]; omega) | (simp only [setI_1, setL_1, setI_2, setL_2]; simp; omega)) (by first | omega | (simp only [setI_1, setL_1, setI_2, setL_2]; omega) | (simp only [setI_1, setL_1, setI_2, setL_2]; simp; omega)) (by decide) ?_
      refine g_lng (b := M.2 71 0 0 k) rfl ?_
      refine g_last X (n75 hN) (en75 _ _ _ _) (en75 _ _ _ _) (t0 := 1) rfl (by first | omega | (simp only [setI_1, setL_1, setI_2, setL_2]; omega) | (simp only [setI_1, setL_1, setI_2, setL_2]; simp; omega)) (by first | omega | (simp only [setI_1, setL_1, setI_2, setL_2]; omega) | (simp only [setI_1, setL_1, setI_2, setL_2]; simp; omega)) (by decide) dX12_changes_55 rfl ?_
      refine g_aload_n X dX12_changes_56 rfl rfl ?_
      refine g_get X ci12 (n40 hN) (en40 _ _ _ _) (by decide) fl_X12_127 rfl dX12_changes_57 rfl ?_
      refine g_aload_n X dX12_changes_60 rfl rfl ?_
      refine g_getI X ci12 (n40 hN) (en40 _ _ _ _) (by decide) fl_X12_252 rfl dX12_changes_61 rfl (fun r61 => ?_)
      refine g_int (b := M.1 40 44 0 0) rfl ?_
      have r61x := hM 40 44 0 0
      refine g_iconst X dX12_changes_64 rfl ?_
      refine g_iast X (n76 hN) (en76 _ _ _ _) (en76 _ _ _ _) (t0 := 0) rfl (by first | omega | (simp only [setI_1, setL_1, setI_2, setL_2]; omega) | (simp only [setI_1, setL_1, setI_2, setL_2]; simp; omega)) (by first | omega | (simp only [setI_1, setL_1, setI_2, setL_2]; omega) | (simp only [setI_1, setL_1, setI_2, setL_2]; simp; omega)) (by decide) (by first | omega | (simp only [setI_1, setL_1, setI_2, setL_2]; omega) | (simp only [setI_1, setL_1, setI_2, setL_2]; simp; omega)) dX12_changes_65 rfl ?_
      refine g_aload_n X dX12_changes_66 rfl rfl ?_
      refine g_dup X dX12_changes_67 rfl rfl ?_
      refine g_getI X ci12 (n40 hN) (en40 _ _ _ _) (by decide) fl_X12_252 rfl dX12_changes_68 rfl (fun r68 => ?_)
      refine g_int (b := M.1 40 44 0 0) rfl ?_
      have r68x := hM 40 44 0 0
      refine g_iconst X dX12_changes_71 rfl ?_
      refine g_iadd X dX12_changes_72 rfl ?_
      refine g_putI X ci12 (n40 hN) (en40 _ _ _ _) (ep40_44 _ _ _ _ _) (by first | omega | (simp only [setI_1, setL_1, setI_2, setL_2]; omega) | (simp only [setI_1, setL_1, setI_2, setL_2]; simp; omega)) (by decide) rfl rfl rfl (Nat.le_of_ble_eq_true rfl) fl_X12_252 dX12_changes_73 rfl ?_
      refine g_aload_n X dX12_changes_76 rfl rfl ?_
      refine g_get X ci12 (n40 hN) (en40 _ _ _ _) (by decide) fl_X12_108 rfl dX12_changes_77 rfl ?_
      refine g_iload_n X dX12_changes_80 rfl rfl ?_
      refine g_lload_n X dX12_changes_81 rfl rfl ?_
      refine g_last X (n71 hN) (en71 _ _ _ _) (en71 _ _ _ _) (t0 := 1) rfl (by first | omega | (simp only [setI_1, setL_1, setI_2, setL_2]; omega) | (simp only [setI_1, setL_1, setI_2, setL_2]; simp; omega)) (by first | omega | (simp only [setI_1, setL_1, setI_2, setL_2]; omega) | (simp only [setI_1, setL_1, setI_2, setL_2]; simp; omega)) (by decide) dX12_changes_82 rfl ?_
      refine g_iconst X dX12_changes_83 rfl ?_
      have hc : chgM M k x := ⟨by assumption, by omega⟩
      refine g_int (b := bI (chgM M k x)) (bI_t hc).symm ?_
      exact g_ret Y dX12_changes_84 ⟨_, rfl⟩ ⟨rfl, rfl, by rw [cif_t hc]; rfl⟩
    · skip
      refine g_iconst X dX12_changes_29 rfl ?_
      have hc : ¬ chgM M k x := by
        intro q
        first
          | exact q.1 (by assumption)
          | (have := q.2; omega)
      refine g_int (b := bI (chgM M k x)) (bI_f hc).symm ?_
      exact g_ret Y dX12_changes_30 ⟨_, rfl⟩ ⟨rfl, rfl, by rw [cif_f hc]⟩
