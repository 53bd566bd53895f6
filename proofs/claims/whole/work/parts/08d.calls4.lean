/-- n years on, of the first k reels -/
def PsR (M : Mem) (n k : Int) (M1 : Mem) : Prop := Ex (fun q => q == 0 || q == 16) M M1 ∧ (M1.1 0 2 0 0) = (M.1 0 2 0 0) + n ∧ (∀ f, f ≠ 2 → M1.1 0 f 0 0 = M.1 0 f 0 0) ∧ (∀ (f : Nat) (i : Int), f ≠ 4 → M1.1 16 f i 0 = M.1 16 f i 0) ∧ (∀ i, (M1.1 16 4 i 0) = if 0 ≤ i ∧ i < k then (M.1 16 4 i 0) + n * yearly M i else (M.1 16 4 i 0))
theorem PsR.z (M : Mem) (n : Int) : PsR M n 0 (setI M 0 2 0 0 ((M.1 0 2 0 0) + n)) := by
  refine ⟨(Ex.rf M).setI rfl, by simp [setI_1], fun f hf => by simp [setI_1, hf], fun f i hf => by simp [setI_1], fun i => ?_⟩
  rw [if_neg (by omega)]
  simp [setI_1]
theorem PsR.yr {M M1 : Mem} {n k : Int} (h : PsR M n k M1) (i : Int) : yearly M1 i = yearly M i := by
  unfold yearly
  rw [h.2.2.2.1 0 i (by decide), h.2.2.2.1 5 i (by decide)]
theorem PsR.s {M M1 : Mem} {n k : Int} (h : PsR M n k M1) (k0 : 0 ≤ k) : PsR M n (k + 1) (setI M1 16 4 k 0 ((M1.1 16 4 k 0) + n * yearly M1 k)) := by
  have ey := h.yr k
  obtain ⟨h1, h2, h3, h4, h5⟩ := h
  refine ⟨h1.setI rfl, by simp [setI_1]; exact h2, fun f hf => by simp [setI_1]; exact h3 f hf, fun f i hf => by simp [setI_1, hf]; exact h4 f i hf, fun i => ?_⟩
  rw [setI_1, h5, ey]
  by_cases q : i = k
  · subst q
    rw [if_pos ⟨rfl, rfl, rfl, rfl⟩, if_neg (by omega), if_pos ⟨k0, by omega⟩]
  · rw [if_neg (fun z => q z.2.2.1), h5]
    by_cases z : 0 ≤ i ∧ i < k
    · rw [if_pos z, if_pos ⟨z.1, by omega⟩]
    · rw [if_neg z, if_neg (by omega)]
set_option maxRecDepth 100000 in
set_option maxHeartbeats 4000000 in
theorem c_X11_pass {δ : Dx} {nm : List (Nat × Int)} {ad : Ad} {M : Mem} {n : Int} (hN : NmOk nm) (rn : rng n) (rc : 0 ≤ (M.1 0 1 0 0) ∧ (M.1 0 1 0 0) ≤ 12) (hg : ∀ i, 0 ≤ i → i < (M.1 0 1 0 0) → (0 ≤ (M.1 16 3 i 0) ∧ (M.1 16 3 i 0) ≤ 12) ∧ (0 ≤ (M.1 16 4 i 0) ∧ (M.1 16 4 i 0) ≤ 1000)) (hy : 2000 ≤ (M.1 0 2 0 0) ∧ (M.1 0 2 0 0) ≤ 2200) : CtX δ md_X11_pass 2 12 nm ad M [.ref (ad 0 0), .int (iI n)] (pC ((1 ≤ n ∧ n ≤ 100) ∧ ((M.1 0 2 0 0) + n ≤ 2200)) (pG (.int (iI ((M.1 0 2 0 0) + n))) ad (PsR M n (M.1 0 1 0 0)))) (fun E => (E = "java/lang/IllegalArgumentException" ∧ ¬ (1 ≤ n ∧ n ≤ 100)) ∨ (E = "java/lang/IllegalStateException" ∧ (1 ≤ n ∧ n ≤ 100) ∧ ¬ ((M.1 0 2 0 0) + n ≤ 2200))) := by
  refine CtX_of (ins := .ireturn) (ok := okI) [some (.ref (ad 0 0)), some (.int (iI n)), none] (by decide +kernel) rfl (Nat.le_of_ble_eq_true rfl) (fun κ X hr T => xendI rfl X hr T) (fun κ X hNL T Y => ?_)
  refine g_rm (fun hM => ?_)
  refine g_iload_n X dX11_pass_0 rfl rfl ?_
  refine g_iconst X dX11_pass_1 rfl ?_
  refine g_bipush X dX11_pass_2 rfl (by decide) ?_
  refine g_iS3_v X w_X11_isWithin ml_X11_67 dX11_pass_4 rfl ⟨⟨Nat.le_of_ble_eq_true rfl, Nat.le_of_ble_eq_true rfl⟩, Nat.le_of_ble_eq_true rfl, Nat.le_of_ble_eq_true rfl⟩ (Nat.le_of_ble_eq_true rfl) (c_X11_isWithin hN (by omega) (by omega) (by omega)) ?_
  refine g_xS1_n X T w_X11_needInRange ml_X11_71 dX11_pass_7 rfl ⟨⟨Nat.le_of_ble_eq_true rfl, Nat.le_of_ble_eq_true rfl⟩, Nat.le_of_ble_eq_true rfl, Nat.le_of_ble_eq_true rfl⟩ (Nat.le_of_ble_eq_true rfl) (c_X11_needInRange hN) (Nat.le_of_ble_eq_true rfl) (Nat.le_of_ble_eq_true rfl) (fun E h => Or.inl h) (fun hc7 => ?_)
  refine g_cutB 27 ((M.1 0 2 0 0) + n ≤ 2200) (fun ct10 cf10 => ?_) ?_
  · skip
    refine g_aload_n X dX11_pass_10 rfl rfl ?_
    refine g_getI X ci11 (n0 hN) (en0 _ _ _ _) (by decide) fl_X11_19 rfl dX11_pass_11 rfl (fun r11 => ?_)
    refine g_iload_n X dX11_pass_14 rfl rfl ?_
    refine g_iadd X dX11_pass_15 rfl ?_
    refine g_sipush X dX11_pass_16 rfl (by decide) ?_
    refine g_icmp_gt (tgt := 26) X dX11_pass_19 rfl rfl (by omega) (by omega) (fun h19 => ?_) (fun h19 => ?_)
    · skip
      refine g_iconst X dX11_pass_26 rfl ?_
      exact cf10 (by omega)
    · skip
      refine g_iconst X dX11_pass_22 rfl ?_
      refine g_goto (pc' := 27) X dX11_pass_23 rfl ?_
      exact ct10 (by omega)
  · skip
    refine g_xS1_n X T w_X11_needPossible ml_X11_75 dX11_pass_27 rfl ⟨⟨Nat.le_of_ble_eq_true rfl, Nat.le_of_ble_eq_true rfl⟩, Nat.le_of_ble_eq_true rfl, Nat.le_of_ble_eq_true rfl⟩ (Nat.le_of_ble_eq_true rfl) (c_X11_needPossible hN) (Nat.le_of_ble_eq_true rfl) (Nat.le_of_ble_eq_true rfl) (fun E h => Or.inr ⟨h.1, by omega, h.2⟩) (fun hc27 => ?_)
    refine g_aload_n X dX11_pass_30 rfl rfl ?_
    refine g_dup X dX11_pass_31 rfl rfl ?_
    refine g_getI X ci11 (n0 hN) (en0 _ _ _ _) (by decide) fl_X11_19 rfl dX11_pass_32 rfl (fun r32 => ?_)
    refine g_iload_n X dX11_pass_35 rfl rfl ?_
    refine g_iadd X dX11_pass_36 rfl ?_
    refine g_putI X ci11 (n0 hN) (en0 _ _ _ _) (ep0_2 _ _ _ _ _) (by omega) (by decide) rfl rfl rfl (Nat.le_of_ble_eq_true rfl) fl_X11_19 dX11_pass_37 rfl ?_
    refine g_iconst X dX11_pass_40 rfl ?_
    refine g_istore_2 X dX11_pass_41 rfl (lt_kN hNL rfl) rfl ?_
    have lp42 : ∀ (k : Int) (M1 : Mem) (k0 : 0 ≤ k) (k1 : k ≤ (M.1 0 1 0 0)) (hP : PsR M n k M1), G κ nm ad M1 42 [some (.ref (ad 0 0)), some (.int (iI n)), some (.int (iI k))] [] 2 12 := by
      refine ind2 (fun k M1 => (12 - k).toNat) ?_
      intro k M1 ih42 k0 k1 hP
      refine g_rm (fun hM42 => ?_)
      have er := hP.2.2.1 1 (by decide)
      have ed := hP.2.2.2.2 k
      rw [if_neg (by omega)] at ed
      have yb := yearly_b M1 k
      have ym : n * yearly M1 k ≤ 100 * 3 := Int.mul_le_mul (by omega) yb.2 (by omega) (by decide)
      have yn : 0 ≤ n * yearly M1 k := Int.mul_nonneg (by omega) (by omega)
      refine g_iload_n X dX11_pass_42 rfl rfl ?_
      refine g_aload_n X dX11_pass_43 rfl rfl ?_
      refine g_getI X ci11 (n0 hN) (en0 _ _ _ _) (by decide) fl_X11_15 rfl dX11_pass_44 rfl (fun r44 => ?_)
      refine g_icmp_ge (tgt := 81) X dX11_pass_47 rfl rfl (by omega) (by omega) (fun h47 => ?_) (fun h47 => ?_)
      · skip
        refine g_aload_n X dX11_pass_81 rfl rfl ?_
        refine g_getI X ci11 (n0 hN) (en0 _ _ _ _) (by decide) fl_X11_19 rfl dX11_pass_82 rfl (fun r82 => ?_)
        have ek : k = (M.1 0 1 0 0) := by omega
        refine g_int (b := (M.1 0 2 0 0) + n) hP.2.1 ?_
        exact g_ret Y dX11_pass_85 ⟨_, rfl⟩ ⟨⟨by omega, by omega⟩, rfl, rfl, by rw [← ek]; exact hP⟩
      · skip
        have gg := hg k (by omega) (by omega)
        refine g_aload_n X dX11_pass_50 rfl rfl ?_
        refine g_get X ci11 (n0 hN) (en0 _ _ _ _) (by decide) fl_X11_11 rfl dX11_pass_51 rfl ?_
        refine g_iload_n X dX11_pass_54 rfl rfl ?_
        refine g_rald X (n1 hN) (en1 _ _ _ _) (t0 := 4) rfl (by omega) (by omega) (by decide) dX11_pass_55 rfl ?_
        refine g_dup X dX11_pass_56 rfl rfl ?_
        refine g_getI X ci8 (n16 hN (by omega) (by omega)) (en16 _ _ _ _) (by decide) fl_X11_121 rfl dX11_pass_57 rfl (fun r57 => ?_)
        refine g_iload_n X dX11_pass_60 rfl rfl ?_
        refine g_aload_n X dX11_pass_61 rfl rfl ?_
        refine g_get X ci11 (n0 hN) (en0 _ _ _ _) (by decide) fl_X11_11 rfl dX11_pass_62 rfl ?_
        refine g_iload_n X dX11_pass_65 rfl rfl ?_
        refine g_rald X (n1 hN) (en1 _ _ _ _) (t0 := 4) rfl (by omega) (by omega) (by decide) dX11_pass_66 rfl ?_
        refine g_iV0_v X w_X8_yearlyDecay ml_X11_310 dX11_pass_67 rfl (n16 hN (by omega) (by omega)) (en16 _ _ _ _) ⟨⟨Nat.le_of_ble_eq_true rfl, Nat.le_of_ble_eq_true rfl⟩, Nat.le_of_ble_eq_true rfl, Nat.le_of_ble_eq_true rfl⟩ (Nat.le_of_ble_eq_true rfl) (c_X8_yearlyDecay hN (by omega) (by omega)) ?_
        refine g_imul X dX11_pass_70 rfl ?_
        refine g_iadd X dX11_pass_71 rfl ?_
        refine g_putI X ci8 (n16 hN (by omega) (by omega)) (en16 _ _ _ _) (ep16_4 _ _ _ _ _) (by omega) (by decide) rfl rfl rfl (Nat.le_of_ble_eq_true rfl) fl_X11_121 dX11_pass_72 rfl ?_
        refine g_iinc_2 X dX11_pass_75 rfl (lt_kN hNL rfl) rfl ?_
        refine g_goto (pc' := 42) X dX11_pass_78 rfl ?_
        exact ih42 (k + 1) _ (by omega) (by omega) (by omega) (hP.s k0)
    exact lp42 0 _ (by omega) (by omega) (PsR.z M n)
set_option maxRecDepth 100000 in
set_option maxHeartbeats 4000000 in
theorem c_X11_scratch {δ : Dx} {nm : List (Nat × Int)} {ad : Ad} {M : Mem} {p f t thr : Int} {mc ms : Nat} (hN : NmOk nm) (rp : rng p) (rf : rng f) (rt : rng t) (rthr : rng thr) (e0 : 0 ≤ (M.1 10 0 0 0) ∧ (M.1 10 0 0 0) ≤ 120) (hc : CapOk M) (cm : (M.1 12 0 0 0) + 120 ≤ 61440) (nb : ∀ k, 0 ≤ k → k < 120 → 0 ≤ (M.1 31 6 k 0) ∧ (M.1 31 6 k 0) ≤ 99000) (hm : 3 ≤ mc ∧ 18 ≤ ms) (hroom : (0 ≤ f ∧ f < (M.1 10 0 0 0)) ∧ (0 ≤ t ∧ t < (M.1 10 0 0 0)) ∧ ((1 ≤ p ∧ p ≤ 6) ∧ (0 ≤ thr ∧ thr ≤ 255) ∧ f ≤ t) → (M.1 13 1 0 0) < (M.1 12 0 0 0) + sm (dI (decS M p f t thr)) f (t + 1) → 6 ≤ mc ∧ 18 + 6 * (M.1 13 1 0 0) ≤ ms) : CtX δ md_X11_scratch mc ms nm ad M [.ref (ad 0 0), .int (iI p), .int (iI f), .int (iI t), .int (iI thr)] (pC ((0 ≤ f ∧ f < (M.1 10 0 0 0)) ∧ (0 ≤ t ∧ t < (M.1 10 0 0 0)) ∧ ((1 ≤ p ∧ p ≤ 6) ∧ (0 ≤ thr ∧ thr ≤ 255) ∧ f ≤ t)) (fun v ad' M' => v = some (.int (iI (sm (dI (decS M p f t thr)) f (t + 1)))) ∧ AdG ad ad' ∧ MdR (decS M p f t thr) (mvS M p) f (t + 1) M M')) (fun E => (E = "java/lang/IndexOutOfBoundsException" ∧ ¬ (0 ≤ f ∧ f < (M.1 10 0 0 0))) ∨ (E = "java/lang/IndexOutOfBoundsException" ∧ (0 ≤ f ∧ f < (M.1 10 0 0 0)) ∧ ¬ (0 ≤ t ∧ t < (M.1 10 0 0 0))) ∨ (E = "java/lang/IllegalArgumentException" ∧ (0 ≤ f ∧ f < (M.1 10 0 0 0)) ∧ (0 ≤ t ∧ t < (M.1 10 0 0 0)) ∧ ¬ ((1 ≤ p ∧ p ≤ 6) ∧ (0 ≤ thr ∧ thr ≤ 255) ∧ f ≤ t))) := by
  refine CtX_of (ins := .ireturn) (ok := okI) [some (.ref (ad 0 0)), some (.int (iI p)), some (.int (iI f)), some (.int (iI t)), some (.int (iI thr))] (by decide +kernel) rfl (Nat.le_of_ble_eq_true rfl) (fun κ X hr T => xendI rfl X hr T) (fun κ X hNL T Y => ?_)
  refine g_rm (fun hM => ?_)
  refine g_iload_n X dX11_scratch_0 rfl rfl ?_
  refine g_aload_n X dX11_scratch_1 rfl rfl ?_
  refine g_get X ci11 (n0 hN) (en0 _ _ _ _) (by decide) fl_X11_54 rfl dX11_scratch_2 rfl ?_
  refine g_getI X ci2 (n10 hN) (en10 _ _ _ _) (by decide) fl_X11_262 rfl dX11_scratch_5 rfl (fun r5 => ?_)
  refine g_xS2_n X T w_X11_needPlace ml_X11_91 dX11_scratch_8 rfl ⟨⟨Nat.le_of_ble_eq_true rfl, Nat.le_of_ble_eq_true rfl⟩, by show _ + 1 ≤ mc; omega, by show _ + 6 ≤ ms; omega⟩ (Nat.le_of_ble_eq_true rfl) (c_X11_needPlace hN (by omega) (by omega)) (by show _ + 1 ≤ mc; omega) (by show _ + 6 ≤ ms; omega) (fun E h => Or.inl h) (fun hc8 => ?_)
  refine g_iload_n X dX11_scratch_11 rfl rfl ?_
  refine g_aload_n X dX11_scratch_12 rfl rfl ?_
  refine g_get X ci11 (n0 hN) (en0 _ _ _ _) (by decide) fl_X11_54 rfl dX11_scratch_13 rfl ?_
  refine g_getI X ci2 (n10 hN) (en10 _ _ _ _) (by decide) fl_X11_262 rfl dX11_scratch_16 rfl (fun r16 => ?_)
  refine g_xS2_n X T w_X11_needPlace ml_X11_91 dX11_scratch_19 rfl ⟨⟨Nat.le_of_ble_eq_true rfl, Nat.le_of_ble_eq_true rfl⟩, by show _ + 1 ≤ mc; omega, by show _ + 6 ≤ ms; omega⟩ (Nat.le_of_ble_eq_true rfl) (c_X11_needPlace hN (by omega) (by omega)) (by show _ + 1 ≤ mc; omega) (by show _ + 6 ≤ ms; omega) (fun E h => Or.inr (Or.inl ⟨h.1, by omega, h.2⟩)) (fun hc19 => ?_)
  refine g_cutB 54 ((1 ≤ p ∧ p ≤ 6) ∧ (0 ≤ thr ∧ thr ≤ 255) ∧ f ≤ t) (fun ct22 cf22 => ?_) ?_
  · skip
    refine g_iload_n X dX11_scratch_22 rfl rfl ?_
    refine g_iconst X dX11_scratch_23 rfl ?_
    refine g_bipush X dX11_scratch_24 rfl (by decide) ?_
    refine g_iS3_v X w_X11_isWithin ml_X11_67 dX11_scratch_26 rfl ⟨⟨Nat.le_of_ble_eq_true rfl, Nat.le_of_ble_eq_true rfl⟩, by show _ + 0 ≤ mc; omega, by show _ + 0 ≤ ms; omega⟩ (Nat.le_of_ble_eq_true rfl) (c_X11_isWithin hN (by omega) (by omega) (by omega)) ?_
    refine g_ifB_eq (tgt := 53) X dX11_scratch_29 rfl rfl (fun h29 => ?_) (fun h29 => ?_)
    · skip
      refine g_iconst X dX11_scratch_53 rfl ?_
      exact cf22 (by omega)
    · skip
      refine g_iload X dX11_scratch_32 rfl rfl ?_
      refine g_iconst X dX11_scratch_34 rfl ?_
      refine g_sipush X dX11_scratch_35 rfl (by decide) ?_
      refine g_iS3_v X w_X11_isWithin ml_X11_67 dX11_scratch_38 rfl ⟨⟨Nat.le_of_ble_eq_true rfl, Nat.le_of_ble_eq_true rfl⟩, by show _ + 0 ≤ mc; omega, by show _ + 0 ≤ ms; omega⟩ (Nat.le_of_ble_eq_true rfl) (c_X11_isWithin hN (by omega) (by omega) (by omega)) ?_
      refine g_ifB_eq (tgt := 53) X dX11_scratch_41 rfl rfl (fun h41 => ?_) (fun h41 => ?_)
      · skip
        refine g_iconst X dX11_scratch_53 rfl ?_
        exact cf22 (by omega)
      · skip
        refine g_iload_n X dX11_scratch_44 rfl rfl ?_
        refine g_iload_n X dX11_scratch_45 rfl rfl ?_
        refine g_icmp_gt (tgt := 53) X dX11_scratch_46 rfl rfl (by omega) (by omega) (fun h46 => ?_) (fun h46 => ?_)
        · skip
          refine g_iconst X dX11_scratch_53 rfl ?_
          exact cf22 (by omega)
        · skip
          refine g_iconst X dX11_scratch_49 rfl ?_
          refine g_goto (pc' := 54) X dX11_scratch_50 rfl ?_
          exact ct22 (by omega)
  · skip
    refine g_xS1_n X T w_X11_needInRange ml_X11_71 dX11_scratch_54 rfl ⟨⟨Nat.le_of_ble_eq_true rfl, Nat.le_of_ble_eq_true rfl⟩, by show _ + 1 ≤ mc; omega, by show _ + 6 ≤ ms; omega⟩ (Nat.le_of_ble_eq_true rfl) (c_X11_needInRange hN) (by show _ + 1 ≤ mc; omega) (by show _ + 6 ≤ ms; omega) (fun E h => Or.inr (Or.inr ⟨h.1, by omega, by omega, h.2⟩)) (fun hc54 => ?_)
    refine g_aload_n X dX11_scratch_57 rfl rfl ?_
    refine g_get X ci11 (n0 hN) (en0 _ _ _ _) (by decide) fl_X11_54 rfl dX11_scratch_58 rfl ?_
    refine g_iload_n X dX11_scratch_61 rfl rfl ?_
    refine g_iload_n X dX11_scratch_62 rfl rfl ?_
    refine g_iload_n X dX11_scratch_63 rfl rfl ?_
    refine g_iload X dX11_scratch_64 rfl rfl ?_
    refine g_iV4 (mc := mc - 3) (ms := ms - 18) X w_X2_mendScratch ml_X11_263 dX11_scratch_66 rfl (n10 hN) (en10 _ _ _ _) ⟨⟨Nat.le_of_ble_eq_true rfl, Nat.le_of_ble_eq_true rfl⟩, by show 0 + 1 + 1 + 1 + (mc - 3) ≤ mc; omega, by show 0 + 6 + 6 + 6 + (ms - 18) ≤ ms; omega⟩ (Nat.le_of_ble_eq_true rfl) (c_X2_mendScratch hN (by omega) (by omega) (by omega) (by omega) (by omega) hc cm nb (fun q => by have := hroom (by omega) q; omega)) (fun v66 ad66 Mc66 hc66 => ?_)
    obtain ⟨hv66, hA66, hR66⟩ := hc66
    subst hv66
    refine g_widen (cl' := mc) (sl' := ms) (by show 0 + 1 + 1 + 1 + (mc - 3) ≤ mc; omega) (by show 0 + 6 + 6 + 6 + (ms - 18) ≤ ms; omega) ?_
    exact g_ret Y dX11_scratch_69 ⟨_, rfl⟩ ⟨⟨by omega, by omega, by omega⟩, rfl, hA66, hR66⟩
