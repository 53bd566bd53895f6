theorem addF_re {M : Mem} {i c k : Int} {x : Int64} (h : k ≠ i) : RE M (addF M i c x) k := by
  intro q f j _ _
  unfold addF
  split <;> simp [setI_1, setI_2, setL_1, setL_2, h]
theorem addS_re {M : Mem} {i p k : Int} (h : k ≠ i) : RE M (addS M i p) k := by
  intro q f j _ _
  unfold addS
  split <;> simp [setI_1, setI_2, h]
theorem addF_ex {M M' : Mem} {i c : Int} {x : Int64} (h : Ex exR M M') : Ex exR M (addF M' i c x) := by
  unfold addF
  split
  · exact (((((h.setI rfl).setL rfl).setI rfl).setI rfl).setI rfl).setI rfl
  · exact ((((h.setI rfl).setL rfl).setI rfl).setI rfl).setI rfl
theorem addS_ex {M M' : Mem} {i p : Int} (h : Ex exR M M') : Ex exR M (addS M' i p) := by
  unfold addS
  split
  · exact ((h.setI rfl).setI rfl).setI rfl
  · exact h
theorem RD.spb {M : Mem} {i : Int} (h : RD M i) : 0 ≤ (M.1 16 7 i 0) ∧ (M.1 16 7 i 0) ≤ 60 := by
  rw [h.sn]
  have := sm_b1 (f := fun j => bI ((M.1 19 0 i j) ≠ 0)) (lo := 0) (hi := 60) (by decide) (fun k _ _ => bI_b _)
  omega
/-- of reel i the first p frames are as those of reel o -/
def CpR (M : Mem) (i o p : Int) (M1 : Mem) : Prop := Ex exR M M1 ∧ (∀ k, k ≠ i → RE M M1 k) ∧ RD M1 i ∧ (M1.1 16 6 i 0) = p ∧ (∀ f, f < 6 → M1.1 16 f i 0 = M.1 16 f i 0) ∧ (∀ j, 0 ≤ j → j < p → (M1.1 17 0 i j) = (M.1 17 0 o j) ∧ (M1.2 18 0 i j) = (M.2 18 0 o j) ∧ (M1.1 19 0 i j) = (M.1 19 0 o j))
theorem CpR.step0 {M M1 : Mem} {i o p : Int} (h : CpR M i o p M1) (hio : i ≠ o) (ho : RD M o) (p0 : 0 ≤ p) (p1 : p < (M.1 16 6 o 0)) (hs : (M.1 19 0 o p) = 0) : CpR M i o (p + 1) (addF M1 i (M1.1 17 0 o p) (M1.2 18 0 o p)) := by
  obtain ⟨h1, h2, h3, h4, h5, h6⟩ := h
  have eo := h2 o (Ne.symm hio)
  have cb := ho.cd p p0 p1
  have fb := ho.fc
  have ec := (eo 17 0 p (by decide) (by decide)).1
  have ef := (eo 18 0 p (by decide) (by decide)).2
  obtain ⟨e6, -, -, -, e16, e17, e18, e19, -, -⟩ := addF_sc (M := M1) (i := i) (c := (M1.1 17 0 o p)) (x := (M1.2 18 0 o p))
  refine ⟨addF_ex h1, fun k hk => (h2 k hk).tr (addF_re hk), h3.keepF (by omega) (by omega) (by omega), by rw [e6, h4], fun f hf => (e16 f hf).trans (h5 f hf), fun j j0 j1 => ?_⟩
  rw [e17, e18, e19, h4]
  by_cases q : j = p
  · subst q
    rw [if_pos rfl, if_pos rfl, hs]
    exact ⟨ec, ef, h3.s0 j (by omega) (by omega)⟩
  · rw [if_neg q, if_neg q]
    exact h6 j j0 (by omega)
theorem CpR.step1 {M M1 : Mem} {i o p : Int} (h : CpR M i o p M1) (hio : i ≠ o) (ho : RD M o) (p0 : 0 ≤ p) (p1 : p < (M.1 16 6 o 0)) (hs : (M.1 19 0 o p) ≠ 0) : CpR M i o (p + 1) (addS (addF M1 i (M1.1 17 0 o p) (M1.2 18 0 o p)) i p) := by
  obtain ⟨h1, h2, h3, h4, h5, h6⟩ := h
  have eo := h2 o (Ne.symm hio)
  have cb := ho.cd p p0 p1
  have fb := ho.fc
  have ec := (eo 17 0 p (by decide) (by decide)).1
  have ef := (eo 18 0 p (by decide) (by decide)).2
  obtain ⟨e6, -, -, -, e16, e17, e18, e19, -, -⟩ := addF_sc (M := M1) (i := i) (c := (M1.1 17 0 o p)) (x := (M1.2 18 0 o p))
  have hk2 := h3.keepF (c := (M1.1 17 0 o p)) (x := (M1.2 18 0 o p)) (by omega) (by omega) (by omega)
  have z : (addF M1 i (M1.1 17 0 o p) (M1.2 18 0 o p)).1 19 0 i p = 0 := by rw [e19]; exact h3.s0 p (by omega) (by omega)
  obtain ⟨s2, s7, s16, s17, s19, -, -⟩ := addS_sc z
  refine ⟨addS_ex (addF_ex h1), fun k hk => ((h2 k hk).tr (addF_re hk)).tr (addS_re hk), hk2.keepS p0 (by rw [e6]; omega), by rw [s16 6 (by decide), e6, h4], fun f hf => ((s16 f (by omega)).trans (e16 f hf)).trans (h5 f hf), fun j j0 j1 => ?_⟩
  rw [s17, s19, s2, e17, e18, e19, h4]
  by_cases q : j = p
  · subst q
    rw [if_pos rfl, if_pos rfl, if_pos rfl]
    refine ⟨ec, ef, ?_⟩
    rcases ho.sp j p0 (by omega) with y | y
    · exact absurd y hs
    · exact y.symm
  · rw [if_neg q, if_neg q, if_neg q]
    exact h6 j j0 (by omega)
set_option maxRecDepth 100000 in
set_option maxHeartbeats 4000000 in
theorem c_X8_printFrom {δ : Dx} {nm : List (Nat × Int)} {ad : Ad} {M : Mem} {i o : Int} (hN : NmOk nm) (i0 : 0 ≤ i) (i1 : i < 12) (o0 : 0 ≤ o) (o1 : o < 12) (hio : i ≠ o) (hi : RD M i) (ho : RD M o) (hz : (M.1 16 6 i 0) = 0) : Ct δ md_X8_printFrom 0 0 nm ad M [.ref (ad 16 i), .ref (ad 16 o)] (pGn ad (CpR M i o (M.1 16 6 o 0))) := by
  refine Ct_of (ins := .return_) (ok := okN) [some (.ref (ad 16 i)), some (.ref (ad 16 o)), none] (by decide +kernel) rfl (Nat.le_of_ble_eq_true rfl) (fun κ s hs X hr hQ hδ => endN rfl hs X hr hQ hδ) (fun κ X hNL hδ Y => ?_)
  refine g_rm (fun hM => ?_)
  have fb := ho.fc
  refine g_iconst X dX8_printFrom_0 rfl ?_
  refine g_istore_2 X dX8_printFrom_1 rfl (lt_kN hNL rfl) rfl ?_
  have lp2 : ∀ (p : Int) (M1 : Mem) (p0 : 0 ≤ p) (p1 : p ≤ (M.1 16 6 o 0)) (hC : CpR M i o p M1), G κ nm ad M1 2 [some (.ref (ad 16 i)), some (.ref (ad 16 o)), some (.int (iI p))] [] 0 0 := by
    refine ind2 (fun p M1 => (60 - p).toNat) ?_
    intro p M1 ih2 p0 p1 hC
    refine g_rm (fun hM2 => ?_)
    have hre := hC.2.1 o (Ne.symm hio)
    have efo := (hre 16 6 0 (by decide) (by decide)).1
    have eso := (hre 19 0 p (by decide) (by decide)).1
    have eco := (hre 17 0 p (by decide) (by decide)).1
    have lg1 := hC.2.2.1.lg
    have efi := hC.2.2.2.1
    refine g_iload_n X dX8_printFrom_2 rfl rfl ?_
    refine g_aload_n X dX8_printFrom_3 rfl rfl ?_
    refine g_getI X ci8 (n16 hN (by omega) (by omega)) (en16 _ _ _ _) (by decide) fl_X8_57 rfl dX8_printFrom_4 rfl (fun r4 => ?_)
    refine g_icmp_ge (tgt := 46) X dX8_printFrom_7 rfl rfl (by omega) (by omega) (fun h7 => ?_) (fun h7 => ?_)
    · skip
      have ep : p = (M.1 16 6 o 0) := by omega
      exact g_retn Y dX8_printFrom_46 rfl ⟨rfl, rfl, by rw [← ep]; exact hC⟩
    · skip
      have cb := ho.cd p p0 (by omega)
      refine g_aload_n X dX8_printFrom_10 rfl rfl ?_
      refine g_aload_n X dX8_printFrom_11 rfl rfl ?_
      refine g_get X ci8 (n16 hN (by omega) (by omega)) (en16 _ _ _ _) (by decide) fl_X8_9 rfl dX8_printFrom_12 rfl ?_
      refine g_iload_n X dX8_printFrom_15 rfl rfl ?_
      refine g_iald X dX8_printFrom_16 rfl (n17 hN (by omega) (by omega)) (en17 _ _ _ _) (t0 := 0) rfl (by omega) (by omega) (by decide) (fun r16 => ?_)
      refine g_aload_n X dX8_printFrom_17 rfl rfl ?_
      refine g_get X ci8 (n16 hN (by omega) (by omega)) (en16 _ _ _ _) (by decide) fl_X8_15 rfl dX8_printFrom_18 rfl ?_
      refine g_iload_n X dX8_printFrom_21 rfl rfl ?_
      refine g_lald X dX8_printFrom_22 rfl (n18 hN (by omega) (by omega)) (en18 _ _ _ _) (t0 := 1) rfl (by omega) (by omega) (by decide) ?_
      refine g_iV2_n X w_X8_addFrame ml_X8_72 dX8_printFrom_23 rfl (n16 hN (by omega) (by omega)) (en16 _ _ _ _) ⟨⟨Nat.le_of_ble_eq_true rfl, Nat.le_of_ble_eq_true rfl⟩, Nat.le_of_ble_eq_true rfl, Nat.le_of_ble_eq_true rfl⟩ (Nat.le_of_ble_eq_true rfl) (c_X8_addFrame hN (by omega) (by omega) (by omega) (by omega) (by omega) (by omega) (by omega)) ?_
      have fo := hC.2.2.1.keepF (c := (M1.1 17 0 o p)) (x := (M1.2 18 0 o p)) (by omega) (by omega) (by omega)
      have sb := fo.spb
      have ef6 := (addF_sc (M := M1) (i := i) (c := (M1.1 17 0 o p)) (x := (M1.2 18 0 o p))).1
      have cb2 := fo.cd p p0 (by omega)
      have es2 := ((addF_re (M := M1) (c := (M1.1 17 0 o p)) (x := (M1.2 18 0 o p)) (Ne.symm hio)) 19 0 p (by decide) (by decide)).1
      refine g_aload_n X dX8_printFrom_26 rfl rfl ?_
      refine g_get X ci8 (n16 hN (by omega) (by omega)) (en16 _ _ _ _) (by decide) fl_X8_19 rfl dX8_printFrom_27 rfl ?_
      refine g_iload_n X dX8_printFrom_30 rfl rfl ?_
      refine g_zald X dX8_printFrom_31 rfl (n19 hN (by omega) (by omega)) (en19 _ _ _ _) (t0 := 2) rfl (by first | omega | (simp only [setI_1, setL_1, setI_2, setL_2]; omega) | (simp only [setI_1, setL_1, setI_2, setL_2]; simp; omega)) (by first | omega | (simp only [setI_1, setL_1, setI_2, setL_2]; omega) | (simp only [setI_1, setL_1, setI_2, setL_2]; simp; omega)) (by decide) (fun r31 => ?_)
      refine g_int (b := M1.1 19 0 o p) es2 ?_
      have r31x := hM2 19 0 o p
      refine g_if_eq (tgt := 40) X dX8_printFrom_32 rfl rfl (by first | omega | (simp only [setI_1, setL_1, setI_2, setL_2]; omega) | (simp only [setI_1, setL_1, setI_2, setL_2]; simp; omega)) (fun h32 => ?_) (fun h32 => ?_)
      · skip
        refine g_iinc_2 X dX8_printFrom_40 rfl (lt_kN hNL rfl) rfl ?_
        refine g_goto (pc' := 2) X dX8_printFrom_43 rfl ?_
        exact ih2 (p + 1) _ (by omega) (by omega) (by omega) (by first | exact hC.step0 hio ho p0 (by omega) (by omega) | exact hC.step1 hio ho p0 (by omega) (by omega))
      · skip
        refine g_aload_n X dX8_printFrom_35 rfl rfl ?_
        refine g_iload_n X dX8_printFrom_36 rfl rfl ?_
        refine g_iV1_n X w_X8_addSplice ml_X8_76 dX8_printFrom_37 rfl (n16 hN (by omega) (by omega)) (en16 _ _ _ _) ⟨⟨Nat.le_of_ble_eq_true rfl, Nat.le_of_ble_eq_true rfl⟩, Nat.le_of_ble_eq_true rfl, Nat.le_of_ble_eq_true rfl⟩ (Nat.le_of_ble_eq_true rfl) (c_X8_addSplice hN (by omega) (by omega) (by omega) (by omega) (by omega) (by omega)) ?_
        refine g_iinc_2 X dX8_printFrom_40 rfl (lt_kN hNL rfl) rfl ?_
        refine g_goto (pc' := 2) X dX8_printFrom_43 rfl ?_
        exact ih2 (p + 1) _ (by omega) (by omega) (by omega) (by first | exact hC.step0 hio ho p0 (by omega) (by omega) | exact hC.step1 hio ho p0 (by omega) (by omega))
  exact lp2 0 _ (by omega) (by omega) ⟨Ex.rf M, fun k _ => RE.rf M k, hi, hz, fun _ _ => rfl, fun j j0 j1 => by omega⟩
theorem bst_f (M : Mem) (c : Int) : ∀ n : Nat, bst M c n ≠ -1 → (M.1 20 0 (bst M c n) c) ≠ -1
  | 0, h => absurd rfl h
  | n + 1, h => by
    unfold bst at h ⊢
    by_cases q : ((M.1 16 4 ((n : Int)) 0) < 300 ∧ (M.1 20 0 ((n : Int)) c) ≠ -1 ∧ (bst M c n = -1 ∨ btr M n (bst M c n)))
    · rw [cif_t q] at h ⊢
      exact q.2.1
    · rw [cif_f q] at h ⊢
      exact bst_f M c n h
/-- a code of a version is taken into the edition -/
noncomputable def takeC (M : Mem) (c : Int) : Mem := if best M c = -1 then takeM M c (-1) (-1) 0 else takeM M c (best M c) (M.1 20 0 (best M c) c) (M.2 18 0 (best M c) ((M.1 20 0 (best M c) c)))
set_option maxRecDepth 100000 in
set_option maxHeartbeats 4000000 in
theorem c_X11_takeCode {δ : Dx} {nm : List (Nat × Int)} {ad : Ad} {M : Mem} {c : Int} (hN : NmOk nm) (rc : 0 ≤ (M.1 0 1 0 0) ∧ (M.1 0 1 0 0) ≤ 12) (hr : ∀ i, 0 ≤ i → i < (M.1 0 1 0 0) → RD M i) (c0 : 0 ≤ c) (c1 : c ≤ 999) (e0 : 0 ≤ (M.1 10 0 0 0) ∧ (M.1 10 0 0 0) < 120) : Ct δ md_X11_takeCode 0 0 nm ad M [.ref (ad 0 0), .int (iI c)] (pN ad (takeC M c)) := by
  refine Ct_of (ins := .return_) (ok := okN) [some (.ref (ad 0 0)), some (.int (iI c)), none, none] (by decide +kernel) rfl (Nat.le_of_ble_eq_true rfl) (fun κ s hs X hr hQ hδ => endN rfl hs X hr hQ hδ) (fun κ X hNL hδ Y => ?_)
  refine g_rm (fun hM => ?_)
  have bb := best_b M c rc.1
  refine g_aload_n X dX11_takeCode_0 rfl rfl ?_
  refine g_iload_n X dX11_takeCode_1 rfl rfl ?_
  refine g_iV1_v X w_X11_bestReelWith ml_X11_338 dX11_takeCode_2 rfl (n0 hN) (en0 _ _ _ _) ⟨⟨Nat.le_of_ble_eq_true rfl, Nat.le_of_ble_eq_true rfl⟩, Nat.le_of_ble_eq_true rfl, Nat.le_of_ble_eq_true rfl⟩ (Nat.le_of_ble_eq_true rfl) (c_X11_bestReelWith hN (by omega) (by omega) (by omega)) ?_
  refine g_istore_2 X dX11_takeCode_5 rfl (lt_kN hNL rfl) rfl ?_
  refine g_iload_n X dX11_takeCode_6 rfl rfl ?_
  refine g_iconst X dX11_takeCode_7 rfl ?_
  refine g_icmp_ne (tgt := 23) X dX11_takeCode_8 rfl rfl (by omega) (by omega) (fun h8 => ?_) (fun h8 => ?_)
  · skip
    have hb : best M c ≠ -1 := by omega
    have hd := hr (best M c) (by omega) (by omega)
    have fb := hd.fc
    have ff := bst_f M c ((M.1 0 1 0 0)).toNat hb
    have fl : 0 ≤ (M.1 20 0 (best M c) c) ∧ (M.1 20 0 (best M c) c) < (M.1 16 6 (best M c) 0) := by
      rcases hd.ft c c0 c1 with z | z
      · exact absurd z.1 ff
      · exact ⟨z.1, z.2.1⟩
    refine g_aload_n X dX11_takeCode_23 rfl rfl ?_
    refine g_get X ci11 (n0 hN) (en0 _ _ _ _) (by decide) fl_X11_11 rfl dX11_takeCode_24 rfl ?_
    refine g_iload_n X dX11_takeCode_27 rfl rfl ?_
    refine g_rald X (n1 hN) (en1 _ _ _ _) (t0 := 4) rfl (by omega) (by omega) (by decide) dX11_takeCode_28 rfl ?_
    refine g_get X ci8 (n16 hN (by omega) (by omega)) (en16 _ _ _ _) (by decide) fl_X11_345 rfl dX11_takeCode_29 rfl ?_
    refine g_iload_n X dX11_takeCode_32 rfl rfl ?_
    refine g_iald X dX11_takeCode_33 rfl (n20 hN (by omega) (by omega)) (en20 _ _ _ _) (t0 := 0) rfl (by omega) (by omega) (by decide) (fun r33 => ?_)
    refine g_istore_3 X dX11_takeCode_34 rfl (lt_kN hNL rfl) rfl ?_
    refine g_aload_n X dX11_takeCode_35 rfl rfl ?_
    refine g_get X ci11 (n0 hN) (en0 _ _ _ _) (by decide) fl_X11_54 rfl dX11_takeCode_36 rfl ?_
    refine g_iload_n X dX11_takeCode_39 rfl rfl ?_
    refine g_iload_n X dX11_takeCode_40 rfl rfl ?_
    refine g_iload_n X dX11_takeCode_41 rfl rfl ?_
    refine g_aload_n X dX11_takeCode_42 rfl rfl ?_
    refine g_get X ci11 (n0 hN) (en0 _ _ _ _) (by decide) fl_X11_11 rfl dX11_takeCode_43 rfl ?_
    refine g_iload_n X dX11_takeCode_46 rfl rfl ?_
    refine g_rald X (n1 hN) (en1 _ _ _ _) (t0 := 4) rfl (by omega) (by omega) (by decide) dX11_takeCode_47 rfl ?_
    refine g_get X ci8 (n16 hN (by omega) (by omega)) (en16 _ _ _ _) (by decide) fl_X11_155 rfl dX11_takeCode_48 rfl ?_
    refine g_iload_n X dX11_takeCode_51 rfl rfl ?_
    refine g_lald X dX11_takeCode_52 rfl (n18 hN (by omega) (by omega)) (en18 _ _ _ _) (t0 := 1) rfl (by omega) (by omega) (by decide) ?_
    refine g_iV4_n X w_X2_take ml_X11_341 dX11_takeCode_53 rfl (n10 hN) (en10 _ _ _ _) ⟨⟨Nat.le_of_ble_eq_true rfl, Nat.le_of_ble_eq_true rfl⟩, Nat.le_of_ble_eq_true rfl, Nat.le_of_ble_eq_true rfl⟩ (Nat.le_of_ble_eq_true rfl) (c_X2_take hN (by omega) (by omega) (by omega) (by omega)) ?_
    exact g_retn Y dX11_takeCode_56 rfl ⟨rfl, rfl, by unfold takeC; rw [if_neg (by omega)]⟩
  · skip
    refine g_aload_n X dX11_takeCode_11 rfl rfl ?_
    refine g_get X ci11 (n0 hN) (en0 _ _ _ _) (by decide) fl_X11_54 rfl dX11_takeCode_12 rfl ?_
    refine g_iload_n X dX11_takeCode_15 rfl rfl ?_
    refine g_iconst X dX11_takeCode_16 rfl ?_
    refine g_iconst X dX11_takeCode_17 rfl ?_
    refine g_lconst X dX11_takeCode_18 rfl rfl ?_
    refine g_iV4_n X w_X2_take ml_X11_341 dX11_takeCode_19 rfl (n10 hN) (en10 _ _ _ _) ⟨⟨Nat.le_of_ble_eq_true rfl, Nat.le_of_ble_eq_true rfl⟩, Nat.le_of_ble_eq_true rfl, Nat.le_of_ble_eq_true rfl⟩ (Nat.le_of_ble_eq_true rfl) (c_X2_take hN (by omega) (by omega) (by omega) (by omega)) ?_
    exact g_retn Y dX11_takeCode_22 rfl ⟨rfl, rfl, by unfold takeC; rw [if_pos (by omega)]; rfl⟩
