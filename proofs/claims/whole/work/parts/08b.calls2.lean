theorem beginR_re {M : Mem} {i b y l g d k : Int} (h : k ≠ i) : RE M (beginR M i b y l g d) k := by
  intro q f j _ _
  unfold beginR
  simp [fillI_1, fillI_2, setI_1, setI_2, h]
/-- what is told of a reel -/
noncomputable def ofRV (M : Mem) (r w : Int) : Int := if w = 0 then (M.1 16 6 r 0) else if w = 1 then (M.1 16 3 r 0) else if w = 2 then (M.1 16 4 r 0) else if w = 3 then bI ((M.1 16 4 r 0) < 300) else if w = 4 then jumps M r else if w = 5 then missing M r else if w = 6 then faults M r else if w = 7 then gps M r ((M.1 0 1 0 0)).toNat else (M.1 16 1 r 0)
/-- a version that was begun -/
def VOk (M : Mem) (v : Int) : Prop := (0 ≤ (M.1 22 3 v 0) ∧ (M.1 22 3 v 0) ≤ 10) ∧ (∀ s, 0 ≤ s → s < (M.1 22 3 v 0) → (0 ≤ (M.1 23 0 v s) ∧ (M.1 23 0 v s) ≤ (M.1 24 0 v s) ∧ (M.1 24 0 v s) ≤ 999) ∧ 8 ≤ (M.1 25 0 v s) ∧ (M.1 25 0 v s) ≤ 30) ∧ ((M.1 22 4 v 0) = sm (fun s => (M.1 24 0 v s) - (M.1 23 0 v s) + 1) 0 (M.1 22 3 v 0) ∧ 0 ≤ (M.1 22 4 v 0) ∧ (M.1 22 4 v 0) ≤ 120) ∧ (0 ≤ (M.1 22 8 v 0) ∧ (M.1 22 8 v 0) ≤ (M.1 0 7 0 0)) ∧ (∀ k, 0 ≤ k → k < (M.1 22 8 v 0) → 0 ≤ (M.1 26 0 v k) ∧ (M.1 26 0 v k) ≤ 9) ∧ (0 ≤ (M.1 22 2 v 0) ∧ (M.1 22 2 v 0) ≤ 100000) ∧ (∀ h, 0 ≤ h → h < 10 → (M.1 30 0 v h) = 0 ∨ (M.1 30 0 v h) = 1)
noncomputable def ofVV (M : Mem) (v w : Int) : Int := if w = 0 then (M.1 22 4 v 0) else if w = 1 then rdN M v else if w = 2 then (if 2 < (M.1 22 2 v 0) then 2 else (M.1 22 2 v 0)) else if w = 3 then dur M v else if w = 4 then (M.1 22 0 v 0) else (M.1 22 1 v 0)
noncomputable def ofFV (M : Mem) (p w : Int) : Int := if w = 0 then (M.1 31 0 p 0) else if w = 1 then (M.1 31 1 p 0) else if w = 2 then (M.1 31 2 p 0) else if w = 3 then unl (M.2 31 4 p 0) (M.2 31 3 p 0) else (M.1 31 6 p 0)
set_option maxRecDepth 100000 in
set_option maxHeartbeats 4000000 in
theorem c_X11_ofReel {δ : Dx} {nm : List (Nat × Int)} {ad : Ad} {M : Mem} {r w : Int} (hN : NmOk nm) (rr : rng r) (rw : rng w) (rc : 0 ≤ (M.1 0 1 0 0) ∧ (M.1 0 1 0 0) ≤ 12) (hr : ∀ i, 0 ≤ i → i < (M.1 0 1 0 0) → RD M i) (hg : ∀ i, 0 ≤ i → i < (M.1 0 1 0 0) → (0 ≤ (M.1 16 3 i 0) ∧ (M.1 16 3 i 0) ≤ 12) ∧ (0 ≤ (M.1 16 4 i 0) ∧ (M.1 16 4 i 0) ≤ 1000)) : CtX δ md_X11_ofReel 2 12 nm ad M [.ref (ad 0 0), .int (iI r), .int (iI w)] (pC ((0 ≤ r ∧ r < (M.1 0 1 0 0)) ∧ (0 ≤ w ∧ w ≤ 8)) (pV (.int (iI (ofRV M r w))) ad M)) (fun E => (E = "java/lang/IndexOutOfBoundsException" ∧ ¬ (0 ≤ r ∧ r < (M.1 0 1 0 0))) ∨ (E = "java/lang/IllegalArgumentException" ∧ (0 ≤ r ∧ r < (M.1 0 1 0 0)) ∧ ¬ (0 ≤ w ∧ w ≤ 8))) := by
  refine CtX_of (ins := .ireturn) (ok := okI) [some (.ref (ad 0 0)), some (.int (iI r)), some (.int (iI w)), none] (by decide +kernel) rfl (Nat.le_of_ble_eq_true rfl) (fun κ X hr T => xendI rfl X hr T) (fun κ X hNL T Y => ?_)
  refine g_rm (fun hM => ?_)
  refine g_aload_n X dX11_ofReel_0 rfl rfl ?_
  refine g_iload_n X dX11_ofReel_1 rfl rfl ?_
  refine g_xV1_v X T w_X11_reelNumbered ml_X11_60 dX11_ofReel_2 rfl (n0 hN) (en0 _ _ _ _) ⟨⟨Nat.le_of_ble_eq_true rfl, Nat.le_of_ble_eq_true rfl⟩, Nat.le_of_ble_eq_true rfl, Nat.le_of_ble_eq_true rfl⟩ (Nat.le_of_ble_eq_true rfl) (c_X11_reelNumbered hN (by omega) (by omega)) (Nat.le_of_ble_eq_true rfl) (Nat.le_of_ble_eq_true rfl) (fun E h => Or.inl h) (fun hc2 => ?_)
  have hd := hr r (by omega) (by omega)
  have fb := hd.fc
  have lg := hd.lg
  have gg := hg r (by omega) (by omega)
  refine g_astore_3 X dX11_ofReel_5 rfl (lt_kN hNL rfl) rfl ?_
  refine g_iload_n X dX11_ofReel_6 rfl rfl ?_
  by_cases hs7 : w < 0 ∨ 8 < w
  · refine g_swOut (tgt := 110) X dX11_ofReel_7 (by omega) hs7 rfl ?_
    exact g_throwS X T wt_140_144 (fun _ h => tx_what h) dX11_ofReel_110 dX11_ofReel_113 dX11_ofReel_114 dX11_ofReel_116 dX11_ofReel_119 (Or.inr ⟨rfl, by omega, by omega⟩) ⟨Nat.le_of_ble_eq_true rfl, Nat.le_of_ble_eq_true rfl, Nat.le_of_ble_eq_true rfl, Nat.le_of_ble_eq_true rfl⟩ ⟨Nat.le_of_ble_eq_true rfl, Nat.le_of_ble_eq_true rfl⟩
  · rcases (show w = 0 ∨ w = 1 ∨ w = 2 ∨ w = 3 ∨ w = 4 ∨ w = 5 ∨ w = 6 ∨ w = 7 ∨ w = 8 by omega) with hw7 | hw7 | hw7 | hw7 | hw7 | hw7 | hw7 | hw7 | hw7
    · refine g_swIn (tgt := 56) X dX11_ofReel_7 (by omega) (by omega) (by omega) (by rw [hw7]; rfl) rfl ?_
      refine g_aload_n X dX11_ofReel_56 rfl rfl ?_
      refine g_getI X ci8 (n16 hN (by omega) (by omega)) (en16 _ _ _ _) (by decide) fl_X11_82 rfl dX11_ofReel_57 rfl (fun r57 => ?_)
      refine g_widen (cl' := 2) (sl' := 12) (Nat.le_of_ble_eq_true rfl) (Nat.le_of_ble_eq_true rfl) ?_
      exact g_ret Y dX11_ofReel_60 ⟨_, rfl⟩ ⟨(by exact ⟨by omega, by omega⟩), pVI (by rw [hw7]; first | rfl | exact (bI_t (by omega)).symm | exact (bI_f (by omega)).symm)⟩
    · refine g_swIn (tgt := 61) X dX11_ofReel_7 (by omega) (by omega) (by omega) (by rw [hw7]; rfl) rfl ?_
      refine g_aload_n X dX11_ofReel_61 rfl rfl ?_
      refine g_getI X ci8 (n16 hN (by omega) (by omega)) (en16 _ _ _ _) (by decide) fl_X11_64 rfl dX11_ofReel_62 rfl (fun r62 => ?_)
      refine g_widen (cl' := 2) (sl' := 12) (Nat.le_of_ble_eq_true rfl) (Nat.le_of_ble_eq_true rfl) ?_
      exact g_ret Y dX11_ofReel_65 ⟨_, rfl⟩ ⟨(by exact ⟨by omega, by omega⟩), pVI (by rw [hw7]; first | rfl | exact (bI_t (by omega)).symm | exact (bI_f (by omega)).symm)⟩
    · refine g_swIn (tgt := 66) X dX11_ofReel_7 (by omega) (by omega) (by omega) (by rw [hw7]; rfl) rfl ?_
      refine g_aload_n X dX11_ofReel_66 rfl rfl ?_
      refine g_getI X ci8 (n16 hN (by omega) (by omega)) (en16 _ _ _ _) (by decide) fl_X11_121 rfl dX11_ofReel_67 rfl (fun r67 => ?_)
      refine g_widen (cl' := 2) (sl' := 12) (Nat.le_of_ble_eq_true rfl) (Nat.le_of_ble_eq_true rfl) ?_
      exact g_ret Y dX11_ofReel_70 ⟨_, rfl⟩ ⟨(by exact ⟨by omega, by omega⟩), pVI (by rw [hw7]; first | rfl | exact (bI_t (by omega)).symm | exact (bI_f (by omega)).symm)⟩
    · refine g_swIn (tgt := 71) X dX11_ofReel_7 (by omega) (by omega) (by omega) (by rw [hw7]; rfl) rfl ?_
      refine g_aload_n X dX11_ofReel_71 rfl rfl ?_
      refine g_iV0_v X w_X8_canBeRead ml_X11_110 dX11_ofReel_72 rfl (n16 hN (by omega) (by omega)) (en16 _ _ _ _) ⟨⟨Nat.le_of_ble_eq_true rfl, Nat.le_of_ble_eq_true rfl⟩, Nat.le_of_ble_eq_true rfl, Nat.le_of_ble_eq_true rfl⟩ (Nat.le_of_ble_eq_true rfl) (c_X8_canBeRead hN (by omega) (by omega)) ?_
      refine g_ifB_eq (tgt := 82) X dX11_ofReel_75 rfl rfl (fun h75 => ?_) (fun h75 => ?_)
      · skip
        refine g_iconst X dX11_ofReel_82 rfl ?_
        refine g_widen (cl' := 2) (sl' := 12) (Nat.le_of_ble_eq_true rfl) (Nat.le_of_ble_eq_true rfl) ?_
        exact g_ret Y dX11_ofReel_83 ⟨_, rfl⟩ ⟨(by exact ⟨by omega, by omega⟩), pVI (by rw [hw7]; first | rfl | exact (bI_t (by omega)).symm | exact (bI_f (by omega)).symm)⟩
      · skip
        refine g_iconst X dX11_ofReel_78 rfl ?_
        refine g_goto (pc' := 83) X dX11_ofReel_79 rfl ?_
        refine g_widen (cl' := 2) (sl' := 12) (Nat.le_of_ble_eq_true rfl) (Nat.le_of_ble_eq_true rfl) ?_
        exact g_ret Y dX11_ofReel_83 ⟨_, rfl⟩ ⟨(by exact ⟨by omega, by omega⟩), pVI (by rw [hw7]; first | rfl | exact (bI_t (by omega)).symm | exact (bI_f (by omega)).symm)⟩
    · refine g_swIn (tgt := 84) X dX11_ofReel_7 (by omega) (by omega) (by omega) (by rw [hw7]; rfl) rfl ?_
      refine g_aload_n X dX11_ofReel_84 rfl rfl ?_
      refine g_iV0_v X w_X8_jumps ml_X11_124 dX11_ofReel_85 rfl (n16 hN (by omega) (by omega)) (en16 _ _ _ _) ⟨⟨Nat.le_of_ble_eq_true rfl, Nat.le_of_ble_eq_true rfl⟩, Nat.le_of_ble_eq_true rfl, Nat.le_of_ble_eq_true rfl⟩ (Nat.le_of_ble_eq_true rfl) (c_X8_jumps hN (by omega) (by omega) fb hd.cd) ?_
      refine g_widen (cl' := 2) (sl' := 12) (Nat.le_of_ble_eq_true rfl) (Nat.le_of_ble_eq_true rfl) ?_
      exact g_ret Y dX11_ofReel_88 ⟨_, rfl⟩ ⟨(by exact ⟨by omega, by omega⟩), pVI (by rw [hw7]; first | rfl | exact (bI_t (by omega)).symm | exact (bI_f (by omega)).symm)⟩
    · refine g_swIn (tgt := 89) X dX11_ofReel_7 (by omega) (by omega) (by omega) (by rw [hw7]; rfl) rfl ?_
      refine g_aload_n X dX11_ofReel_89 rfl rfl ?_
      refine g_iV0_v X w_X8_missingCodes ml_X11_128 dX11_ofReel_90 rfl (n16 hN (by omega) (by omega)) (en16 _ _ _ _) ⟨⟨Nat.le_of_ble_eq_true rfl, Nat.le_of_ble_eq_true rfl⟩, Nat.le_of_ble_eq_true rfl, Nat.le_of_ble_eq_true rfl⟩ (Nat.le_of_ble_eq_true rfl) (c_X8_missingCodes hN (by omega) (by omega) lg.1 lg.2) ?_
      refine g_widen (cl' := 2) (sl' := 12) (Nat.le_of_ble_eq_true rfl) (Nat.le_of_ble_eq_true rfl) ?_
      exact g_ret Y dX11_ofReel_93 ⟨_, rfl⟩ ⟨(by exact ⟨by omega, by omega⟩), pVI (by rw [hw7]; first | rfl | exact (bI_t (by omega)).symm | exact (bI_f (by omega)).symm)⟩
    · refine g_swIn (tgt := 94) X dX11_ofReel_7 (by omega) (by omega) (by omega) (by rw [hw7]; rfl) rfl ?_
      refine g_aload_n X dX11_ofReel_94 rfl rfl ?_
      refine g_iV0_v X w_X8_faults ml_X11_131 dX11_ofReel_95 rfl (n16 hN (by omega) (by omega)) (en16 _ _ _ _) ⟨⟨Nat.le_of_ble_eq_true rfl, Nat.le_of_ble_eq_true rfl⟩, Nat.le_of_ble_eq_true rfl, Nat.le_of_ble_eq_true rfl⟩ (Nat.le_of_ble_eq_true rfl) (c_X8_faults hN (by omega) (by omega) lg.1 lg.2) ?_
      refine g_widen (cl' := 2) (sl' := 12) (Nat.le_of_ble_eq_true rfl) (Nat.le_of_ble_eq_true rfl) ?_
      exact g_ret Y dX11_ofReel_98 ⟨_, rfl⟩ ⟨(by exact ⟨by omega, by omega⟩), pVI (by rw [hw7]; first | rfl | exact (bI_t (by omega)).symm | exact (bI_f (by omega)).symm)⟩
    · refine g_swIn (tgt := 99) X dX11_ofReel_7 (by omega) (by omega) (by omega) (by rw [hw7]; rfl) rfl ?_
      refine g_aload_n X dX11_ofReel_99 rfl rfl ?_
      refine g_iload_n X dX11_ofReel_100 rfl rfl ?_
      refine g_iV1_v X w_X11_guessedParent ml_X11_134 dX11_ofReel_101 rfl (n0 hN) (en0 _ _ _ _) ⟨⟨Nat.le_of_ble_eq_true rfl, Nat.le_of_ble_eq_true rfl⟩, Nat.le_of_ble_eq_true rfl, Nat.le_of_ble_eq_true rfl⟩ (Nat.le_of_ble_eq_true rfl) (c_X11_guessedParent hN rc (fun i i0 i1 => (hr i i0 i1).lg) (by omega) (by omega)) ?_
      refine g_widen (cl' := 2) (sl' := 12) (Nat.le_of_ble_eq_true rfl) (Nat.le_of_ble_eq_true rfl) ?_
      exact g_ret Y dX11_ofReel_104 ⟨_, rfl⟩ ⟨(by exact ⟨by omega, by omega⟩), pVI (by rw [hw7]; first | rfl | exact (bI_t (by omega)).symm | exact (bI_f (by omega)).symm)⟩
    · refine g_swIn (tgt := 105) X dX11_ofReel_7 (by omega) (by omega) (by omega) (by rw [hw7]; rfl) rfl ?_
      refine g_aload_n X dX11_ofReel_105 rfl rfl ?_
      refine g_getI X ci8 (n16 hN (by omega) (by omega)) (en16 _ _ _ _) (by decide) fl_X11_137 rfl dX11_ofReel_106 rfl (fun r106 => ?_)
      refine g_widen (cl' := 2) (sl' := 12) (Nat.le_of_ble_eq_true rfl) (Nat.le_of_ble_eq_true rfl) ?_
      exact g_ret Y dX11_ofReel_109 ⟨_, rfl⟩ ⟨(by exact ⟨by omega, by omega⟩), pVI (by rw [hw7]; first | rfl | exact (bI_t (by omega)).symm | exact (bI_f (by omega)).symm)⟩
set_option maxRecDepth 100000 in
set_option maxHeartbeats 4000000 in
theorem c_X11_align {δ : Dx} {nm : List (Nat × Int)} {ad : Ad} {M : Mem} {r o : Int} (hN : NmOk nm) (rr : rng r) (ro : rng o) (rc : 0 ≤ (M.1 0 1 0 0) ∧ (M.1 0 1 0 0) ≤ 12) (hr : ∀ i, 0 ≤ i → i < (M.1 0 1 0 0) → RD M i) (hz : Bz M) : CtX δ md_X11_align 3 18 nm ad M [.ref (ad 0 0), .int (iI r), .int (iI o)] (pC ((0 ≤ r ∧ r < (M.1 0 1 0 0)) ∧ (0 ≤ o ∧ o < (M.1 0 1 0 0)) ∧ ((M.1 16 4 r 0) < 300 ∧ (M.1 16 4 o 0) < 300)) (pG (.int (iI (dz (canP M r o (M.1 0 3 0 0)) (M.1 16 6 r 0) (M.1 16 6 o 0)))) ad (fun M' => Ex (fun k => k == 4) M M' ∧ Bz M'))) (fun E => (E = "java/lang/IndexOutOfBoundsException" ∧ ¬ (0 ≤ r ∧ r < (M.1 0 1 0 0))) ∨ (E = "java/lang/IndexOutOfBoundsException" ∧ (0 ≤ r ∧ r < (M.1 0 1 0 0)) ∧ ¬ (0 ≤ o ∧ o < (M.1 0 1 0 0))) ∨ (E = "java/lang/IllegalStateException" ∧ (0 ≤ r ∧ r < (M.1 0 1 0 0)) ∧ (0 ≤ o ∧ o < (M.1 0 1 0 0)) ∧ ¬ ((M.1 16 4 r 0) < 300 ∧ (M.1 16 4 o 0) < 300))) := by
  refine CtX_of (ins := .ireturn) (ok := okI) [some (.ref (ad 0 0)), some (.int (iI r)), some (.int (iI o)), none, none] (by decide +kernel) rfl (Nat.le_of_ble_eq_true rfl) (fun κ X hr T => xendI rfl X hr T) (fun κ X hNL T Y => ?_)
  refine g_rm (fun hM => ?_)
  refine g_aload_n X dX11_align_0 rfl rfl ?_
  refine g_iload_n X dX11_align_1 rfl rfl ?_
  refine g_xV1_v X T w_X11_reelNumbered ml_X11_60 dX11_align_2 rfl (n0 hN) (en0 _ _ _ _) ⟨⟨Nat.le_of_ble_eq_true rfl, Nat.le_of_ble_eq_true rfl⟩, Nat.le_of_ble_eq_true rfl, Nat.le_of_ble_eq_true rfl⟩ (Nat.le_of_ble_eq_true rfl) (c_X11_reelNumbered hN (by omega) (by omega)) (Nat.le_of_ble_eq_true rfl) (Nat.le_of_ble_eq_true rfl) (fun E h => Or.inl h) (fun hc2 => ?_)
  refine g_astore_3 X dX11_align_5 rfl (lt_kN hNL rfl) rfl ?_
  refine g_aload_n X dX11_align_6 rfl rfl ?_
  refine g_iload_n X dX11_align_7 rfl rfl ?_
  refine g_xV1_v X T w_X11_reelNumbered ml_X11_60 dX11_align_8 rfl (n0 hN) (en0 _ _ _ _) ⟨⟨Nat.le_of_ble_eq_true rfl, Nat.le_of_ble_eq_true rfl⟩, Nat.le_of_ble_eq_true rfl, Nat.le_of_ble_eq_true rfl⟩ (Nat.le_of_ble_eq_true rfl) (c_X11_reelNumbered hN (by omega) (by omega)) (Nat.le_of_ble_eq_true rfl) (Nat.le_of_ble_eq_true rfl) (fun E h => Or.inr (Or.inl ⟨h.1, by omega, h.2⟩)) (fun hc8 => ?_)
  have fb := (hr r (by omega) (by omega)).fc
  have fb2 := (hr o (by omega) (by omega)).fc
  have rt := hM 0 3 0 0
  refine g_astore_4 X dX11_align_11 rfl (lt_kN hNL rfl) rfl ?_
  refine g_cutB 33 ((M.1 16 4 r 0) < 300 ∧ (M.1 16 4 o 0) < 300) (fun ct13 cf13 => ?_) ?_
  · skip
    refine g_aload_n X dX11_align_13 rfl rfl ?_
    refine g_iV0_v X w_X8_canBeRead ml_X11_110 dX11_align_14 rfl (n16 hN (by omega) (by omega)) (en16 _ _ _ _) ⟨⟨Nat.le_of_ble_eq_true rfl, Nat.le_of_ble_eq_true rfl⟩, Nat.le_of_ble_eq_true rfl, Nat.le_of_ble_eq_true rfl⟩ (Nat.le_of_ble_eq_true rfl) (c_X8_canBeRead hN (by omega) (by omega)) ?_
    refine g_ifB_eq (tgt := 32) X dX11_align_17 rfl rfl (fun h17 => ?_) (fun h17 => ?_)
    · skip
      refine g_iconst X dX11_align_32 rfl ?_
      exact cf13 (by omega)
    · skip
      refine g_aload X dX11_align_20 rfl rfl ?_
      refine g_iV0_v X w_X8_canBeRead ml_X11_110 dX11_align_22 rfl (n16 hN (by omega) (by omega)) (en16 _ _ _ _) ⟨⟨Nat.le_of_ble_eq_true rfl, Nat.le_of_ble_eq_true rfl⟩, Nat.le_of_ble_eq_true rfl, Nat.le_of_ble_eq_true rfl⟩ (Nat.le_of_ble_eq_true rfl) (c_X8_canBeRead hN (by omega) (by omega)) ?_
      refine g_ifB_eq (tgt := 32) X dX11_align_25 rfl rfl (fun h25 => ?_) (fun h25 => ?_)
      · skip
        refine g_iconst X dX11_align_32 rfl ?_
        exact cf13 (by omega)
      · skip
        refine g_iconst X dX11_align_28 rfl ?_
        refine g_goto (pc' := 33) X dX11_align_29 rfl ?_
        exact ct13 (by omega)
  · skip
    refine g_xS1_n X T w_X11_needPossible ml_X11_75 dX11_align_33 rfl ⟨⟨Nat.le_of_ble_eq_true rfl, Nat.le_of_ble_eq_true rfl⟩, Nat.le_of_ble_eq_true rfl, Nat.le_of_ble_eq_true rfl⟩ (Nat.le_of_ble_eq_true rfl) (c_X11_needPossible hN) (Nat.le_of_ble_eq_true rfl) (Nat.le_of_ble_eq_true rfl) (fun E h => Or.inr (Or.inr ⟨h.1, by omega, by omega, h.2⟩)) (fun hc33 => ?_)
    refine g_aload_n X dX11_align_36 rfl rfl ?_
    refine g_get X ci11 (n0 hN) (en0 _ _ _ _) (by decide) fl_X11_28 rfl dX11_align_37 rfl ?_
    refine g_aload_n X dX11_align_40 rfl rfl ?_
    refine g_aload X dX11_align_41 rfl rfl ?_
    refine g_aload_n X dX11_align_43 rfl rfl ?_
    refine g_getI X ci11 (n0 hN) (en0 _ _ _ _) (by decide) fl_X11_22 rfl dX11_align_44 rfl (fun r44 => ?_)
    refine g_iV3_g X w_X6_mostPairs ml_X11_147 dX11_align_47 rfl (n2 hN) (en2 _ _ _ _) ⟨⟨Nat.le_of_ble_eq_true rfl, Nat.le_of_ble_eq_true rfl⟩, Nat.le_of_ble_eq_true rfl, Nat.le_of_ble_eq_true rfl⟩ (Nat.le_of_ble_eq_true rfl) (c_X6_mostPairs hN (by omega) (by omega) (by omega) (by omega) fb fb2 rt hz) (fun Mc47 hc47 => ?_)
    refine g_rm (fun hMc47 => ?_)
    exact g_ret Y dX11_align_50 ⟨_, rfl⟩ ⟨⟨by omega, by omega, by omega⟩, rfl, rfl, hc47.1, hc47.2.1⟩
set_option maxRecDepth 100000 in
set_option maxHeartbeats 4000000 in
theorem c_X11_pairOf {δ : Dx} {nm : List (Nat × Int)} {ad : Ad} {M : Mem} {r p o : Int} (hN : NmOk nm) (rr : rng r) (rp : rng p) (ro : rng o) (rc : 0 ≤ (M.1 0 1 0 0) ∧ (M.1 0 1 0 0) ≤ 12) (hr : ∀ i, 0 ≤ i → i < (M.1 0 1 0 0) → RD M i) (hz : Bz M) : CtX δ md_X11_pairOf 4 24 nm ad M [.ref (ad 0 0), .int (iI r), .int (iI p), .int (iI o)] (pC ((0 ≤ r ∧ r < (M.1 0 1 0 0)) ∧ (0 ≤ o ∧ o < (M.1 0 1 0 0)) ∧ (0 ≤ p ∧ p < (M.1 16 6 r 0)) ∧ ((M.1 16 4 r 0) < 300 ∧ (M.1 16 4 o 0) < 300)) (pG (.int (iI (pw (canP M r o (M.1 0 3 0 0)) p 121 (M.1 16 6 r 0) (M.1 16 6 o 0)))) ad (fun M' => Ex (fun k => k == 4) M M' ∧ Bz M'))) (fun E => (E = "java/lang/IndexOutOfBoundsException" ∧ ¬ (0 ≤ r ∧ r < (M.1 0 1 0 0))) ∨ (E = "java/lang/IndexOutOfBoundsException" ∧ (0 ≤ r ∧ r < (M.1 0 1 0 0)) ∧ ¬ (0 ≤ o ∧ o < (M.1 0 1 0 0))) ∨ (E = "java/lang/IndexOutOfBoundsException" ∧ (0 ≤ r ∧ r < (M.1 0 1 0 0)) ∧ (0 ≤ o ∧ o < (M.1 0 1 0 0)) ∧ ¬ (0 ≤ p ∧ p < (M.1 16 6 r 0))) ∨ (E = "java/lang/IllegalStateException" ∧ (0 ≤ r ∧ r < (M.1 0 1 0 0)) ∧ (0 ≤ o ∧ o < (M.1 0 1 0 0)) ∧ (0 ≤ p ∧ p < (M.1 16 6 r 0)) ∧ ¬ ((M.1 16 4 r 0) < 300 ∧ (M.1 16 4 o 0) < 300))) := by
  refine CtX_of (ins := .ireturn) (ok := okI) [some (.ref (ad 0 0)), some (.int (iI r)), some (.int (iI p)), some (.int (iI o)), none, none] (by decide +kernel) rfl (Nat.le_of_ble_eq_true rfl) (fun κ X hr T => xendI rfl X hr T) (fun κ X hNL T Y => ?_)
  refine g_rm (fun hM => ?_)
  refine g_aload_n X dX11_pairOf_0 rfl rfl ?_
  refine g_iload_n X dX11_pairOf_1 rfl rfl ?_
  refine g_xV1_v X T w_X11_reelNumbered ml_X11_60 dX11_pairOf_2 rfl (n0 hN) (en0 _ _ _ _) ⟨⟨Nat.le_of_ble_eq_true rfl, Nat.le_of_ble_eq_true rfl⟩, Nat.le_of_ble_eq_true rfl, Nat.le_of_ble_eq_true rfl⟩ (Nat.le_of_ble_eq_true rfl) (c_X11_reelNumbered hN (by omega) (by omega)) (Nat.le_of_ble_eq_true rfl) (Nat.le_of_ble_eq_true rfl) (fun E h => Or.inl h) (fun hc2 => ?_)
  refine g_astore_4 X dX11_pairOf_5 rfl (lt_kN hNL rfl) rfl ?_
  refine g_aload_n X dX11_pairOf_7 rfl rfl ?_
  refine g_iload_n X dX11_pairOf_8 rfl rfl ?_
  refine g_xV1_v X T w_X11_reelNumbered ml_X11_60 dX11_pairOf_9 rfl (n0 hN) (en0 _ _ _ _) ⟨⟨Nat.le_of_ble_eq_true rfl, Nat.le_of_ble_eq_true rfl⟩, Nat.le_of_ble_eq_true rfl, Nat.le_of_ble_eq_true rfl⟩ (Nat.le_of_ble_eq_true rfl) (c_X11_reelNumbered hN (by omega) (by omega)) (Nat.le_of_ble_eq_true rfl) (Nat.le_of_ble_eq_true rfl) (fun E h => Or.inr (Or.inl ⟨h.1, by omega, h.2⟩)) (fun hc9 => ?_)
  have fb := (hr r (by omega) (by omega)).fc
  have fb2 := (hr o (by omega) (by omega)).fc
  have rt := hM 0 3 0 0
  refine g_astore_5 X dX11_pairOf_12 rfl (lt_kN hNL rfl) rfl ?_
  refine g_iload_n X dX11_pairOf_14 rfl rfl ?_
  refine g_aload X dX11_pairOf_15 rfl rfl ?_
  refine g_getI X ci8 (n16 hN (by omega) (by omega)) (en16 _ _ _ _) (by decide) fl_X11_82 rfl dX11_pairOf_17 rfl (fun r17 => ?_)
  refine g_xS2_n X T w_X11_needPlace ml_X11_91 dX11_pairOf_20 rfl ⟨⟨Nat.le_of_ble_eq_true rfl, Nat.le_of_ble_eq_true rfl⟩, Nat.le_of_ble_eq_true rfl, Nat.le_of_ble_eq_true rfl⟩ (Nat.le_of_ble_eq_true rfl) (c_X11_needPlace hN (by omega) (by omega)) (Nat.le_of_ble_eq_true rfl) (Nat.le_of_ble_eq_true rfl) (fun E h => Or.inr (Or.inr (Or.inl ⟨h.1, by omega, by omega, h.2⟩))) (fun hc20 => ?_)
  refine g_cutB 44 ((M.1 16 4 r 0) < 300 ∧ (M.1 16 4 o 0) < 300) (fun ct23 cf23 => ?_) ?_
  · skip
    refine g_aload X dX11_pairOf_23 rfl rfl ?_
    refine g_iV0_v X w_X8_canBeRead ml_X11_110 dX11_pairOf_25 rfl (n16 hN (by omega) (by omega)) (en16 _ _ _ _) ⟨⟨Nat.le_of_ble_eq_true rfl, Nat.le_of_ble_eq_true rfl⟩, Nat.le_of_ble_eq_true rfl, Nat.le_of_ble_eq_true rfl⟩ (Nat.le_of_ble_eq_true rfl) (c_X8_canBeRead hN (by omega) (by omega)) ?_
    refine g_ifB_eq (tgt := 43) X dX11_pairOf_28 rfl rfl (fun h28 => ?_) (fun h28 => ?_)
    · skip
      refine g_iconst X dX11_pairOf_43 rfl ?_
      exact cf23 (by omega)
    · skip
      refine g_aload X dX11_pairOf_31 rfl rfl ?_
      refine g_iV0_v X w_X8_canBeRead ml_X11_110 dX11_pairOf_33 rfl (n16 hN (by omega) (by omega)) (en16 _ _ _ _) ⟨⟨Nat.le_of_ble_eq_true rfl, Nat.le_of_ble_eq_true rfl⟩, Nat.le_of_ble_eq_true rfl, Nat.le_of_ble_eq_true rfl⟩ (Nat.le_of_ble_eq_true rfl) (c_X8_canBeRead hN (by omega) (by omega)) ?_
      refine g_ifB_eq (tgt := 43) X dX11_pairOf_36 rfl rfl (fun h36 => ?_) (fun h36 => ?_)
      · skip
        refine g_iconst X dX11_pairOf_43 rfl ?_
        exact cf23 (by omega)
      · skip
        refine g_iconst X dX11_pairOf_39 rfl ?_
        refine g_goto (pc' := 44) X dX11_pairOf_40 rfl ?_
        exact ct23 (by omega)
  · skip
    refine g_xS1_n X T w_X11_needPossible ml_X11_75 dX11_pairOf_44 rfl ⟨⟨Nat.le_of_ble_eq_true rfl, Nat.le_of_ble_eq_true rfl⟩, Nat.le_of_ble_eq_true rfl, Nat.le_of_ble_eq_true rfl⟩ (Nat.le_of_ble_eq_true rfl) (c_X11_needPossible hN) (Nat.le_of_ble_eq_true rfl) (Nat.le_of_ble_eq_true rfl) (fun E h => Or.inr (Or.inr (Or.inr ⟨h.1, by omega, by omega, by omega, h.2⟩))) (fun hc44 => ?_)
    refine g_aload_n X dX11_pairOf_47 rfl rfl ?_
    refine g_get X ci11 (n0 hN) (en0 _ _ _ _) (by decide) fl_X11_28 rfl dX11_pairOf_48 rfl ?_
    refine g_aload X dX11_pairOf_51 rfl rfl ?_
    refine g_iload_n X dX11_pairOf_53 rfl rfl ?_
    refine g_aload X dX11_pairOf_54 rfl rfl ?_
    refine g_aload_n X dX11_pairOf_56 rfl rfl ?_
    refine g_getI X ci11 (n0 hN) (en0 _ _ _ _) (by decide) fl_X11_22 rfl dX11_pairOf_57 rfl (fun r57 => ?_)
    refine g_iV4_g X w_X6_partner ml_X11_151 dX11_pairOf_60 rfl (n2 hN) (en2 _ _ _ _) ⟨⟨Nat.le_of_ble_eq_true rfl, Nat.le_of_ble_eq_true rfl⟩, Nat.le_of_ble_eq_true rfl, Nat.le_of_ble_eq_true rfl⟩ (Nat.le_of_ble_eq_true rfl) (c_X6_partner hN (by omega) (by omega) (by omega) (by omega) fb fb2 rt hz (by omega)) (fun Mc60 hc60 => ?_)
    refine g_rm (fun hMc60 => ?_)
    exact g_ret Y dX11_pairOf_63 ⟨_, rfl⟩ ⟨⟨by omega, by omega, by omega, by omega⟩, rfl, rfl, hc60.1, hc60.2⟩
set_option maxRecDepth 100000 in
set_option maxHeartbeats 4000000 in
theorem c_X11_copy {δ : Dx} {nm : List (Nat × Int)} {ad : Ad} {M : Mem} {r : Int} (hN : NmOk nm) (rr : rng r) (rc : 0 ≤ (M.1 0 1 0 0) ∧ (M.1 0 1 0 0) ≤ 12) (hr : ∀ i, 0 ≤ i → i < (M.1 0 1 0 0) → RD M i) (hg : ∀ i, 0 ≤ i → i < (M.1 0 1 0 0) → (0 ≤ (M.1 16 3 i 0) ∧ (M.1 16 3 i 0) ≤ 12) ∧ (0 ≤ (M.1 16 4 i 0) ∧ (M.1 16 4 i 0) ≤ 1000)) (hf : ∀ i, (M.1 0 1 0 0) ≤ i → i < 12 → RF M i) : CtX δ md_X11_copy 2 12 nm ad M [.ref (ad 0 0), .int (iI r)] (pC ((0 ≤ r ∧ r < (M.1 0 1 0 0)) ∧ ((M.1 16 4 r 0) < 300 ∧ (M.1 0 1 0 0) < 12)) (pG (.int (iI (M.1 0 1 0 0))) ad (fun M' => ∃ M2, CpR (beginR M (M.1 0 1 0 0) 1 (M.1 0 2 0 0) (M.1 16 2 r 0) ((M.1 16 3 r 0) + 1) 0) (M.1 0 1 0 0) r (M.1 16 6 r 0) M2 ∧ M' = setI M2 0 1 0 0 ((M.1 0 1 0 0) + 1)))) (fun E => (E = "java/lang/IndexOutOfBoundsException" ∧ ¬ (0 ≤ r ∧ r < (M.1 0 1 0 0))) ∨ (E = "java/lang/IllegalStateException" ∧ (0 ≤ r ∧ r < (M.1 0 1 0 0)) ∧ ¬ ((M.1 16 4 r 0) < 300 ∧ (M.1 0 1 0 0) < 12))) := by
  refine CtX_of (ins := .ireturn) (ok := okI) [some (.ref (ad 0 0)), some (.int (iI r)), none, none] (by decide +kernel) rfl (Nat.le_of_ble_eq_true rfl) (fun κ X hr T => xendI rfl X hr T) (fun κ X hNL T Y => ?_)
  refine g_rm (fun hM => ?_)
  refine g_aload_n X dX11_copy_0 rfl rfl ?_
  refine g_iload_n X dX11_copy_1 rfl rfl ?_
  refine g_xV1_v X T w_X11_reelNumbered ml_X11_60 dX11_copy_2 rfl (n0 hN) (en0 _ _ _ _) ⟨⟨Nat.le_of_ble_eq_true rfl, Nat.le_of_ble_eq_true rfl⟩, Nat.le_of_ble_eq_true rfl, Nat.le_of_ble_eq_true rfl⟩ (Nat.le_of_ble_eq_true rfl) (c_X11_reelNumbered hN (by omega) (by omega)) (Nat.le_of_ble_eq_true rfl) (Nat.le_of_ble_eq_true rfl) (fun E h => Or.inl h) (fun hc2 => ?_)
  refine g_astore_2 X dX11_copy_5 rfl (lt_kN hNL rfl) rfl ?_
  refine g_cutB 27 ((M.1 16 4 r 0) < 300 ∧ (M.1 0 1 0 0) < 12) (fun ct6 cf6 => ?_) ?_
  · skip
    refine g_aload_n X dX11_copy_6 rfl rfl ?_
    refine g_iV0_v X w_X8_canBeRead ml_X11_110 dX11_copy_7 rfl (n16 hN (by omega) (by omega)) (en16 _ _ _ _) ⟨⟨Nat.le_of_ble_eq_true rfl, Nat.le_of_ble_eq_true rfl⟩, Nat.le_of_ble_eq_true rfl, Nat.le_of_ble_eq_true rfl⟩ (Nat.le_of_ble_eq_true rfl) (c_X8_canBeRead hN (by omega) (by omega)) ?_
    refine g_ifB_eq (tgt := 26) X dX11_copy_10 rfl rfl (fun h10 => ?_) (fun h10 => ?_)
    · skip
      refine g_iconst X dX11_copy_26 rfl ?_
      exact cf6 (by omega)
    · skip
      refine g_aload_n X dX11_copy_13 rfl rfl ?_
      refine g_getI X ci11 (n0 hN) (en0 _ _ _ _) (by decide) fl_X11_15 rfl dX11_copy_14 rfl (fun r14 => ?_)
      refine g_bipush X dX11_copy_17 rfl (by decide) ?_
      refine g_icmp_ge (tgt := 26) X dX11_copy_19 rfl rfl (by omega) (by omega) (fun h19 => ?_) (fun h19 => ?_)
      · skip
        refine g_iconst X dX11_copy_26 rfl ?_
        exact cf6 (by omega)
      · skip
        refine g_iconst X dX11_copy_22 rfl ?_
        refine g_goto (pc' := 27) X dX11_copy_23 rfl ?_
        exact ct6 (by omega)
  · skip
    refine g_xS1_n X T w_X11_needPossible ml_X11_75 dX11_copy_27 rfl ⟨⟨Nat.le_of_ble_eq_true rfl, Nat.le_of_ble_eq_true rfl⟩, Nat.le_of_ble_eq_true rfl, Nat.le_of_ble_eq_true rfl⟩ (Nat.le_of_ble_eq_true rfl) (c_X11_needPossible hN) (Nat.le_of_ble_eq_true rfl) (Nat.le_of_ble_eq_true rfl) (fun E h => Or.inr ⟨h.1, by omega, h.2⟩) (fun hc27 => ?_)
    have hd := hr r (by omega) (by omega)
    have gg := hg r (by omega) (by omega)
    have hn : r ≠ (M.1 0 1 0 0) := by omega
    have ff := hf (M.1 0 1 0 0) (by omega) (by omega)
    have rb1 := RD.keepB (b := 1) (y := (M.1 0 2 0 0)) (l := (M.1 16 2 r 0)) (g := (M.1 16 3 r 0) + 1) (d := 0) ff
    have ef : ((beginR M (M.1 0 1 0 0) 1 (M.1 0 2 0 0) (M.1 16 2 r 0) ((M.1 16 3 r 0) + 1) 0)).1 16 6 r 0 = (M.1 16 6 r 0) := ((beginR_re (M := M) (b := 1) (y := (M.1 0 2 0 0)) (l := (M.1 16 2 r 0)) (g := (M.1 16 3 r 0) + 1) (d := 0) hn) 16 6 0 (by decide) (by decide)).1
    have ez : ((beginR M (M.1 0 1 0 0) 1 (M.1 0 2 0 0) (M.1 16 2 r 0) ((M.1 16 3 r 0) + 1) 0)).1 16 6 (M.1 0 1 0 0) 0 = 0 := by unfold beginR; simp [fillI_1, setI_1]; exact ff.fc
    refine g_aload_n X dX11_copy_30 rfl rfl ?_
    refine g_get X ci11 (n0 hN) (en0 _ _ _ _) (by decide) fl_X11_11 rfl dX11_copy_31 rfl ?_
    refine g_aload_n X dX11_copy_34 rfl rfl ?_
    refine g_getI X ci11 (n0 hN) (en0 _ _ _ _) (by decide) fl_X11_15 rfl dX11_copy_35 rfl (fun r35 => ?_)
    refine g_rald X (n1 hN) (en1 _ _ _ _) (t0 := 4) rfl (by omega) (by omega) (by decide) dX11_copy_38 rfl ?_
    refine g_astore_3 X dX11_copy_39 rfl (lt_kN hNL rfl) rfl ?_
    refine g_aload_n X dX11_copy_40 rfl rfl ?_
    refine g_iconst X dX11_copy_41 rfl ?_
    refine g_aload_n X dX11_copy_42 rfl rfl ?_
    refine g_getI X ci11 (n0 hN) (en0 _ _ _ _) (by decide) fl_X11_19 rfl dX11_copy_43 rfl (fun r43 => ?_)
    refine g_aload_n X dX11_copy_46 rfl rfl ?_
    refine g_getI X ci8 (n16 hN (by omega) (by omega)) (en16 _ _ _ _) (by decide) fl_X11_114 rfl dX11_copy_47 rfl (fun r47 => ?_)
    refine g_aload_n X dX11_copy_50 rfl rfl ?_
    refine g_getI X ci8 (n16 hN (by omega) (by omega)) (en16 _ _ _ _) (by decide) fl_X11_64 rfl dX11_copy_51 rfl (fun r51 => ?_)
    refine g_iconst X dX11_copy_54 rfl ?_
    refine g_iadd X dX11_copy_55 rfl ?_
    refine g_iconst X dX11_copy_56 rfl ?_
    refine g_iV5_n X w_X8_begin ml_X11_78 dX11_copy_57 rfl (n16 hN (by omega) (by omega)) (en16 _ _ _ _) ⟨⟨Nat.le_of_ble_eq_true rfl, Nat.le_of_ble_eq_true rfl⟩, Nat.le_of_ble_eq_true rfl, Nat.le_of_ble_eq_true rfl⟩ (Nat.le_of_ble_eq_true rfl) (c_X8_begin hN (by omega) (by omega) (by omega) (by omega) (by omega) (by omega) (by omega)) ?_
    refine g_aload_n X dX11_copy_60 rfl rfl ?_
    refine g_aload_n X dX11_copy_61 rfl rfl ?_
    refine g_iV1_gn X w_X8_printFrom ml_X11_117 dX11_copy_62 rfl (n16 hN (by omega) (by omega)) (en16 _ _ _ _) ⟨⟨Nat.le_of_ble_eq_true rfl, Nat.le_of_ble_eq_true rfl⟩, Nat.le_of_ble_eq_true rfl, Nat.le_of_ble_eq_true rfl⟩ (Nat.le_of_ble_eq_true rfl) (c_X8_printFrom hN (by omega) (by omega) (by omega) (by omega) (Ne.symm hn) rb1 (hd.cong (beginR_re hn)) ez) (fun Mc62 hc62 => ?_)
    refine g_rm (fun hMc62 => ?_)
    rw [ef] at hc62
    have ec62 : (Mc62.1 0 1 0 0) = (M.1 0 1 0 0) := hc62.1.i 0 1 0 0 rfl
    refine g_aload_n X dX11_copy_65 rfl rfl ?_
    refine g_dup X dX11_copy_66 rfl rfl ?_
    refine g_getI X ci11 (n0 hN) (en0 _ _ _ _) (by decide) fl_X11_15 rfl dX11_copy_67 rfl (fun r67 => ?_)
    refine g_iconst X dX11_copy_70 rfl ?_
    refine g_iadd X dX11_copy_71 rfl ?_
    refine g_putI X ci11 (n0 hN) (en0 _ _ _ _) (ep0_1 _ _ _ _ _) (by omega) (by decide) rfl rfl rfl (Nat.le_of_ble_eq_true rfl) fl_X11_15 dX11_copy_72 rfl ?_
    refine g_aload_n X dX11_copy_75 rfl rfl ?_
    refine g_getI X ci11 (n0 hN) (en0 _ _ _ _) (by decide) fl_X11_15 rfl dX11_copy_76 rfl (fun r76 => ?_)
    refine g_int (b := (Mc62.1 0 1 0 0) + 1) (by simp [setI_1, setI_2, setL_1, setL_2]) ?_
    refine g_iconst X dX11_copy_79 rfl ?_
    refine g_isub X dX11_copy_80 rfl ?_
    exact g_ret Y dX11_copy_81 ⟨_, rfl⟩ ⟨⟨by omega, by omega⟩, by congr 2; congr 1; omega, rfl, Mc62, hc62, by rw [← ec62]⟩
set_option maxRecDepth 100000 in
set_option maxHeartbeats 4000000 in
theorem c_X11_version {δ : Dx} {nm : List (Nat × Int)} {ad : Ad} {M : Mem} {l y : Int} (hN : NmOk nm) (rl : rng l) (ry : rng y) (vc : 0 ≤ (M.1 0 6 0 0) ∧ (M.1 0 6 0 0) ≤ 6) : CtX δ md_X11_version 2 12 nm ad M [.ref (ad 0 0), .int (iI l), .int (iI y)] (pC (((0 ≤ l ∧ l ≤ 3) ∧ (1890 ≤ y ∧ y ≤ 2100)) ∧ ((M.1 0 6 0 0) < 6)) (pV (.int (iI (M.1 0 6 0 0))) ad (setI (setI (setI M 22 0 (M.1 0 6 0 0) 0 l) 22 1 (M.1 0 6 0 0) 0 y) 0 6 0 0 ((M.1 0 6 0 0) + 1)))) (fun E => (E = "java/lang/IllegalArgumentException" ∧ ¬ ((0 ≤ l ∧ l ≤ 3) ∧ (1890 ≤ y ∧ y ≤ 2100))) ∨ (E = "java/lang/IllegalStateException" ∧ ((0 ≤ l ∧ l ≤ 3) ∧ (1890 ≤ y ∧ y ≤ 2100)) ∧ ¬ ((M.1 0 6 0 0) < 6))) := by
  refine CtX_of (ins := .ireturn) (ok := okI) [some (.ref (ad 0 0)), some (.int (iI l)), some (.int (iI y))] (by decide +kernel) rfl (Nat.le_of_ble_eq_true rfl) (fun κ X hr T => xendI rfl X hr T) (fun κ X hNL T Y => ?_)
  refine g_rm (fun hM => ?_)
  refine g_cutB 27 ((0 ≤ l ∧ l ≤ 3) ∧ (1890 ≤ y ∧ y ≤ 2100)) (fun ct0 cf0 => ?_) ?_
  · skip
    refine g_iload_n X dX11_version_0 rfl rfl ?_
    refine g_iconst X dX11_version_1 rfl ?_
    refine g_iconst X dX11_version_2 rfl ?_
    refine g_iS3_v X w_X11_isWithin ml_X11_67 dX11_version_3 rfl ⟨⟨Nat.le_of_ble_eq_true rfl, Nat.le_of_ble_eq_true rfl⟩, Nat.le_of_ble_eq_true rfl, Nat.le_of_ble_eq_true rfl⟩ (Nat.le_of_ble_eq_true rfl) (c_X11_isWithin hN (by omega) (by omega) (by omega)) ?_
    refine g_ifB_eq (tgt := 26) X dX11_version_6 rfl rfl (fun h6 => ?_) (fun h6 => ?_)
    · skip
      refine g_iconst X dX11_version_26 rfl ?_
      exact cf0 (by omega)
    · skip
      refine g_iload_n X dX11_version_9 rfl rfl ?_
      refine g_sipush X dX11_version_10 rfl (by decide) ?_
      refine g_sipush X dX11_version_13 rfl (by decide) ?_
      refine g_iS3_v X w_X11_isWithin ml_X11_67 dX11_version_16 rfl ⟨⟨Nat.le_of_ble_eq_true rfl, Nat.le_of_ble_eq_true rfl⟩, Nat.le_of_ble_eq_true rfl, Nat.le_of_ble_eq_true rfl⟩ (Nat.le_of_ble_eq_true rfl) (c_X11_isWithin hN (by omega) (by omega) (by omega)) ?_
      refine g_ifB_eq (tgt := 26) X dX11_version_19 rfl rfl (fun h19 => ?_) (fun h19 => ?_)
      · skip
        refine g_iconst X dX11_version_26 rfl ?_
        exact cf0 (by omega)
      · skip
        refine g_iconst X dX11_version_22 rfl ?_
        refine g_goto (pc' := 27) X dX11_version_23 rfl ?_
        exact ct0 (by omega)
  · skip
    refine g_xS1_n X T w_X11_needInRange ml_X11_71 dX11_version_27 rfl ⟨⟨Nat.le_of_ble_eq_true rfl, Nat.le_of_ble_eq_true rfl⟩, Nat.le_of_ble_eq_true rfl, Nat.le_of_ble_eq_true rfl⟩ (Nat.le_of_ble_eq_true rfl) (c_X11_needInRange hN) (Nat.le_of_ble_eq_true rfl) (Nat.le_of_ble_eq_true rfl) (fun E h => by first | exact Or.inl ⟨h.1, by omega⟩ | exact Or.inr (⟨h.1, by omega⟩)) (fun hc27 => ?_)
    refine g_cutB 44 ((M.1 0 6 0 0) < 6) (fun ct30 cf30 => ?_) ?_
    · skip
      refine g_aload_n X dX11_version_30 rfl rfl ?_
      refine g_getI X ci11 (n0 hN) (en0 _ _ _ _) (by decide) fl_X11_38 rfl dX11_version_31 rfl (fun r31 => ?_)
      refine g_bipush X dX11_version_34 rfl (by decide) ?_
      refine g_icmp_ge (tgt := 43) X dX11_version_36 rfl rfl (by omega) (by omega) (fun h36 => ?_) (fun h36 => ?_)
      · skip
        refine g_iconst X dX11_version_43 rfl ?_
        exact cf30 (by omega)
      · skip
        refine g_iconst X dX11_version_39 rfl ?_
        refine g_goto (pc' := 44) X dX11_version_40 rfl ?_
        exact ct30 (by omega)
    · skip
      refine g_xS1_n X T w_X11_needPossible ml_X11_75 dX11_version_44 rfl ⟨⟨Nat.le_of_ble_eq_true rfl, Nat.le_of_ble_eq_true rfl⟩, Nat.le_of_ble_eq_true rfl, Nat.le_of_ble_eq_true rfl⟩ (Nat.le_of_ble_eq_true rfl) (c_X11_needPossible hN) (Nat.le_of_ble_eq_true rfl) (Nat.le_of_ble_eq_true rfl) (fun E h => by first | exact Or.inl ⟨h.1, by omega⟩ | exact Or.inr (⟨h.1, by omega⟩)) (fun hc44 => ?_)
      refine g_aload_n X dX11_version_47 rfl rfl ?_
      refine g_get X ci11 (n0 hN) (en0 _ _ _ _) (by decide) fl_X11_34 rfl dX11_version_48 rfl ?_
      refine g_aload_n X dX11_version_51 rfl rfl ?_
      refine g_getI X ci11 (n0 hN) (en0 _ _ _ _) (by decide) fl_X11_38 rfl dX11_version_52 rfl (fun r52 => ?_)
      refine g_rald X (n5 hN) (en5 _ _ _ _) (t0 := 5) rfl (by omega) (by omega) (by decide) dX11_version_55 rfl ?_
      refine g_iload_n X dX11_version_56 rfl rfl ?_
      refine g_iload_n X dX11_version_57 rfl rfl ?_
      refine g_iV2_n X w_X10_begin ml_X11_166 dX11_version_58 rfl (n22 hN (by omega) (by omega)) (en22 _ _ _ _) ⟨⟨Nat.le_of_ble_eq_true rfl, Nat.le_of_ble_eq_true rfl⟩, Nat.le_of_ble_eq_true rfl, Nat.le_of_ble_eq_true rfl⟩ (Nat.le_of_ble_eq_true rfl) (c_X10_begin hN (by omega) (by omega) (by omega) (by omega)) ?_
      refine g_aload_n X dX11_version_61 rfl rfl ?_
      refine g_dup X dX11_version_62 rfl rfl ?_
      refine g_getI X ci11 (n0 hN) (en0 _ _ _ _) (by decide) fl_X11_38 rfl dX11_version_63 rfl (fun r63 => ?_)
      refine g_iconst X dX11_version_66 rfl ?_
      refine g_iadd X dX11_version_67 rfl ?_
      refine g_putI X ci11 (n0 hN) (en0 _ _ _ _) (ep0_6 _ _ _ _ _) (by first | omega | (simp only [setI_1, setL_1, setI_2, setL_2]; omega) | (simp only [setI_1, setL_1, setI_2, setL_2]; simp; omega)) (by decide) rfl rfl rfl (Nat.le_of_ble_eq_true rfl) fl_X11_38 dX11_version_68 rfl ?_
      refine g_aload_n X dX11_version_71 rfl rfl ?_
      refine g_getI X ci11 (n0 hN) (en0 _ _ _ _) (by decide) fl_X11_38 rfl dX11_version_72 rfl (fun r72 => ?_)
      refine g_iconst X dX11_version_75 rfl ?_
      refine g_isub X dX11_version_76 rfl ?_
      exact g_ret Y dX11_version_77 ⟨_, rfl⟩ ⟨⟨by omega, by omega⟩, by first | rfl | (congr 2; congr 1; simp [setI_1]; try omega), rfl, by simp [setI_1]⟩
set_option maxRecDepth 100000 in
set_option maxHeartbeats 4000000 in
theorem c_X11_shot {δ : Dx} {nm : List (Nat × Int)} {ad : Ad} {M : Mem} {v f t : Int} (hN : NmOk nm) (rv : rng v) (rf : rng f) (rt : rng t) (vc : 0 ≤ (M.1 0 6 0 0) ∧ (M.1 0 6 0 0) ≤ 6) (hv : ∀ v, 0 ≤ v → v < (M.1 0 6 0 0) → VOk M v) : CtX δ md_X11_shot 3 18 nm ad M [.ref (ad 0 0), .int (iI v), .int (iI f), .int (iI t)] (pC ((0 ≤ v ∧ v < (M.1 0 6 0 0)) ∧ ((0 ≤ f ∧ f ≤ 999) ∧ (f ≤ t ∧ t ≤ 999)) ∧ ((M.1 22 3 v 0) < 10 ∧ (M.1 22 4 v 0) + t - f + 1 ≤ 120)) (pV (.int (iI ((M.1 22 4 v 0) + (t - f + 1)))) ad (addShotM M v f t))) (fun E => (E = "java/lang/IndexOutOfBoundsException" ∧ ¬ (0 ≤ v ∧ v < (M.1 0 6 0 0))) ∨ (E = "java/lang/IllegalArgumentException" ∧ (0 ≤ v ∧ v < (M.1 0 6 0 0)) ∧ ¬ ((0 ≤ f ∧ f ≤ 999) ∧ (f ≤ t ∧ t ≤ 999))) ∨ (E = "java/lang/IllegalStateException" ∧ (0 ≤ v ∧ v < (M.1 0 6 0 0)) ∧ ((0 ≤ f ∧ f ≤ 999) ∧ (f ≤ t ∧ t ≤ 999)) ∧ ¬ ((M.1 22 3 v 0) < 10 ∧ (M.1 22 4 v 0) + t - f + 1 ≤ 120))) := by
  refine CtX_of (ins := .ireturn) (ok := okI) [some (.ref (ad 0 0)), some (.int (iI v)), some (.int (iI f)), some (.int (iI t)), none] (by decide +kernel) rfl (Nat.le_of_ble_eq_true rfl) (fun κ X hr T => xendI rfl X hr T) (fun κ X hNL T Y => ?_)
  refine g_rm (fun hM => ?_)
  refine g_aload_n X dX11_shot_0 rfl rfl ?_
  refine g_iload_n X dX11_shot_1 rfl rfl ?_
  refine g_xV1_v X T w_X11_versionNumbered ml_X11_168 dX11_shot_2 rfl (n0 hN) (en0 _ _ _ _) ⟨⟨Nat.le_of_ble_eq_true rfl, Nat.le_of_ble_eq_true rfl⟩, Nat.le_of_ble_eq_true rfl, Nat.le_of_ble_eq_true rfl⟩ (Nat.le_of_ble_eq_true rfl) (c_X11_versionNumbered hN (by omega) (by omega)) (Nat.le_of_ble_eq_true rfl) (Nat.le_of_ble_eq_true rfl) (fun E h => by first | exact Or.inl ⟨h.1, by omega⟩ | exact Or.inr (Or.inl ⟨h.1, by omega⟩) | exact Or.inr (Or.inr (⟨h.1, by omega⟩))) (fun hc2 => ?_)
  obtain ⟨h1, h2, h3, h4, h5, h6, h7⟩ := hv v (by omega) (by omega)
  refine g_astore_4 X dX11_shot_5 rfl (lt_kN hNL rfl) rfl ?_
  refine g_cutB 34 ((0 ≤ f ∧ f ≤ 999) ∧ (f ≤ t ∧ t ≤ 999)) (fun ct7 cf7 => ?_) ?_
  · skip
    refine g_iload_n X dX11_shot_7 rfl rfl ?_
    refine g_iconst X dX11_shot_8 rfl ?_
    refine g_sipush X dX11_shot_9 rfl (by decide) ?_
    refine g_iS3_v X w_X11_isWithin ml_X11_67 dX11_shot_12 rfl ⟨⟨Nat.le_of_ble_eq_true rfl, Nat.le_of_ble_eq_true rfl⟩, Nat.le_of_ble_eq_true rfl, Nat.le_of_ble_eq_true rfl⟩ (Nat.le_of_ble_eq_true rfl) (c_X11_isWithin hN (by omega) (by omega) (by omega)) ?_
    refine g_ifB_eq (tgt := 33) X dX11_shot_15 rfl rfl (fun h15 => ?_) (fun h15 => ?_)
    · skip
      refine g_iconst X dX11_shot_33 rfl ?_
      exact cf7 (by omega)
    · skip
      refine g_iload_n X dX11_shot_18 rfl rfl ?_
      refine g_iload_n X dX11_shot_19 rfl rfl ?_
      refine g_sipush X dX11_shot_20 rfl (by decide) ?_
      refine g_iS3_v X w_X11_isWithin ml_X11_67 dX11_shot_23 rfl ⟨⟨Nat.le_of_ble_eq_true rfl, Nat.le_of_ble_eq_true rfl⟩, Nat.le_of_ble_eq_true rfl, Nat.le_of_ble_eq_true rfl⟩ (Nat.le_of_ble_eq_true rfl) (c_X11_isWithin hN (by omega) (by omega) (by omega)) ?_
      refine g_ifB_eq (tgt := 33) X dX11_shot_26 rfl rfl (fun h26 => ?_) (fun h26 => ?_)
      · skip
        refine g_iconst X dX11_shot_33 rfl ?_
        exact cf7 (by omega)
      · skip
        refine g_iconst X dX11_shot_29 rfl ?_
        refine g_goto (pc' := 34) X dX11_shot_30 rfl ?_
        exact ct7 (by omega)
  · skip
    refine g_xS1_n X T w_X11_needInRange ml_X11_71 dX11_shot_34 rfl ⟨⟨Nat.le_of_ble_eq_true rfl, Nat.le_of_ble_eq_true rfl⟩, Nat.le_of_ble_eq_true rfl, Nat.le_of_ble_eq_true rfl⟩ (Nat.le_of_ble_eq_true rfl) (c_X11_needInRange hN) (Nat.le_of_ble_eq_true rfl) (Nat.le_of_ble_eq_true rfl) (fun E h => by first | exact Or.inl ⟨h.1, by omega⟩ | exact Or.inr (Or.inl ⟨h.1, by omega⟩) | exact Or.inr (Or.inr (⟨h.1, by omega⟩))) (fun hc34 => ?_)
    refine g_cutB 68 ((M.1 22 3 v 0) < 10 ∧ (M.1 22 4 v 0) + t - f + 1 ≤ 120) (fun ct37 cf37 => ?_) ?_
    · skip
      refine g_aload X dX11_shot_37 rfl rfl ?_
      refine g_getI X ci10 (n22 hN (by omega) (by omega)) (en22 _ _ _ _) (by decide) fl_X11_172 rfl dX11_shot_39 rfl (fun r39 => ?_)
      refine g_bipush X dX11_shot_42 rfl (by decide) ?_
      refine g_icmp_ge (tgt := 67) X dX11_shot_44 rfl rfl (by omega) (by omega) (fun h44 => ?_) (fun h44 => ?_)
      · skip
        refine g_iconst X dX11_shot_67 rfl ?_
        exact cf37 (by omega)
      · skip
        refine g_aload X dX11_shot_47 rfl rfl ?_
        refine g_getI X ci10 (n22 hN (by omega) (by omega)) (en22 _ _ _ _) (by decide) fl_X11_175 rfl dX11_shot_49 rfl (fun r49 => ?_)
        refine g_iload_n X dX11_shot_52 rfl rfl ?_
        refine g_iadd X dX11_shot_53 rfl ?_
        refine g_iload_n X dX11_shot_54 rfl rfl ?_
        refine g_isub X dX11_shot_55 rfl ?_
        refine g_iconst X dX11_shot_56 rfl ?_
        refine g_iadd X dX11_shot_57 rfl ?_
        refine g_bipush X dX11_shot_58 rfl (by decide) ?_
        refine g_icmp_gt (tgt := 67) X dX11_shot_60 rfl rfl (by omega) (by omega) (fun h60 => ?_) (fun h60 => ?_)
        · skip
          refine g_iconst X dX11_shot_67 rfl ?_
          exact cf37 (by omega)
        · skip
          refine g_iconst X dX11_shot_63 rfl ?_
          refine g_goto (pc' := 68) X dX11_shot_64 rfl ?_
          exact ct37 (by omega)
    · skip
      refine g_xS1_n X T w_X11_needPossible ml_X11_75 dX11_shot_68 rfl ⟨⟨Nat.le_of_ble_eq_true rfl, Nat.le_of_ble_eq_true rfl⟩, Nat.le_of_ble_eq_true rfl, Nat.le_of_ble_eq_true rfl⟩ (Nat.le_of_ble_eq_true rfl) (c_X11_needPossible hN) (Nat.le_of_ble_eq_true rfl) (Nat.le_of_ble_eq_true rfl) (fun E h => by first | exact Or.inl ⟨h.1, by omega⟩ | exact Or.inr (Or.inl ⟨h.1, by omega⟩) | exact Or.inr (Or.inr (⟨h.1, by omega⟩))) (fun hc68 => ?_)
      refine g_aload X dX11_shot_71 rfl rfl ?_
      refine g_iload_n X dX11_shot_73 rfl rfl ?_
      refine g_iload_n X dX11_shot_74 rfl rfl ?_
      refine g_iV2_n X w_X10_addShot ml_X11_178 dX11_shot_75 rfl (n22 hN (by omega) (by omega)) (en22 _ _ _ _) ⟨⟨Nat.le_of_ble_eq_true rfl, Nat.le_of_ble_eq_true rfl⟩, Nat.le_of_ble_eq_true rfl, Nat.le_of_ble_eq_true rfl⟩ (Nat.le_of_ble_eq_true rfl) (c_X10_addShot hN (by omega) (by omega) (by omega) (by omega) (by omega) (by omega)) ?_
      refine g_aload X dX11_shot_78 rfl rfl ?_
      refine g_getI X ci10 (n22 hN (by omega) (by omega)) (en22 _ _ _ _) (by decide) fl_X11_175 rfl dX11_shot_80 rfl (fun r80 => ?_)
      refine g_int (b := (M.1 22 4 v 0) + (t - f + 1)) (by unfold addShotM; simp [setI_1]) ?_
      exact g_ret Y dX11_shot_83 ⟨_, rfl⟩ ⟨⟨by omega, by omega, by omega⟩, rfl, rfl, rfl⟩
set_option maxRecDepth 100000 in
set_option maxHeartbeats 4000000 in
theorem c_X11_proof {δ : Dx} {nm : List (Nat × Int)} {ad : Ad} {M : Mem} {v : Int} (hN : NmOk nm) (rv : rng v) (vc : 0 ≤ (M.1 0 6 0 0) ∧ (M.1 0 6 0 0) ≤ 6) (hv : ∀ v, 0 ≤ v → v < (M.1 0 6 0 0) → VOk M v) : CtX δ md_X11_proof 1 6 nm ad M [.ref (ad 0 0), .int (iI v)] (pC ((0 ≤ v ∧ v < (M.1 0 6 0 0))) (pV (.int (iI ((M.1 22 2 v 0) + 1))) ad (setI M 22 2 v 0 ((M.1 22 2 v 0) + 1)))) (fun E => (E = "java/lang/IndexOutOfBoundsException" ∧ ¬ (0 ≤ v ∧ v < (M.1 0 6 0 0)))) := by
  refine CtX_of (ins := .ireturn) (ok := okI) [some (.ref (ad 0 0)), some (.int (iI v)), none] (by decide +kernel) rfl (Nat.le_of_ble_eq_true rfl) (fun κ X hr T => xendI rfl X hr T) (fun κ X hNL T Y => ?_)
  refine g_rm (fun hM => ?_)
  refine g_aload_n X dX11_proof_0 rfl rfl ?_
  refine g_iload_n X dX11_proof_1 rfl rfl ?_
  refine g_xV1_v X T w_X11_versionNumbered ml_X11_168 dX11_proof_2 rfl (n0 hN) (en0 _ _ _ _) ⟨⟨Nat.le_of_ble_eq_true rfl, Nat.le_of_ble_eq_true rfl⟩, Nat.le_of_ble_eq_true rfl, Nat.le_of_ble_eq_true rfl⟩ (Nat.le_of_ble_eq_true rfl) (c_X11_versionNumbered hN (by omega) (by omega)) (Nat.le_of_ble_eq_true rfl) (Nat.le_of_ble_eq_true rfl) (fun E h => h) (fun hc2 => ?_)
  obtain ⟨h1, h2, h3, h4, h5, h6, h7⟩ := hv v (by omega) (by omega)
  refine g_astore_2 X dX11_proof_5 rfl (lt_kN hNL rfl) rfl ?_
  refine g_aload_n X dX11_proof_6 rfl rfl ?_
  refine g_dup X dX11_proof_7 rfl rfl ?_
  refine g_getI X ci10 (n22 hN (by omega) (by omega)) (en22 _ _ _ _) (by decide) fl_X11_181 rfl dX11_proof_8 rfl (fun r8 => ?_)
  refine g_iconst X dX11_proof_11 rfl ?_
  refine g_iadd X dX11_proof_12 rfl ?_
  refine g_putI X ci10 (n22 hN (by omega) (by omega)) (en22 _ _ _ _) (ep22_2 _ _ _ _ _) (by omega) (by decide) rfl rfl rfl (Nat.le_of_ble_eq_true rfl) fl_X11_181 dX11_proof_13 rfl ?_
  refine g_aload_n X dX11_proof_16 rfl rfl ?_
  refine g_getI X ci10 (n22 hN (by omega) (by omega)) (en22 _ _ _ _) (by decide) fl_X11_181 rfl dX11_proof_17 rfl (fun r17 => ?_)
  refine g_int (b := (M.1 22 2 v 0) + 1) (by simp [setI_1]) ?_
  exact g_ret Y dX11_proof_20 ⟨_, rfl⟩ ⟨by assumption, rfl, rfl, rfl⟩
set_option maxRecDepth 100000 in
set_option maxHeartbeats 4000000 in
theorem c_X11_speed {δ : Dx} {nm : List (Nat × Int)} {ad : Ad} {M : Mem} {v s x : Int} (hN : NmOk nm) (rv : rng v) (rs : rng s) (rx : rng x) (vc : 0 ≤ (M.1 0 6 0 0) ∧ (M.1 0 6 0 0) ≤ 6) (hv : ∀ v, 0 ≤ v → v < (M.1 0 6 0 0) → VOk M v) : CtX δ md_X11_speed 3 18 nm ad M [.ref (ad 0 0), .int (iI v), .int (iI s), .int (iI x)] (pC ((0 ≤ v ∧ v < (M.1 0 6 0 0)) ∧ (0 ≤ s ∧ s < (M.1 22 3 v 0)) ∧ (8 ≤ x ∧ x ≤ 30)) (pV (.int (iI (M.1 25 0 v s))) ad (setI M 25 0 v s x))) (fun E => (E = "java/lang/IndexOutOfBoundsException" ∧ ¬ (0 ≤ v ∧ v < (M.1 0 6 0 0))) ∨ (E = "java/lang/IndexOutOfBoundsException" ∧ (0 ≤ v ∧ v < (M.1 0 6 0 0)) ∧ ¬ (0 ≤ s ∧ s < (M.1 22 3 v 0))) ∨ (E = "java/lang/IllegalArgumentException" ∧ (0 ≤ v ∧ v < (M.1 0 6 0 0)) ∧ (0 ≤ s ∧ s < (M.1 22 3 v 0)) ∧ ¬ (8 ≤ x ∧ x ≤ 30))) := by
  refine CtX_of (ins := .ireturn) (ok := okI) [some (.ref (ad 0 0)), some (.int (iI v)), some (.int (iI s)), some (.int (iI x)), none, none] (by decide +kernel) rfl (Nat.le_of_ble_eq_true rfl) (fun κ X hr T => xendI rfl X hr T) (fun κ X hNL T Y => ?_)
  refine g_rm (fun hM => ?_)
  refine g_aload_n X dX11_speed_0 rfl rfl ?_
  refine g_iload_n X dX11_speed_1 rfl rfl ?_
  refine g_xV1_v X T w_X11_versionNumbered ml_X11_168 dX11_speed_2 rfl (n0 hN) (en0 _ _ _ _) ⟨⟨Nat.le_of_ble_eq_true rfl, Nat.le_of_ble_eq_true rfl⟩, Nat.le_of_ble_eq_true rfl, Nat.le_of_ble_eq_true rfl⟩ (Nat.le_of_ble_eq_true rfl) (c_X11_versionNumbered hN (by omega) (by omega)) (Nat.le_of_ble_eq_true rfl) (Nat.le_of_ble_eq_true rfl) (fun E h => Or.inl h) (fun hc2 => ?_)
  obtain ⟨h1, h2, h3, h4, h5, h6, h7⟩ := hv v (by omega) (by omega)
  refine g_astore_4 X dX11_speed_5 rfl (lt_kN hNL rfl) rfl ?_
  refine g_iload_n X dX11_speed_7 rfl rfl ?_
  refine g_aload X dX11_speed_8 rfl rfl ?_
  refine g_getI X ci10 (n22 hN (by omega) (by omega)) (en22 _ _ _ _) (by decide) fl_X11_172 rfl dX11_speed_10 rfl (fun r10 => ?_)
  refine g_xS2_n X T w_X11_needPlace ml_X11_91 dX11_speed_13 rfl ⟨⟨Nat.le_of_ble_eq_true rfl, Nat.le_of_ble_eq_true rfl⟩, Nat.le_of_ble_eq_true rfl, Nat.le_of_ble_eq_true rfl⟩ (Nat.le_of_ble_eq_true rfl) (c_X11_needPlace hN (by omega) (by omega)) (Nat.le_of_ble_eq_true rfl) (Nat.le_of_ble_eq_true rfl) (fun E h => Or.inr (Or.inl ⟨h.1, by omega, h.2⟩)) (fun hc13 => ?_)
  refine g_iload_n X dX11_speed_16 rfl rfl ?_
  refine g_bipush X dX11_speed_17 rfl (by decide) ?_
  refine g_bipush X dX11_speed_19 rfl (by decide) ?_
  refine g_iS3_v X w_X11_isWithin ml_X11_67 dX11_speed_21 rfl ⟨⟨Nat.le_of_ble_eq_true rfl, Nat.le_of_ble_eq_true rfl⟩, Nat.le_of_ble_eq_true rfl, Nat.le_of_ble_eq_true rfl⟩ (Nat.le_of_ble_eq_true rfl) (c_X11_isWithin hN (by omega) (by omega) (by omega)) ?_
  refine g_xS1_n X T w_X11_needInRange ml_X11_71 dX11_speed_24 rfl ⟨⟨Nat.le_of_ble_eq_true rfl, Nat.le_of_ble_eq_true rfl⟩, Nat.le_of_ble_eq_true rfl, Nat.le_of_ble_eq_true rfl⟩ (Nat.le_of_ble_eq_true rfl) (c_X11_needInRange hN) (Nat.le_of_ble_eq_true rfl) (Nat.le_of_ble_eq_true rfl) (fun E h => Or.inr (Or.inr ⟨h.1, by omega, by omega, h.2⟩)) (fun hc24 => ?_)
  refine g_aload X dX11_speed_27 rfl rfl ?_
  refine g_get X ci10 (n22 hN (by omega) (by omega)) (en22 _ _ _ _) (by decide) fl_X11_184 rfl dX11_speed_29 rfl ?_
  refine g_iload_n X dX11_speed_32 rfl rfl ?_
  refine g_iald X dX11_speed_33 rfl (n25 hN (by omega) (by omega)) (en25 _ _ _ _) (t0 := 0) rfl (by omega) (by omega) (by decide) (fun r33 => ?_)
  refine g_istore_5 X dX11_speed_34 rfl (lt_kN hNL rfl) rfl ?_
  refine g_aload X dX11_speed_36 rfl rfl ?_
  refine g_get X ci10 (n22 hN (by omega) (by omega)) (en22 _ _ _ _) (by decide) fl_X11_184 rfl dX11_speed_38 rfl ?_
  refine g_iload_n X dX11_speed_41 rfl rfl ?_
  refine g_iload_n X dX11_speed_42 rfl rfl ?_
  refine g_iast X (n25 hN (by omega) (by omega)) (en25 _ _ _ _) (en25 _ _ _ _) (t0 := 0) rfl (by omega) (by omega) (by decide) (by omega) dX11_speed_43 rfl ?_
  refine g_iload X dX11_speed_44 rfl rfl ?_
  exact g_ret Y dX11_speed_46 ⟨_, rfl⟩ ⟨⟨by omega, by omega, by omega⟩, rfl, rfl, rfl⟩
set_option maxRecDepth 100000 in
set_option maxHeartbeats 4000000 in
theorem c_X11_ofVersion {δ : Dx} {nm : List (Nat × Int)} {ad : Ad} {M : Mem} {v w : Int} (hN : NmOk nm) (rv : rng v) (rw : rng w) (rc : 0 ≤ (M.1 0 1 0 0) ∧ (M.1 0 1 0 0) ≤ 12) (vc : 0 ≤ (M.1 0 6 0 0) ∧ (M.1 0 6 0 0) ≤ 6) (hv : ∀ v, 0 ≤ v → v < (M.1 0 6 0 0) → VOk M v) : CtX δ md_X11_ofVersion 2 12 nm ad M [.ref (ad 0 0), .int (iI v), .int (iI w)] (pC ((0 ≤ v ∧ v < (M.1 0 6 0 0)) ∧ (0 ≤ w ∧ w ≤ 5)) (pV (.int (iI (ofVV M v w))) ad M)) (fun E => (E = "java/lang/IndexOutOfBoundsException" ∧ ¬ (0 ≤ v ∧ v < (M.1 0 6 0 0))) ∨ (E = "java/lang/IllegalArgumentException" ∧ (0 ≤ v ∧ v < (M.1 0 6 0 0)) ∧ ¬ (0 ≤ w ∧ w ≤ 5))) := by
  refine CtX_of (ins := .ireturn) (ok := okI) [some (.ref (ad 0 0)), some (.int (iI v)), some (.int (iI w)), none] (by decide +kernel) rfl (Nat.le_of_ble_eq_true rfl) (fun κ X hr T => xendI rfl X hr T) (fun κ X hNL T Y => ?_)
  refine g_rm (fun hM => ?_)
  refine g_aload_n X dX11_ofVersion_0 rfl rfl ?_
  refine g_iload_n X dX11_ofVersion_1 rfl rfl ?_
  refine g_xV1_v X T w_X11_versionNumbered ml_X11_168 dX11_ofVersion_2 rfl (n0 hN) (en0 _ _ _ _) ⟨⟨Nat.le_of_ble_eq_true rfl, Nat.le_of_ble_eq_true rfl⟩, Nat.le_of_ble_eq_true rfl, Nat.le_of_ble_eq_true rfl⟩ (Nat.le_of_ble_eq_true rfl) (c_X11_versionNumbered hN (by omega) (by omega)) (Nat.le_of_ble_eq_true rfl) (Nat.le_of_ble_eq_true rfl) (fun E h => Or.inl h) (fun hc2 => ?_)
  obtain ⟨h1, h2, h3, h4, h5, h6, h7⟩ := hv v (by omega) (by omega)
  refine g_astore_3 X dX11_ofVersion_5 rfl (lt_kN hNL rfl) rfl ?_
  refine g_iload_n X dX11_ofVersion_6 rfl rfl ?_
  by_cases hs7 : w < 0 ∨ 5 < w
  · refine g_swOut (tgt := 79) X dX11_ofVersion_7 (by omega) hs7 rfl ?_
    exact g_throwS X T wt_140_144 (fun _ h => tx_what h) dX11_ofVersion_79 dX11_ofVersion_82 dX11_ofVersion_83 dX11_ofVersion_85 dX11_ofVersion_88 (Or.inr ⟨rfl, by omega, by omega⟩) ⟨Nat.le_of_ble_eq_true rfl, Nat.le_of_ble_eq_true rfl, Nat.le_of_ble_eq_true rfl, Nat.le_of_ble_eq_true rfl⟩ ⟨Nat.le_of_ble_eq_true rfl, Nat.le_of_ble_eq_true rfl⟩
  · rcases (show w = 0 ∨ w = 1 ∨ w = 2 ∨ w = 3 ∨ w = 4 ∨ w = 5 by omega) with hw7 | hw7 | hw7 | hw7 | hw7 | hw7
    · refine g_swIn (tgt := 44) X dX11_ofVersion_7 (by omega) (by omega) (by omega) (by rw [hw7]; rfl) rfl ?_
      refine g_aload_n X dX11_ofVersion_44 rfl rfl ?_
      refine g_getI X ci10 (n22 hN (by omega) (by omega)) (en22 _ _ _ _) (by decide) fl_X11_175 rfl dX11_ofVersion_45 rfl (fun r45 => ?_)
      refine g_widen (cl' := 2) (sl' := 12) (Nat.le_of_ble_eq_true rfl) (Nat.le_of_ble_eq_true rfl) ?_
      exact g_ret Y dX11_ofVersion_48 ⟨_, rfl⟩ ⟨(by exact ⟨by omega, by omega⟩), pVI (by rw [hw7]; rfl)⟩
    · refine g_swIn (tgt := 49) X dX11_ofVersion_7 (by omega) (by omega) (by omega) (by rw [hw7]; rfl) rfl ?_
      refine g_aload_n X dX11_ofVersion_49 rfl rfl ?_
      refine g_aload_n X dX11_ofVersion_50 rfl rfl ?_
      refine g_iV1_v X w_X11_codesThatCanBeRead ml_X11_188 dX11_ofVersion_51 rfl (n0 hN) (en0 _ _ _ _) ⟨⟨Nat.le_of_ble_eq_true rfl, Nat.le_of_ble_eq_true rfl⟩, Nat.le_of_ble_eq_true rfl, Nat.le_of_ble_eq_true rfl⟩ (Nat.le_of_ble_eq_true rfl) (c_X11_codesThatCanBeRead hN rc (by omega) (by omega) h1 (fun s s0 s1 => (h2 s s0 s1).1)) ?_
      refine g_widen (cl' := 2) (sl' := 12) (Nat.le_of_ble_eq_true rfl) (Nat.le_of_ble_eq_true rfl) ?_
      exact g_ret Y dX11_ofVersion_54 ⟨_, rfl⟩ ⟨(by exact ⟨by omega, by omega⟩), pVI (by rw [hw7]; rfl)⟩
    · refine g_swIn (tgt := 55) X dX11_ofVersion_7 (by omega) (by omega) (by omega) (by rw [hw7]; rfl) rfl ?_
      refine g_aload_n X dX11_ofVersion_55 rfl rfl ?_
      refine g_getI X ci10 (n22 hN (by omega) (by omega)) (en22 _ _ _ _) (by decide) fl_X11_181 rfl dX11_ofVersion_56 rfl (fun r56 => ?_)
      refine g_iconst X dX11_ofVersion_59 rfl ?_
      refine g_mmin X wm_min ml_X11_192 dX11_ofVersion_60 rfl ⟨Nat.le_of_ble_eq_true rfl, Nat.le_of_ble_eq_true rfl, Nat.le_of_ble_eq_true rfl⟩ (Nat.le_of_ble_eq_true rfl) (by omega) (by omega) ?_
      refine g_widen (cl' := 2) (sl' := 12) (Nat.le_of_ble_eq_true rfl) (Nat.le_of_ble_eq_true rfl) ?_
      exact g_ret Y dX11_ofVersion_63 ⟨_, rfl⟩ ⟨(by exact ⟨by omega, by omega⟩), pVI (by rw [hw7]; rfl)⟩
    · refine g_swIn (tgt := 64) X dX11_ofVersion_7 (by omega) (by omega) (by omega) (by rw [hw7]; rfl) rfl ?_
      refine g_aload_n X dX11_ofVersion_64 rfl rfl ?_
      refine g_iV0_v X w_X10_duration ml_X11_198 dX11_ofVersion_65 rfl (n22 hN (by omega) (by omega)) (en22 _ _ _ _) ⟨⟨Nat.le_of_ble_eq_true rfl, Nat.le_of_ble_eq_true rfl⟩, Nat.le_of_ble_eq_true rfl, Nat.le_of_ble_eq_true rfl⟩ (Nat.le_of_ble_eq_true rfl) (c_X10_duration hN (by omega) (by omega) h1 h2) ?_
      refine g_widen (cl' := 2) (sl' := 12) (Nat.le_of_ble_eq_true rfl) (Nat.le_of_ble_eq_true rfl) ?_
      exact g_ret Y dX11_ofVersion_68 ⟨_, rfl⟩ ⟨(by exact ⟨by omega, by omega⟩), pVI (by rw [hw7]; rfl)⟩
    · refine g_swIn (tgt := 69) X dX11_ofVersion_7 (by omega) (by omega) (by omega) (by rw [hw7]; rfl) rfl ?_
      refine g_aload_n X dX11_ofVersion_69 rfl rfl ?_
      refine g_getI X ci10 (n22 hN (by omega) (by omega)) (en22 _ _ _ _) (by decide) fl_X11_201 rfl dX11_ofVersion_70 rfl (fun r70 => ?_)
      refine g_widen (cl' := 2) (sl' := 12) (Nat.le_of_ble_eq_true rfl) (Nat.le_of_ble_eq_true rfl) ?_
      exact g_ret Y dX11_ofVersion_73 ⟨_, rfl⟩ ⟨(by exact ⟨by omega, by omega⟩), pVI (by rw [hw7]; rfl)⟩
    · refine g_swIn (tgt := 74) X dX11_ofVersion_7 (by omega) (by omega) (by omega) (by rw [hw7]; rfl) rfl ?_
      refine g_aload_n X dX11_ofVersion_74 rfl rfl ?_
      refine g_getI X ci10 (n22 hN (by omega) (by omega)) (en22 _ _ _ _) (by decide) fl_X11_202 rfl dX11_ofVersion_75 rfl (fun r75 => ?_)
      refine g_widen (cl' := 2) (sl' := 12) (Nat.le_of_ble_eq_true rfl) (Nat.le_of_ble_eq_true rfl) ?_
      exact g_ret Y dX11_ofVersion_78 ⟨_, rfl⟩ ⟨(by exact ⟨by omega, by omega⟩), pVI (by rw [hw7]; rfl)⟩
set_option maxRecDepth 100000 in
set_option maxHeartbeats 4000000 in
theorem c_X11_scrap {δ : Dx} {nm : List (Nat × Int)} {ad : Ad} {M : Mem} {c t : Int} (hN : NmOk nm) (rc : rng c) (rt : rng t) (s0 : 0 ≤ (M.1 6 0 0 0) ∧ (M.1 6 0 0 0) ≤ 100) : CtX δ md_X11_scrap 2 12 nm ad M [.ref (ad 0 0), .int (iI c), .int (iI t)] (pC (((0 ≤ c ∧ c ≤ 999) ∧ (0 ≤ t ∧ t ≤ 9)) ∧ ((M.1 6 0 0 0) < 100)) (pV (.int (iI (scN (setI (setI (setI M 7 0 0 (M.1 6 0 0 0) c) 8 0 0 (M.1 6 0 0 0) t) 6 0 0 0 ((M.1 6 0 0 0) + 1)) c))) ad (setI (setI (setI M 7 0 0 (M.1 6 0 0 0) c) 8 0 0 (M.1 6 0 0 0) t) 6 0 0 0 ((M.1 6 0 0 0) + 1)))) (fun E => (E = "java/lang/IllegalArgumentException" ∧ ¬ ((0 ≤ c ∧ c ≤ 999) ∧ (0 ≤ t ∧ t ≤ 9))) ∨ (E = "java/lang/IllegalStateException" ∧ ((0 ≤ c ∧ c ≤ 999) ∧ (0 ≤ t ∧ t ≤ 9)) ∧ ¬ ((M.1 6 0 0 0) < 100))) := by
  refine CtX_of (ins := .ireturn) (ok := okI) [some (.ref (ad 0 0)), some (.int (iI c)), some (.int (iI t))] (by decide +kernel) rfl (Nat.le_of_ble_eq_true rfl) (fun κ X hr T => xendI rfl X hr T) (fun κ X hNL T Y => ?_)
  refine g_rm (fun hM => ?_)
  refine g_cutB 26 ((0 ≤ c ∧ c ≤ 999) ∧ (0 ≤ t ∧ t ≤ 9)) (fun ct0 cf0 => ?_) ?_
  · skip
    refine g_iload_n X dX11_scrap_0 rfl rfl ?_
    refine g_iconst X dX11_scrap_1 rfl ?_
    refine g_sipush X dX11_scrap_2 rfl (by decide) ?_
    refine g_iS3_v X w_X11_isWithin ml_X11_67 dX11_scrap_5 rfl ⟨⟨Nat.le_of_ble_eq_true rfl, Nat.le_of_ble_eq_true rfl⟩, Nat.le_of_ble_eq_true rfl, Nat.le_of_ble_eq_true rfl⟩ (Nat.le_of_ble_eq_true rfl) (c_X11_isWithin hN (by omega) (by omega) (by omega)) ?_
    refine g_ifB_eq (tgt := 25) X dX11_scrap_8 rfl rfl (fun h8 => ?_) (fun h8 => ?_)
    · skip
      refine g_iconst X dX11_scrap_25 rfl ?_
      exact cf0 (by omega)
    · skip
      refine g_iload_n X dX11_scrap_11 rfl rfl ?_
      refine g_iconst X dX11_scrap_12 rfl ?_
      refine g_bipush X dX11_scrap_13 rfl (by decide) ?_
      refine g_iS3_v X w_X11_isWithin ml_X11_67 dX11_scrap_15 rfl ⟨⟨Nat.le_of_ble_eq_true rfl, Nat.le_of_ble_eq_true rfl⟩, Nat.le_of_ble_eq_true rfl, Nat.le_of_ble_eq_true rfl⟩ (Nat.le_of_ble_eq_true rfl) (c_X11_isWithin hN (by omega) (by omega) (by omega)) ?_
      refine g_ifB_eq (tgt := 25) X dX11_scrap_18 rfl rfl (fun h18 => ?_) (fun h18 => ?_)
      · skip
        refine g_iconst X dX11_scrap_25 rfl ?_
        exact cf0 (by omega)
      · skip
        refine g_iconst X dX11_scrap_21 rfl ?_
        refine g_goto (pc' := 26) X dX11_scrap_22 rfl ?_
        exact ct0 (by omega)
  · skip
    refine g_xS1_n X T w_X11_needInRange ml_X11_71 dX11_scrap_26 rfl ⟨⟨Nat.le_of_ble_eq_true rfl, Nat.le_of_ble_eq_true rfl⟩, Nat.le_of_ble_eq_true rfl, Nat.le_of_ble_eq_true rfl⟩ (Nat.le_of_ble_eq_true rfl) (c_X11_needInRange hN) (Nat.le_of_ble_eq_true rfl) (Nat.le_of_ble_eq_true rfl) (fun E h => by first | exact Or.inl ⟨h.1, by omega⟩ | exact Or.inr (⟨h.1, by omega⟩)) (fun hc26 => ?_)
    refine g_cutB 46 ((M.1 6 0 0 0) < 100) (fun ct29 cf29 => ?_) ?_
    · skip
      refine g_aload_n X dX11_scrap_29 rfl rfl ?_
      refine g_get X ci11 (n0 hN) (en0 _ _ _ _) (by decide) fl_X11_47 rfl dX11_scrap_30 rfl ?_
      refine g_getI X ci9 (n6 hN) (en6 _ _ _ _) (by decide) fl_X11_203 rfl dX11_scrap_33 rfl (fun r33 => ?_)
      refine g_bipush X dX11_scrap_36 rfl (by decide) ?_
      refine g_icmp_ge (tgt := 45) X dX11_scrap_38 rfl rfl (by omega) (by omega) (fun h38 => ?_) (fun h38 => ?_)
      · skip
        refine g_iconst X dX11_scrap_45 rfl ?_
        exact cf29 (by omega)
      · skip
        refine g_iconst X dX11_scrap_41 rfl ?_
        refine g_goto (pc' := 46) X dX11_scrap_42 rfl ?_
        exact ct29 (by omega)
    · skip
      refine g_xS1_n X T w_X11_needPossible ml_X11_75 dX11_scrap_46 rfl ⟨⟨Nat.le_of_ble_eq_true rfl, Nat.le_of_ble_eq_true rfl⟩, Nat.le_of_ble_eq_true rfl, Nat.le_of_ble_eq_true rfl⟩ (Nat.le_of_ble_eq_true rfl) (c_X11_needPossible hN) (Nat.le_of_ble_eq_true rfl) (Nat.le_of_ble_eq_true rfl) (fun E h => by first | exact Or.inl ⟨h.1, by omega⟩ | exact Or.inr (⟨h.1, by omega⟩)) (fun hc46 => ?_)
      refine g_aload_n X dX11_scrap_49 rfl rfl ?_
      refine g_get X ci11 (n0 hN) (en0 _ _ _ _) (by decide) fl_X11_47 rfl dX11_scrap_50 rfl ?_
      refine g_iload_n X dX11_scrap_53 rfl rfl ?_
      refine g_iload_n X dX11_scrap_54 rfl rfl ?_
      refine g_iV2_n X w_X9_add ml_X11_206 dX11_scrap_55 rfl (n6 hN) (en6 _ _ _ _) ⟨⟨Nat.le_of_ble_eq_true rfl, Nat.le_of_ble_eq_true rfl⟩, Nat.le_of_ble_eq_true rfl, Nat.le_of_ble_eq_true rfl⟩ (Nat.le_of_ble_eq_true rfl) (c_X9_add hN (by omega) (by omega) (by omega)) ?_
      refine g_aload_n X dX11_scrap_58 rfl rfl ?_
      refine g_get X ci11 (n0 hN) (en0 _ _ _ _) (by decide) fl_X11_47 rfl dX11_scrap_59 rfl ?_
      refine g_iload_n X dX11_scrap_62 rfl rfl ?_
      refine g_iV1_v X w_X9_withCode ml_X11_209 dX11_scrap_63 rfl (n6 hN) (en6 _ _ _ _) ⟨⟨Nat.le_of_ble_eq_true rfl, Nat.le_of_ble_eq_true rfl⟩, Nat.le_of_ble_eq_true rfl, Nat.le_of_ble_eq_true rfl⟩ (Nat.le_of_ble_eq_true rfl) (c_X9_withCode hN (by simp [setI_1]; omega) (by omega)) ?_
      exact g_ret Y dX11_scrap_66 ⟨_, rfl⟩ ⟨⟨by omega, by omega⟩, rfl, rfl, rfl⟩
set_option maxRecDepth 100000 in
set_option maxHeartbeats 4000000 in
theorem c_X11_tint {δ : Dx} {nm : List (Nat × Int)} {ad : Ad} {M : Mem} {v s : Int} (hN : NmOk nm) (rv : rng v) (rs : rng s) (vc : 0 ≤ (M.1 0 6 0 0) ∧ (M.1 0 6 0 0) ≤ 6) (hv : ∀ v, 0 ≤ v → v < (M.1 0 6 0 0) → VOk M v) (s0 : 0 ≤ (M.1 6 0 0 0) ∧ (M.1 6 0 0 0) ≤ 100) (ht : ∀ j, 0 ≤ j → j < (M.1 6 0 0 0) → 0 ≤ (M.1 8 0 0 j) ∧ (M.1 8 0 0 j) ≤ 9) : CtX δ md_X11_tint 2 12 nm ad M [.ref (ad 0 0), .int (iI v), .int (iI s)] (pC ((0 ≤ v ∧ v < (M.1 0 6 0 0)) ∧ (0 ≤ s ∧ s < (M.1 22 3 v 0))) (pG (.int (iI (win (vt M (M.1 23 0 v s) (M.1 24 0 v s)) 10))) ad (fun M' => Ex (fun k => k == 9) M M'))) (fun E => (E = "java/lang/IndexOutOfBoundsException" ∧ ¬ (0 ≤ v ∧ v < (M.1 0 6 0 0))) ∨ (E = "java/lang/IndexOutOfBoundsException" ∧ (0 ≤ v ∧ v < (M.1 0 6 0 0)) ∧ ¬ (0 ≤ s ∧ s < (M.1 22 3 v 0)))) := by
  refine CtX_of (ins := .ireturn) (ok := okI) [some (.ref (ad 0 0)), some (.int (iI v)), some (.int (iI s)), none] (by decide +kernel) rfl (Nat.le_of_ble_eq_true rfl) (fun κ X hr T => xendI rfl X hr T) (fun κ X hNL T Y => ?_)
  refine g_rm (fun hM => ?_)
  refine g_aload_n X dX11_tint_0 rfl rfl ?_
  refine g_iload_n X dX11_tint_1 rfl rfl ?_
  refine g_xV1_v X T w_X11_versionNumbered ml_X11_168 dX11_tint_2 rfl (n0 hN) (en0 _ _ _ _) ⟨⟨Nat.le_of_ble_eq_true rfl, Nat.le_of_ble_eq_true rfl⟩, Nat.le_of_ble_eq_true rfl, Nat.le_of_ble_eq_true rfl⟩ (Nat.le_of_ble_eq_true rfl) (c_X11_versionNumbered hN (by omega) (by omega)) (Nat.le_of_ble_eq_true rfl) (Nat.le_of_ble_eq_true rfl) (fun E h => Or.inl h) (fun hc2 => ?_)
  obtain ⟨h1, h2, h3, h4, h5, h6, h7⟩ := hv v (by omega) (by omega)
  refine g_astore_3 X dX11_tint_5 rfl (lt_kN hNL rfl) rfl ?_
  refine g_iload_n X dX11_tint_6 rfl rfl ?_
  refine g_aload_n X dX11_tint_7 rfl rfl ?_
  refine g_getI X ci10 (n22 hN (by omega) (by omega)) (en22 _ _ _ _) (by decide) fl_X11_172 rfl dX11_tint_8 rfl (fun r8 => ?_)
  refine g_xS2_n X T w_X11_needPlace ml_X11_91 dX11_tint_11 rfl ⟨⟨Nat.le_of_ble_eq_true rfl, Nat.le_of_ble_eq_true rfl⟩, Nat.le_of_ble_eq_true rfl, Nat.le_of_ble_eq_true rfl⟩ (Nat.le_of_ble_eq_true rfl) (c_X11_needPlace hN (by omega) (by omega)) (Nat.le_of_ble_eq_true rfl) (Nat.le_of_ble_eq_true rfl) (fun E h => Or.inr ⟨h.1, by omega, h.2⟩) (fun hc11 => ?_)
  refine g_aload_n X dX11_tint_14 rfl rfl ?_
  refine g_get X ci11 (n0 hN) (en0 _ _ _ _) (by decide) fl_X11_47 rfl dX11_tint_15 rfl ?_
  refine g_aload_n X dX11_tint_18 rfl rfl ?_
  refine g_get X ci10 (n22 hN (by omega) (by omega)) (en22 _ _ _ _) (by decide) fl_X11_212 rfl dX11_tint_19 rfl ?_
  refine g_iload_n X dX11_tint_22 rfl rfl ?_
  refine g_iald X dX11_tint_23 rfl (n23 hN (by omega) (by omega)) (en23 _ _ _ _) (t0 := 0) rfl (by omega) (by omega) (by decide) (fun r23 => ?_)
  refine g_aload_n X dX11_tint_24 rfl rfl ?_
  refine g_get X ci10 (n22 hN (by omega) (by omega)) (en22 _ _ _ _) (by decide) fl_X11_215 rfl dX11_tint_25 rfl ?_
  refine g_iload_n X dX11_tint_28 rfl rfl ?_
  refine g_iald X dX11_tint_29 rfl (n24 hN (by omega) (by omega)) (en24 _ _ _ _) (t0 := 0) rfl (by omega) (by omega) (by decide) (fun r29 => ?_)
  refine g_iV2_g X w_X9_tintOfCodes ml_X11_218 dX11_tint_30 rfl (n6 hN) (en6 _ _ _ _) ⟨⟨Nat.le_of_ble_eq_true rfl, Nat.le_of_ble_eq_true rfl⟩, Nat.le_of_ble_eq_true rfl, Nat.le_of_ble_eq_true rfl⟩ (Nat.le_of_ble_eq_true rfl) (c_X9_tintOfCodes hN s0 ht (hM 23 0 v s) (hM 24 0 v s)) (fun Mc30 hc30 => ?_)
  refine g_rm (fun hMc30 => ?_)
  exact g_ret Y dX11_tint_33 ⟨_, rfl⟩ ⟨⟨by omega, by omega⟩, rfl, rfl, hc30⟩
