theorem bst_first {C : Mem} {c : Int} : ∀ n : Nat, bst C c n ≠ -1 → (C.1 20 0 (bst C c n) c) ≠ -1
  | 0, h => absurd rfl h
  | n + 1, h => by
    have e : bst C c (n + 1) = cif ((C.1 16 4 ((n : Int)) 0) < 300 ∧ (C.1 20 0 ((n : Int)) c) ≠ -1 ∧ (bst C c n = -1 ∨ btr C n (bst C c n))) (n : Int) (bst C c n) := rfl
    by_cases q : (C.1 16 4 ((n : Int)) 0) < 300 ∧ (C.1 20 0 ((n : Int)) c) ≠ -1 ∧ (bst C c n = -1 ∨ btr C n (bst C c n))
    · rw [e, cif_t q]; exact q.2.1
    · rw [e, cif_f q] at h ⊢
      exact bst_first n h
theorem best_first {C : Mem} {c : Int} (_ : 0 ≤ (C.1 0 1 0 0)) (h : best C c ≠ -1) : (C.1 20 0 (best C c) c) ≠ -1 := bst_first _ h
def kpE (k f : Nat) : Bool := !(k == 67 || k == 68 || k == 69 || k == 70 || k == 71 || k == 72 || (k == 40 && f == 39))
noncomputable def plC (C : Mem) (c : Int) : Int := if best C c = -1 then -1 else (C.1 20 0 (best C c) c)
noncomputable def frC (C : Mem) (c : Int) : Int64 := if best C c = -1 then 0 else (C.2 18 0 (best C c) ((C.1 20 0 (best C c) c)))
/-- the reference's frame k is what the reels of C have of code c -/
def EnM (C M : Mem) (k c : Int) : Prop := (M.1 67 0 0 k) = c ∧ (M.1 68 0 0 k) = best C c ∧ (M.1 69 0 0 k) = plC C c ∧ (M.2 70 0 0 k) = frC C c ∧ (M.2 71 0 0 k) = frC C c ∧ (M.1 72 0 0 k) = 0
noncomputable def edM (C M : Mem) (c : Int) : Mem := setI (setI (setL (setL (setI (setI (setI M 67 0 0 (M.1 40 39 0 0) c) 68 0 0 (M.1 40 39 0 0) (best C c)) 69 0 0 (M.1 40 39 0 0) (plC C c)) 70 0 0 (M.1 40 39 0 0) (frC C c)) 71 0 0 (M.1 40 39 0 0) (frC C c)) 72 0 0 (M.1 40 39 0 0) 0) 40 39 0 0 ((M.1 40 39 0 0) + 1)
def EdM (C : Mem) (v s e : Int) (M0 M : Mem) : Prop := Ag kpE M0 M ∧ (M.1 40 39 0 0) = sm (lenV C v) 0 s + e ∧ (∀ z d, 0 ≤ z → (C.1 23 0 v z) ≤ d → d ≤ (C.1 24 0 v z) → (z < s ∨ (z = s ∧ d < (C.1 23 0 v s) + e)) → EnM C M (sm (lenV C v) 0 z + (d - (C.1 23 0 v z))) d)
theorem edM_at (C M : Mem) (c k : Int) : (edM C M c).1 67 0 0 k = (if k = (M.1 40 39 0 0) then c else (M.1 67 0 0 k)) ∧ (edM C M c).1 68 0 0 k = (if k = (M.1 40 39 0 0) then best C c else (M.1 68 0 0 k)) ∧ (edM C M c).1 69 0 0 k = (if k = (M.1 40 39 0 0) then plC C c else (M.1 69 0 0 k)) ∧ (edM C M c).2 70 0 0 k = (if k = (M.1 40 39 0 0) then frC C c else (M.2 70 0 0 k)) ∧ (edM C M c).2 71 0 0 k = (if k = (M.1 40 39 0 0) then frC C c else (M.2 71 0 0 k)) ∧ (edM C M c).1 72 0 0 k = (if k = (M.1 40 39 0 0) then 0 else (M.1 72 0 0 k)) ∧ (edM C M c).1 40 39 0 0 = (M.1 40 39 0 0) + 1 := by
  unfold edM
  refine ⟨?_, ?_, ?_, ?_, ?_, ?_, ?_⟩ <;> simp [setI_1, setI_2, setL_1, setL_2]
theorem EdM.step {C M0 M : Mem} {v s e : Int} (h : EdM C v s e M0 M) (s0 : 0 ≤ s) (e0 : 0 ≤ e) (hl : ∀ z, 0 ≤ z → z < s → 0 ≤ lenV C v z) : EdM C v s (e + 1) M0 (edM C M ((C.1 23 0 v s) + e)) := by
  obtain ⟨h1, h2, h5⟩ := h
  obtain ⟨-, -, -, -, -, -, a7⟩ := edM_at C M ((C.1 23 0 v s) + e) 0
  refine ⟨?_, by rw [a7, h2]; omega, fun z d z0 d0 d1 hz => ?_⟩
  · unfold edM
    exact ((((((h1.setI rfl).setI rfl).setI rfl).setL rfl).setL rfl).setI rfl).setI rfl
  · obtain ⟨a1, a2, a3, a4, a5, a6, -⟩ := edM_at C M ((C.1 23 0 v s) + e) (sm (lenV C v) 0 z + (d - (C.1 23 0 v z)))
    unfold EnM
    rw [a1, a2, a3, a4, a5, a6]
    by_cases q : z = s ∧ d = (C.1 23 0 v s) + e
    · obtain ⟨a, b⟩ := q
      subst a
      have hk : sm (lenV C v) 0 z + (d - (C.1 23 0 v z)) = (M.1 40 39 0 0) := by rw [h2]; omega
      rw [if_pos hk, if_pos hk, if_pos hk, if_pos hk, if_pos hk, if_pos hk, b]
      exact ⟨rfl, rfl, rfl, rfl, rfl, rfl⟩
    · have old : z < s ∨ (z = s ∧ d < (C.1 23 0 v s) + e) := by
        rcases hz with y | y
        · exact Or.inl y
        · refine Or.inr ⟨y.1, ?_⟩
          have : d ≠ (C.1 23 0 v s) + e := fun g => q ⟨y.1, g⟩
          omega
      have hne : ¬ (sm (lenV C v) 0 z + (d - (C.1 23 0 v z)) = (M.1 40 39 0 0)) := by
        rw [h2]
        rcases old with y | y
        · have a1 := sm_s (lenV C v) z0
          have a2 := sm_app (lenV C v) (lo := 0) (mi := z + 1) (hi := s) (by omega) (by omega)
          have a3 : 0 ≤ sm (lenV C v) (z + 1) s := sm_nng (fun k k0 k1 => hl k (by omega) k1)
          have a4 : lenV C v z = (C.1 24 0 v z) - (C.1 23 0 v z) + 1 := rfl
          omega
        · rw [y.1] at d0 ⊢
          omega
      rw [if_neg hne, if_neg hne, if_neg hne, if_neg hne, if_neg hne, if_neg hne]
      exact h5 z d z0 d0 d1 old
theorem EdM.next {C M0 M : Mem} {v s : Int} (h : EdM C v s (lenV C v s) M0 M) (s0 : 0 ≤ s) : EdM C v (s + 1) 0 M0 M := by
  obtain ⟨h1, h2, h5⟩ := h
  refine ⟨h1, by rw [h2, sm_s _ s0]; omega, fun z d z0 d0 d1 hz => h5 z d z0 d0 d1 ?_⟩
  rcases hz with y | y
  · by_cases q : z = s
    · refine Or.inr ⟨q, ?_⟩
      rw [q] at d1
      unfold lenV
      omega
    · exact Or.inl (by omega)
  · rw [y.1] at d0
    omega
theorem pR_kpE (k f : Nat) (h : pR k f = true) : kpE k f = true := by
  unfold pR at h
  unfold kpE
  simp only [Bool.or_eq_true, Bool.and_eq_true, beq_iff_eq] at h
  simp only [Bool.not_eq_true', Bool.or_eq_false_iff, Bool.and_eq_false_iff, beq_eq_false_iff_ne]
  omega
theorem pV_kpE (k f : Nat) (h : pV_ k f = true) : kpE k f = true := by
  unfold pV_ at h
  unfold kpE
  simp only [Bool.or_eq_true, Bool.and_eq_true, beq_iff_eq] at h
  simp only [Bool.not_eq_true', Bool.or_eq_false_iff, Bool.and_eq_false_iff, beq_eq_false_iff_ne]
  omega
theorem EdM.gap {C M : Mem} {c a : Int} (hf : 0 ≤ (M.1 40 39 0 0)) (ha : a = sm (fun k => bI ((M.1 68 0 0 k) = -1)) 0 (M.1 40 39 0 0)) : a + bI (best C c = -1) = sm (fun k => bI ((((edM C M c)).1 68 0 0 k) = -1)) 0 (((edM C M c)).1 40 39 0 0) := by
  obtain ⟨-, -, -, -, -, -, a7⟩ := edM_at C M c 0
  rw [a7, sm_s _ hf, ha]
  obtain ⟨-, a2, -⟩ := edM_at C M c (M.1 40 39 0 0)
  rw [a2, if_pos rfl]
  refine congrArg (fun z => z + bI (best C c = -1)) (sm_c (fun k k0 k1 => ?_))
  obtain ⟨-, b2, -⟩ := edM_at C M c k
  show bI _ = bI _
  rw [b2, if_neg (by omega)]
set_option maxRecDepth 100000 in
set_option maxHeartbeats 4000000 in
theorem c_X12_edition {δ : Dx} {nm : List (Nat × Int)} {ad : Ad} {M : Mem} {C : Mem} {n : Int} {v : Int} (hN : NmOk nm) (hR : RelR C M) (hV : RelV n C M) (rv : rng v) : Ct δ md_X12_edition 0 0 nm ad M [.ref (ad 40 0), .int (iI v)] (fun x ad' M' => ad' = ad ∧ ((0 < (if 0 ≤ v ∧ v < (C.1 0 6 0 0) then 0 else 1 : Int) ∧ x = some (.int (iI (-1))) ∧ M' = setI M 40 46 0 0 (if 0 ≤ v ∧ v < (C.1 0 6 0 0) then 0 else 1)) ∨ ((if 0 ≤ v ∧ v < (C.1 0 6 0 0) then 0 else 1 : Int) = 0 ∧ x = some (.int (iI (sm (fun k => bI ((M'.1 68 0 0 k) = -1)) 0 (M'.1 40 39 0 0)))) ∧ EdM C v (C.1 22 3 v 0) 0 (setI (setI (setI M 40 46 0 0 0) 40 39 0 0 0) 40 44 0 0 0) M'))) := by
  refine Ct_of (ins := .ireturn) (ok := okI) [some (.ref (ad 40 0)), some (.int (iI v)), none, none, none, none] (by decide +kernel) rfl (Nat.le_of_ble_eq_true rfl) (fun κ s hs X hr hQ hδ => endI rfl hs X hr hQ hδ) (fun κ X hNL hδ Y => ?_)
  refine g_rm (fun hM => ?_)
  have vc := hV.vc
  have ve := hV.e
  have rc := hR.rc
  refine g_aload_n X dX12_edition_0 rfl rfl ?_
  refine g_cutI 14 (if 0 ≤ v ∧ v < (C.1 0 6 0 0) then 0 else 1) (fun ci1 => ?_) ?_
  · skip
    refine g_aload_n X dX12_edition_1 rfl rfl ?_
    refine g_iload_n X dX12_edition_2 rfl rfl ?_
    refine g_iV1_v X w_X12_isVersion ml_X12_222 dX12_edition_3 rfl (n40 hN) (en40 _ _ _ _) ⟨⟨Nat.le_of_ble_eq_true rfl, Nat.le_of_ble_eq_true rfl⟩, Nat.le_of_ble_eq_true rfl, Nat.le_of_ble_eq_true rfl⟩ (Nat.le_of_ble_eq_true rfl) (c_X12_isVersion hN (by omega) (by omega)) ?_
    refine g_ifB_eq (tgt := 13) X dX12_edition_6 rfl rfl (fun h6 => ?_) (fun h6 => ?_)
    · skip
      refine g_iconst X dX12_edition_13 rfl ?_
      exact ci1 _ (by omega)
    · skip
      refine g_iconst X dX12_edition_9 rfl ?_
      refine g_goto (pc' := 14) X dX12_edition_10 rfl ?_
      exact ci1 _ (by omega)
  · skip
    refine g_iV1_v X w_X12_holds ml_X12_158 dX12_edition_14 rfl (n40 hN) (en40 _ _ _ _) ⟨⟨Nat.le_of_ble_eq_true rfl, Nat.le_of_ble_eq_true rfl⟩, Nat.le_of_ble_eq_true rfl, Nat.le_of_ble_eq_true rfl⟩ (Nat.le_of_ble_eq_true rfl) (c_X12_holds hN (by omega)) ?_
    refine g_ifB_eq (tgt := 22) X dX12_edition_17 rfl rfl (fun h17 => ?_) (fun h17 => ?_)
    · skip
      have w0 : (if 0 ≤ v ∧ v < (C.1 0 6 0 0) then 0 else 1 : Int) = 0 := by omega
      rw [w0]
      have v0 : 0 ≤ v := by omega
      have v1 : v < (C.1 0 6 0 0) := by omega
      have ok := hV.ok v v0 v1
      have s0 := ok.1
      have mv := hV.mv v v0 v1
      obtain ⟨h1, h2, h3, h4, h5, h6, h7⟩ := ok
      have hl : ∀ z, 0 ≤ z → z < (C.1 22 3 v 0) → 1 ≤ lenV C v z ∧ (C.1 23 0 v z) + lenV C v z = (C.1 24 0 v z) + 1 := fun z z0 z1 => by have := h2 z z0 z1; unfold lenV; omega
      have h3b : (C.1 22 4 v 0) = sm (lenV C v) 0 (C.1 22 3 v 0) := h3.1
      have hRb : RelR C (setI (setI (setI M 40 46 0 0 0) 40 39 0 0 0) 40 44 0 0 0) := hR.ag (Ag.rf C) ((((Ag.rf M).setI rfl).setI rfl).setI rfl)
      have hVb : RelV n C (setI (setI (setI M 40 46 0 0 0) 40 39 0 0 0) 40 44 0 0 0) := hV.ag (Ag.rf C) ((((Ag.rf M).setI rfl).setI rfl).setI rfl)
      refine g_aload_n X dX12_edition_22 rfl rfl ?_
      refine g_iconst X dX12_edition_23 rfl ?_
      refine g_putI X ci12 (n40 hN) (en40 _ _ _ _) (ep40_39 _ _ _ _ _) (by first | omega | (simp only [setI_1, setL_1, setI_2, setL_2]; omega) | (simp only [setI_1, setL_1, setI_2, setL_2]; simp; omega)) (by decide) rfl rfl rfl (Nat.le_of_ble_eq_true rfl) fl_X12_249 dX12_edition_24 rfl ?_
      refine g_aload_n X dX12_edition_27 rfl rfl ?_
      refine g_iconst X dX12_edition_28 rfl ?_
      refine g_putI X ci12 (n40 hN) (en40 _ _ _ _) (ep40_44 _ _ _ _ _) (by first | omega | (simp only [setI_1, setL_1, setI_2, setL_2]; omega) | (simp only [setI_1, setL_1, setI_2, setL_2]; simp; omega)) (by decide) rfl rfl rfl (Nat.le_of_ble_eq_true rfl) fl_X12_252 dX12_edition_29 rfl ?_
      refine g_iconst X dX12_edition_32 rfl ?_
      refine g_istore_2 X dX12_edition_33 rfl (lt_kN hNL rfl) rfl ?_
      refine g_bipush X dX12_edition_34 rfl (by decide) ?_
      refine g_iload_n X dX12_edition_36 rfl rfl ?_
      refine g_imul X dX12_edition_37 rfl ?_
      refine g_istore_3 X dX12_edition_38 rfl (lt_kN hNL rfl) rfl ?_
      have lp39 : ∀ (a : Int) (k : Int) (M1 : Mem) (k0 : 10 * v ≤ k) (k1 : k ≤ 10 * v + (C.1 22 3 v 0)) (ha : a = sm (fun k => bI ((M1.1 68 0 0 k) = -1)) 0 (M1.1 40 39 0 0)) (hE1 : EdM C v (k - 10 * v) 0 (setI (setI (setI M 40 46 0 0 0) 40 39 0 0 0) 40 44 0 0 0) M1), G κ nm ad M1 39 [some (.ref (ad 40 0)), some (.int (iI v)), some (.int (iI a)), some (.int (iI k)), none, none] [] 0 0 := by
        refine ind3 (fun a k M1 => (10 * v + 10 - k).toNat) ?_
        intro a k M1 ih39 k0 k1 ha hE1
        refine g_rm (fun hM39 => ?_)
        have hV1 : RelV n C M1 := hVb.ag (Ag.rf C) (hE1.1.mono pV_kpE)
        have mv1 := hV1.mv v v0 v1
        refine g_iload_n X dX12_edition_39 rfl rfl ?_
        refine g_bipush X dX12_edition_40 rfl (by decide) ?_
        refine g_iload_n X dX12_edition_42 rfl rfl ?_
        refine g_imul X dX12_edition_43 rfl ?_
        refine g_aload_n X dX12_edition_44 rfl rfl ?_
        refine g_get X ci12 (n40 hN) (en40 _ _ _ _) (by decide) fl_X12_60 rfl dX12_edition_45 rfl ?_
        refine g_iload_n X dX12_edition_48 rfl rfl ?_
        refine g_iald X dX12_edition_49 rfl (n55 hN) (en55 _ _ _ _) (t0 := 0) rfl (by omega) (by omega) (by decide) (fun r49 => ?_)
        refine g_iadd X dX12_edition_50 rfl ?_
        refine g_icmp_ge (tgt := 230) X dX12_edition_51 rfl rfl (by omega) (by omega) (fun h51 => ?_) (fun h51 => ?_)
        · skip
          refine g_iload_n X dX12_edition_230 rfl rfl ?_
          exact g_ret Y dX12_edition_231 ⟨_, rfl⟩ ⟨rfl, Or.inr ⟨w0, by rw [← ha], by rw [show (C.1 22 3 v 0) = k - 10 * v by omega]; exact hE1⟩⟩
        · skip
          have sh := hV1.sh v (k - 10 * v) v0 v1 (by omega) (by omega)
          rw [show 10 * v + (k - 10 * v) = k by omega] at sh
          have q := h2 (k - 10 * v) (by omega) (by omega)
          have ql := hl (k - 10 * v) (by omega) (by omega)
          have a1 := sm_s (lenV C v) (lo := 0) (hi := k - 10 * v) (by omega)
          have a2 := sm_app (lenV C v) (lo := 0) (mi := k - 10 * v + 1) (hi := (C.1 22 3 v 0)) (by omega) (by omega)
          have a3 : 0 ≤ sm (lenV C v) (k - 10 * v + 1) (C.1 22 3 v 0) := sm_nng (fun k k0 k1 => by have := hl k (by omega) k1; omega)
          have a4 : 0 ≤ sm (lenV C v) 0 (k - 10 * v) := sm_nng (fun k k0 k1 => by have := hl k k0 (by omega); omega)
          refine g_aload_n X dX12_edition_54 rfl rfl ?_
          refine g_get X ci12 (n40 hN) (en40 _ _ _ _) (by decide) fl_X12_63 rfl dX12_edition_55 rfl ?_
          refine g_iload_n X dX12_edition_58 rfl rfl ?_
          refine g_iald X dX12_edition_59 rfl (n56 hN) (en56 _ _ _ _) (t0 := 0) rfl (by omega) (by omega) (by decide) (fun r59 => ?_)
          refine g_istore_4 X dX12_edition_60 rfl (lt_kN hNL rfl) rfl ?_
          have lp62 : ∀ (b : Int) (c : Int) (M2 : Mem) (d0 : (C.1 23 0 v (k - 10 * v)) ≤ c) (d1 : c ≤ (C.1 24 0 v (k - 10 * v)) + 1) (hb : b = sm (fun k => bI ((M2.1 68 0 0 k) = -1)) 0 (M2.1 40 39 0 0)) (hE2 : EdM C v (k - 10 * v) (c - (C.1 23 0 v (k - 10 * v))) (setI (setI (setI M 40 46 0 0 0) 40 39 0 0 0) 40 44 0 0 0) M2), G κ nm ad M2 62 [some (.ref (ad 40 0)), some (.int (iI v)), some (.int (iI b)), some (.int (iI k)), some (.int (iI c)), none] [] 0 0 := by
            refine ind3 (fun b c M2 => (1000 - c).toNat) ?_
            intro b c M2 ih62 d0 d1 hb hE2
            refine g_rm (fun hM62 => ?_)
            have hR2 : RelR C M2 := hRb.ag (Ag.rf C) (hE2.1.mono pR_kpE)
            have hV2 : RelV n C M2 := hVb.ag (Ag.rf C) (hE2.1.mono pV_kpE)
            have sh2 := hV2.sh v (k - 10 * v) v0 v1 (by omega) (by omega)
            rw [show 10 * v + (k - 10 * v) = k by omega] at sh2
            refine g_iload X dX12_edition_62 rfl rfl ?_
            refine g_aload_n X dX12_edition_64 rfl rfl ?_
            refine g_get X ci12 (n40 hN) (en40 _ _ _ _) (by decide) fl_X12_66 rfl dX12_edition_65 rfl ?_
            refine g_iload_n X dX12_edition_68 rfl rfl ?_
            refine g_iald X dX12_edition_69 rfl (n57 hN) (en57 _ _ _ _) (t0 := 0) rfl (by omega) (by omega) (by decide) (fun r69 => ?_)
            refine g_icmp_gt (tgt := 224) X dX12_edition_70 rfl rfl (by omega) (by omega) (fun h70 => ?_) (fun h70 => ?_)
            · skip
              refine g_iinc_3 X dX12_edition_224 rfl (lt_kN hNL rfl) rfl ?_
              refine g_goto (pc' := 39) X dX12_edition_227 rfl ?_
              refine g_drop_4 ?_
              exact ih39 _ (k + 1) _ (by omega) (by omega) (by omega) hb (by rw [show k + 1 - 10 * v = k - 10 * v + 1 by omega]; exact EdM.next (by rw [show lenV C v (k - 10 * v) = c - (C.1 23 0 v (k - 10 * v)) by omega]; exact hE2) (by omega))
            · skip
              have c0 : 0 ≤ c := by omega
              have c1 : c ≤ 999 := by omega
              have bb := best_b C c rc.1
              have hfr := hE2.2.1
              refine g_aload_n X dX12_edition_73 rfl rfl ?_
              refine g_iload X dX12_edition_74 rfl rfl ?_
              refine g_iV1_v X w_X12_reelFor ml_X12_234 dX12_edition_76 rfl (n40 hN) (en40 _ _ _ _) ⟨⟨Nat.le_of_ble_eq_true rfl, Nat.le_of_ble_eq_true rfl⟩, Nat.le_of_ble_eq_true rfl, Nat.le_of_ble_eq_true rfl⟩ (Nat.le_of_ble_eq_true rfl) (c_X12_reelFor hN hR2 c0 c1) ?_
              refine g_istore_5 X dX12_edition_79 rfl (lt_kN hNL rfl) rfl ?_
              refine g_aload_n X dX12_edition_81 rfl rfl ?_
              refine g_get X ci12 (n40 hN) (en40 _ _ _ _) (by decide) fl_X12_96 rfl dX12_edition_82 rfl ?_
              refine g_aload_n X dX12_edition_85 rfl rfl ?_
              refine g_getI X ci12 (n40 hN) (en40 _ _ _ _) (by decide) fl_X12_249 rfl dX12_edition_86 rfl (fun r86 => ?_)
              refine g_iload X dX12_edition_89 rfl rfl ?_
              refine g_iast X (n67 hN) (en67 _ _ _ _) (en67 _ _ _ _) (t0 := 0) rfl (by omega) (by omega) (by decide) (by omega) dX12_edition_91 rfl ?_
              refine g_aload_n X dX12_edition_92 rfl rfl ?_
              refine g_get X ci12 (n40 hN) (en40 _ _ _ _) (by decide) fl_X12_99 rfl dX12_edition_93 rfl ?_
              refine g_aload_n X dX12_edition_96 rfl rfl ?_
              refine g_getI X ci12 (n40 hN) (en40 _ _ _ _) (by decide) fl_X12_249 rfl dX12_edition_97 rfl (fun r97 => ?_)
              refine g_int (b := M2.1 40 39 0 0) rfl ?_
              have r97x := hM62 40 39 0 0
              refine g_iload X dX12_edition_100 rfl rfl ?_
              refine g_iast X (n68 hN) (en68 _ _ _ _) (en68 _ _ _ _) (t0 := 0) rfl (by first | omega | (simp only [setI_1, setL_1, setI_2, setL_2]; omega) | (simp only [setI_1, setL_1, setI_2, setL_2]; simp; omega)) (by first | omega | (simp only [setI_1, setL_1, setI_2, setL_2]; omega) | (simp only [setI_1, setL_1, setI_2, setL_2]; simp; omega)) (by decide) (by first | omega | (simp only [setI_1, setL_1, setI_2, setL_2]; omega) | (simp only [setI_1, setL_1, setI_2, setL_2]; simp; omega)) dX12_edition_102 rfl ?_
              refine g_aload_n X dX12_edition_103 rfl rfl ?_
              refine g_get X ci12 (n40 hN) (en40 _ _ _ _) (by decide) fl_X12_102 rfl dX12_edition_104 rfl ?_
              refine g_aload_n X dX12_edition_107 rfl rfl ?_
              refine g_getI X ci12 (n40 hN) (en40 _ _ _ _) (by decide) fl_X12_249 rfl dX12_edition_108 rfl (fun r108 => ?_)
              refine g_int (b := M2.1 40 39 0 0) rfl ?_
              have r108x := hM62 40 39 0 0
              refine g_cutI 128 (plC C c) (fun ci111 => ?_) ?_
              · skip
                refine g_iload X dX12_edition_111 rfl rfl ?_
                refine g_if_ge (tgt := 120) X dX12_edition_113 rfl rfl (by first | omega | (simp only [setI_1, setL_1, setI_2, setL_2]; omega) | (simp only [setI_1, setL_1, setI_2, setL_2]; simp; omega)) (fun h113 => ?_) (fun h113 => ?_)
                · skip
                  have hR3 : RelR C (setI (setI M2 67 0 0 (M2.1 40 39 0 0) c) 68 0 0 (M2.1 40 39 0 0) (best C c)) := hR2.ag (Ag.rf C) (((Ag.rf M2).setI rfl).setI rfl)
                  refine g_aload_n X dX12_edition_120 rfl rfl ?_
                  refine g_iload X dX12_edition_121 rfl rfl ?_
                  refine g_iload X dX12_edition_123 rfl rfl ?_
                  refine g_iV2_v X w_X12_firstOf ml_X12_231 dX12_edition_125 rfl (n40 hN) (en40 _ _ _ _) ⟨⟨Nat.le_of_ble_eq_true rfl, Nat.le_of_ble_eq_true rfl⟩, Nat.le_of_ble_eq_true rfl, Nat.le_of_ble_eq_true rfl⟩ (Nat.le_of_ble_eq_true rfl) (c_X12_firstOf_C (C := C) hN hR3 (by omega) (by omega) c0 c1) ?_
                  have rpl : -1 ≤ plC C c ∧ plC C c < 60 := by
                    unfold plC
                    split
                    · decide
                    · have hb := hR2.rd (best C c) (by omega) (by omega)
                      have f1 := hb.fc
                      rcases hb.ft c c0 c1 with y | y <;> omega
                  exact ci111 _ (by unfold plC; first | (rw [if_pos (by omega)]; done) | (rw [if_neg (by omega)]; done))
                · skip
                  refine g_iconst X dX12_edition_116 rfl ?_
                  refine g_goto (pc' := 128) X dX12_edition_117 rfl ?_
                  have rpl : -1 ≤ plC C c ∧ plC C c < 60 := by
                    unfold plC
                    split
                    · decide
                    · have hb := hR2.rd (best C c) (by omega) (by omega)
                      have f1 := hb.fc
                      rcases hb.ft c c0 c1 with y | y <;> omega
                  exact ci111 _ (by unfold plC; first | (rw [if_pos (by omega)]; done) | (rw [if_neg (by omega)]; done))
              · skip
                have rpl : -1 ≤ plC C c ∧ plC C c < 60 := by
                  unfold plC
                  split
                  · decide
                  · have hb := hR2.rd (best C c) (by omega) (by omega)
                    have f1 := hb.fc
                    rcases hb.ft c c0 c1 with y | y <;> omega
                refine g_iast X (n69 hN) (en69 _ _ _ _) (en69 _ _ _ _) (t0 := 0) rfl (by first | omega | (simp only [setI_1, setL_1, setI_2, setL_2]; omega) | (simp only [setI_1, setL_1, setI_2, setL_2]; simp; omega)) (by first | omega | (simp only [setI_1, setL_1, setI_2, setL_2]; omega) | (simp only [setI_1, setL_1, setI_2, setL_2]; simp; omega)) (by decide) (by first | omega | (simp only [setI_1, setL_1, setI_2, setL_2]; omega) | (simp only [setI_1, setL_1, setI_2, setL_2]; simp; omega)) dX12_edition_128 rfl ?_
                refine g_aload_n X dX12_edition_129 rfl rfl ?_
                refine g_get X ci12 (n40 hN) (en40 _ _ _ _) (by decide) fl_X12_105 rfl dX12_edition_130 rfl ?_
                refine g_aload_n X dX12_edition_133 rfl rfl ?_
                refine g_getI X ci12 (n40 hN) (en40 _ _ _ _) (by decide) fl_X12_249 rfl dX12_edition_134 rfl (fun r134 => ?_)
                refine g_int (b := M2.1 40 39 0 0) rfl ?_
                have r134x := hM62 40 39 0 0
                refine g_iload X dX12_edition_137 rfl rfl ?_
                refine g_if_ge (tgt := 146) X dX12_edition_139 rfl rfl (by first | omega | (simp only [setI_1, setL_1, setI_2, setL_2]; omega) | (simp only [setI_1, setL_1, setI_2, setL_2]; simp; omega)) (fun h139 => ?_) (fun h139 => ?_)
                · skip
                  refine g_aload_n X dX12_edition_146 rfl rfl ?_
                  refine g_get X ci12 (n40 hN) (en40 _ _ _ _) (by decide) fl_X12_34 rfl dX12_edition_147 rfl ?_
                  refine g_bipush X dX12_edition_150 rfl (by decide) ?_
                  refine g_iload X dX12_edition_152 rfl rfl ?_
                  refine g_imul X dX12_edition_154 rfl ?_
                  refine g_aload_n X dX12_edition_155 rfl rfl ?_
                  refine g_get X ci12 (n40 hN) (en40 _ _ _ _) (by decide) fl_X12_102 rfl dX12_edition_156 rfl ?_
                  refine g_aload_n X dX12_edition_159 rfl rfl ?_
                  refine g_getI X ci12 (n40 hN) (en40 _ _ _ _) (by decide) fl_X12_249 rfl dX12_edition_160 rfl (fun r160 => ?_)
                  refine g_int (b := M2.1 40 39 0 0) rfl ?_
                  have r160x := hM62 40 39 0 0
                  refine g_iald X dX12_edition_163 rfl (n69 hN) (en69 _ _ _ _) (t0 := 0) rfl (by first | omega | (simp only [setI_1, setL_1, setI_2, setL_2]; omega) | (simp only [setI_1, setL_1, setI_2, setL_2]; simp; omega)) (by first | omega | (simp only [setI_1, setL_1, setI_2, setL_2]; omega) | (simp only [setI_1, setL_1, setI_2, setL_2]; simp; omega)) (by decide) (fun r163 => ?_)
                  refine g_int (b := plC C c) (by simp [setI_1, setI_2, setL_1, setL_2]) ?_
                  refine g_iadd X dX12_edition_164 rfl ?_
                  refine g_lald X dX12_edition_165 rfl (n49 hN) (en49 _ _ _ _) (t0 := 1) rfl (by
  have hb := hR2.rd (best C c) (by omega) (by omega)
  have f1 := hb.fc
  have hne : best C c ≠ -1 := by omega
  have ep : plC C c = (C.1 20 0 (best C c) c) := by unfold plC; rw [if_neg hne]
  have hf := best_first (C := C) (c := c) rc.1 hne
  have hft := hb.ft c c0 c1
  rcases hft with y | y
  · exact absurd y.1 hf
  · (first | omega | (simp [setI_1, setI_2, setL_1]; omega))) (by
  have hb := hR2.rd (best C c) (by omega) (by omega)
  have f1 := hb.fc
  have hne : best C c ≠ -1 := by omega
  have ep : plC C c = (C.1 20 0 (best C c) c) := by unfold plC; rw [if_neg hne]
  have hf := best_first (C := C) (c := c) rc.1 hne
  have hft := hb.ft c c0 c1
  rcases hft with y | y
  · exact absurd y.1 hf
  · (first | omega | (simp [setI_1, setI_2, setL_1]; omega))) (by decide) ?_
                  refine g_lng (b := M2.2 49 0 0 ((60 * (best C c)) + (plC C c))) rfl ?_
                  refine g_lng (b := frC C c) (by
                    unfold frC
                    first
                      | (rw [if_pos (show best C c = -1 by omega)]; rfl)
                      | (have hb := hR2.rd (best C c) (by omega) (by omega)
                         have f1 := hb.fc
                         have hne : best C c ≠ -1 := by omega
                         have hp : 0 ≤ (C.1 20 0 (best C c) c) ∧ (C.1 20 0 (best C c) c) < (C.1 16 6 (best C c) 0) := by
                           have hf := best_first (C := C) (c := c) rc.1 hne
                           rcases hb.ft c c0 c1 with y | y
                           · exact absurd y.1 hf
                           · omega
                         rw [if_neg hne, ← (hR2.fr (best C c) _ (by omega) (by omega) hp.1 hp.2).2]
                         have ep : plC C c = (C.1 20 0 (best C c) c) := by unfold plC; rw [if_neg hne]
                         rw [← ep]
                         first | done | rfl)) ?_
                  refine g_last X (n70 hN) (en70 _ _ _ _) (en70 _ _ _ _) (t0 := 1) rfl (by first | omega | (simp only [setI_1, setL_1, setI_2, setL_2]; omega) | (simp only [setI_1, setL_1, setI_2, setL_2]; simp; omega)) (by first | omega | (simp only [setI_1, setL_1, setI_2, setL_2]; omega) | (simp only [setI_1, setL_1, setI_2, setL_2]; simp; omega)) (by decide) dX12_edition_166 rfl ?_
                  refine g_aload_n X dX12_edition_167 rfl rfl ?_
                  refine g_get X ci12 (n40 hN) (en40 _ _ _ _) (by decide) fl_X12_108 rfl dX12_edition_168 rfl ?_
                  refine g_aload_n X dX12_edition_171 rfl rfl ?_
                  refine g_getI X ci12 (n40 hN) (en40 _ _ _ _) (by decide) fl_X12_249 rfl dX12_edition_172 rfl (fun r172 => ?_)
                  refine g_int (b := M2.1 40 39 0 0) rfl ?_
                  have r172x := hM62 40 39 0 0
                  refine g_aload_n X dX12_edition_175 rfl rfl ?_
                  refine g_get X ci12 (n40 hN) (en40 _ _ _ _) (by decide) fl_X12_105 rfl dX12_edition_176 rfl ?_
                  refine g_aload_n X dX12_edition_179 rfl rfl ?_
                  refine g_getI X ci12 (n40 hN) (en40 _ _ _ _) (by decide) fl_X12_249 rfl dX12_edition_180 rfl (fun r180 => ?_)
                  refine g_int (b := M2.1 40 39 0 0) rfl ?_
                  have r180x := hM62 40 39 0 0
                  refine g_lald X dX12_edition_183 rfl (n70 hN) (en70 _ _ _ _) (t0 := 1) rfl (by first | omega | (simp only [setI_1, setL_1, setI_2, setL_2]; omega) | (simp only [setI_1, setL_1, setI_2, setL_2]; simp; omega)) (by first | omega | (simp only [setI_1, setL_1, setI_2, setL_2]; omega) | (simp only [setI_1, setL_1, setI_2, setL_2]; simp; omega)) (by decide) ?_
                  refine g_lng (b := frC C c) (by simp [setI_1, setI_2, setL_1, setL_2]) ?_
                  refine g_last X (n71 hN) (en71 _ _ _ _) (en71 _ _ _ _) (t0 := 1) rfl (by first | omega | (simp only [setI_1, setL_1, setI_2, setL_2]; omega) | (simp only [setI_1, setL_1, setI_2, setL_2]; simp; omega)) (by first | omega | (simp only [setI_1, setL_1, setI_2, setL_2]; omega) | (simp only [setI_1, setL_1, setI_2, setL_2]; simp; omega)) (by decide) dX12_edition_184 rfl ?_
                  refine g_aload_n X dX12_edition_185 rfl rfl ?_
                  refine g_get X ci12 (n40 hN) (en40 _ _ _ _) (by decide) fl_X12_111 rfl dX12_edition_186 rfl ?_
                  refine g_aload_n X dX12_edition_189 rfl rfl ?_
                  refine g_getI X ci12 (n40 hN) (en40 _ _ _ _) (by decide) fl_X12_249 rfl dX12_edition_190 rfl (fun r190 => ?_)
                  refine g_int (b := M2.1 40 39 0 0) rfl ?_
                  have r190x := hM62 40 39 0 0
                  refine g_iconst X dX12_edition_193 rfl ?_
                  refine g_iast X (n72 hN) (en72 _ _ _ _) (en72 _ _ _ _) (t0 := 0) rfl (by first | omega | (simp only [setI_1, setL_1, setI_2, setL_2]; omega) | (simp only [setI_1, setL_1, setI_2, setL_2]; simp; omega)) (by first | omega | (simp only [setI_1, setL_1, setI_2, setL_2]; omega) | (simp only [setI_1, setL_1, setI_2, setL_2]; simp; omega)) (by decide) (by first | omega | (simp only [setI_1, setL_1, setI_2, setL_2]; omega) | (simp only [setI_1, setL_1, setI_2, setL_2]; simp; omega)) dX12_edition_194 rfl ?_
                  refine g_iload_n X dX12_edition_195 rfl rfl ?_
                  refine g_cutB 206 (best C c = -1) (fun ct196 cf196 => ?_) ?_
                  · skip
                    refine g_iload X dX12_edition_196 rfl rfl ?_
                    refine g_if_ge (tgt := 205) X dX12_edition_198 rfl rfl (by first | omega | (simp only [setI_1, setL_1, setI_2, setL_2]; omega) | (simp only [setI_1, setL_1, setI_2, setL_2]; simp; omega)) (fun h198 => ?_) (fun h198 => ?_)
                    · skip
                      refine g_iconst X dX12_edition_205 rfl ?_
                      exact cf196 (by omega)
                    · skip
                      refine g_iconst X dX12_edition_201 rfl ?_
                      refine g_goto (pc' := 206) X dX12_edition_202 rfl ?_
                      exact ct196 (by omega)
                  · skip
                    refine g_iadd X dX12_edition_206 rfl ?_
                    refine g_istore_2 X dX12_edition_207 rfl (lt_kN hNL rfl) rfl ?_
                    refine g_aload_n X dX12_edition_208 rfl rfl ?_
                    refine g_dup X dX12_edition_209 rfl rfl ?_
                    refine g_getI X ci12 (n40 hN) (en40 _ _ _ _) (by decide) fl_X12_249 rfl dX12_edition_210 rfl (fun r210 => ?_)
                    refine g_int (b := M2.1 40 39 0 0) rfl ?_
                    have r210x := hM62 40 39 0 0
                    refine g_iconst X dX12_edition_213 rfl ?_
                    refine g_iadd X dX12_edition_214 rfl ?_
                    refine g_putI X ci12 (n40 hN) (en40 _ _ _ _) (ep40_39 _ _ _ _ _) (by first | omega | (simp only [setI_1, setL_1, setI_2, setL_2]; omega) | (simp only [setI_1, setL_1, setI_2, setL_2]; simp; omega)) (by decide) rfl rfl rfl (Nat.le_of_ble_eq_true rfl) fl_X12_249 dX12_edition_215 rfl ?_
                    refine g_iinc_4 X dX12_edition_218 rfl (lt_kN hNL rfl) rfl ?_
                    refine g_goto (pc' := 62) X dX12_edition_221 rfl ?_
                    refine g_drop_5 ?_
                    have hE3 := hE2.step (by omega) (by omega) (fun z z0 z1 => by have := hl z z0 (by omega); omega)
                    rw [show (C.1 23 0 v (k - 10 * v)) + (c - (C.1 23 0 v (k - 10 * v))) = c by omega, show c - (C.1 23 0 v (k - 10 * v)) + 1 = c + 1 - (C.1 23 0 v (k - 10 * v)) by omega] at hE3
                    have hb3 := EdM.gap (C := C) (c := c) (M := M2) (by omega) hb
                    exact ih62 _ (c + 1) _ (by omega) (by omega) (by omega) hb3 hE3
                · skip
                  refine g_lconst X dX12_edition_142 rfl rfl ?_
                  refine g_goto (pc' := 166) X dX12_edition_143 rfl ?_
                  refine g_lng (b := frC C c) (by
                    unfold frC
                    first
                      | (rw [if_pos (show best C c = -1 by omega)]; rfl)
                      | (have hb := hR2.rd (best C c) (by omega) (by omega)
                         have f1 := hb.fc
                         have hne : best C c ≠ -1 := by omega
                         have hp : 0 ≤ (C.1 20 0 (best C c) c) ∧ (C.1 20 0 (best C c) c) < (C.1 16 6 (best C c) 0) := by
                           have hf := best_first (C := C) (c := c) rc.1 hne
                           rcases hb.ft c c0 c1 with y | y
                           · exact absurd y.1 hf
                           · omega
                         rw [if_neg hne, ← (hR2.fr (best C c) _ (by omega) (by omega) hp.1 hp.2).2]
                         have ep : plC C c = (C.1 20 0 (best C c) c) := by unfold plC; rw [if_neg hne]
                         rw [← ep]
                         first | done | rfl)) ?_
                  refine g_last X (n70 hN) (en70 _ _ _ _) (en70 _ _ _ _) (t0 := 1) rfl (by first | omega | (simp only [setI_1, setL_1, setI_2, setL_2]; omega) | (simp only [setI_1, setL_1, setI_2, setL_2]; simp; omega)) (by first | omega | (simp only [setI_1, setL_1, setI_2, setL_2]; omega) | (simp only [setI_1, setL_1, setI_2, setL_2]; simp; omega)) (by decide) dX12_edition_166 rfl ?_
                  refine g_aload_n X dX12_edition_167 rfl rfl ?_
                  refine g_get X ci12 (n40 hN) (en40 _ _ _ _) (by decide) fl_X12_108 rfl dX12_edition_168 rfl ?_
                  refine g_aload_n X dX12_edition_171 rfl rfl ?_
                  refine g_getI X ci12 (n40 hN) (en40 _ _ _ _) (by decide) fl_X12_249 rfl dX12_edition_172 rfl (fun r172 => ?_)
                  refine g_int (b := M2.1 40 39 0 0) rfl ?_
                  have r172x := hM62 40 39 0 0
                  refine g_aload_n X dX12_edition_175 rfl rfl ?_
                  refine g_get X ci12 (n40 hN) (en40 _ _ _ _) (by decide) fl_X12_105 rfl dX12_edition_176 rfl ?_
                  refine g_aload_n X dX12_edition_179 rfl rfl ?_
                  refine g_getI X ci12 (n40 hN) (en40 _ _ _ _) (by decide) fl_X12_249 rfl dX12_edition_180 rfl (fun r180 => ?_)
                  refine g_int (b := M2.1 40 39 0 0) rfl ?_
                  have r180x := hM62 40 39 0 0
                  refine g_lald X dX12_edition_183 rfl (n70 hN) (en70 _ _ _ _) (t0 := 1) rfl (by first | omega | (simp only [setI_1, setL_1, setI_2, setL_2]; omega) | (simp only [setI_1, setL_1, setI_2, setL_2]; simp; omega)) (by first | omega | (simp only [setI_1, setL_1, setI_2, setL_2]; omega) | (simp only [setI_1, setL_1, setI_2, setL_2]; simp; omega)) (by decide) ?_
                  refine g_lng (b := frC C c) (by simp [setI_1, setI_2, setL_1, setL_2]) ?_
                  refine g_last X (n71 hN) (en71 _ _ _ _) (en71 _ _ _ _) (t0 := 1) rfl (by first | omega | (simp only [setI_1, setL_1, setI_2, setL_2]; omega) | (simp only [setI_1, setL_1, setI_2, setL_2]; simp; omega)) (by first | omega | (simp only [setI_1, setL_1, setI_2, setL_2]; omega) | (simp only [setI_1, setL_1, setI_2, setL_2]; simp; omega)) (by decide) dX12_edition_184 rfl ?_
                  refine g_aload_n X dX12_edition_185 rfl rfl ?_
                  refine g_get X ci12 (n40 hN) (en40 _ _ _ _) (by decide) fl_X12_111 rfl dX12_edition_186 rfl ?_
                  refine g_aload_n X dX12_edition_189 rfl rfl ?_
                  refine g_getI X ci12 (n40 hN) (en40 _ _ _ _) (by decide) fl_X12_249 rfl dX12_edition_190 rfl (fun r190 => ?_)
                  refine g_int (b := M2.1 40 39 0 0) rfl ?_
                  have r190x := hM62 40 39 0 0
                  refine g_iconst X dX12_edition_193 rfl ?_
                  refine g_iast X (n72 hN) (en72 _ _ _ _) (en72 _ _ _ _) (t0 := 0) rfl (by first | omega | (simp only [setI_1, setL_1, setI_2, setL_2]; omega) | (simp only [setI_1, setL_1, setI_2, setL_2]; simp; omega)) (by first | omega | (simp only [setI_1, setL_1, setI_2, setL_2]; omega) | (simp only [setI_1, setL_1, setI_2, setL_2]; simp; omega)) (by decide) (by first | omega | (simp only [setI_1, setL_1, setI_2, setL_2]; omega) | (simp only [setI_1, setL_1, setI_2, setL_2]; simp; omega)) dX12_edition_194 rfl ?_
                  refine g_iload_n X dX12_edition_195 rfl rfl ?_
                  refine g_cutB 206 (best C c = -1) (fun ct196 cf196 => ?_) ?_
                  · skip
                    refine g_iload X dX12_edition_196 rfl rfl ?_
                    refine g_if_ge (tgt := 205) X dX12_edition_198 rfl rfl (by first | omega | (simp only [setI_1, setL_1, setI_2, setL_2]; omega) | (simp only [setI_1, setL_1, setI_2, setL_2]; simp; omega)) (fun h198 => ?_) (fun h198 => ?_)
                    · skip
                      refine g_iconst X dX12_edition_205 rfl ?_
                      exact cf196 (by omega)
                    · skip
                      refine g_iconst X dX12_edition_201 rfl ?_
                      refine g_goto (pc' := 206) X dX12_edition_202 rfl ?_
                      exact ct196 (by omega)
                  · skip
                    refine g_iadd X dX12_edition_206 rfl ?_
                    refine g_istore_2 X dX12_edition_207 rfl (lt_kN hNL rfl) rfl ?_
                    refine g_aload_n X dX12_edition_208 rfl rfl ?_
                    refine g_dup X dX12_edition_209 rfl rfl ?_
                    refine g_getI X ci12 (n40 hN) (en40 _ _ _ _) (by decide) fl_X12_249 rfl dX12_edition_210 rfl (fun r210 => ?_)
                    refine g_int (b := M2.1 40 39 0 0) rfl ?_
                    have r210x := hM62 40 39 0 0
                    refine g_iconst X dX12_edition_213 rfl ?_
                    refine g_iadd X dX12_edition_214 rfl ?_
                    refine g_putI X ci12 (n40 hN) (en40 _ _ _ _) (ep40_39 _ _ _ _ _) (by first | omega | (simp only [setI_1, setL_1, setI_2, setL_2]; omega) | (simp only [setI_1, setL_1, setI_2, setL_2]; simp; omega)) (by decide) rfl rfl rfl (Nat.le_of_ble_eq_true rfl) fl_X12_249 dX12_edition_215 rfl ?_
                    refine g_iinc_4 X dX12_edition_218 rfl (lt_kN hNL rfl) rfl ?_
                    refine g_goto (pc' := 62) X dX12_edition_221 rfl ?_
                    refine g_drop_5 ?_
                    have hE3 := hE2.step (by omega) (by omega) (fun z z0 z1 => by have := hl z z0 (by omega); omega)
                    rw [show (C.1 23 0 v (k - 10 * v)) + (c - (C.1 23 0 v (k - 10 * v))) = c by omega, show c - (C.1 23 0 v (k - 10 * v)) + 1 = c + 1 - (C.1 23 0 v (k - 10 * v)) by omega] at hE3
                    have hb3 := EdM.gap (C := C) (c := c) (M := M2) (by omega) hb
                    exact ih62 _ (c + 1) _ (by omega) (by omega) (by omega) hb3 hE3
          exact lp62 a _ _ (by omega) (by omega) ha (by rw [sh.1, Int.sub_self]; exact hE1)
      exact lp39 0 (10 * v) _ (by omega) (by omega) (by rw [sm_0]; simp [setI_1]) ⟨Ag.rf _, by rw [show 10 * v - 10 * v = 0 by omega, sm_0 _ (Int.le_refl _)]; simp [setI_1], fun z d z0 d0 d1 hz => by
        rcases hz with y | y
        · omega
        · rw [y.1] at d0; omega⟩
    · skip
      refine g_iconst X dX12_edition_20 rfl ?_
      exact g_ret Y dX12_edition_21 ⟨_, rfl⟩ ⟨rfl, Or.inl ⟨by assumption, rfl, rfl⟩⟩
