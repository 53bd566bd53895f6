theorem AdG.rf (ad : Ad) : AdG ad ad := fun _ _ _ _ _ => rfl
theorem AdG.tr {a b d : Ad} (h : AdG a b) (h2 : AdG b d) : AdG a d := fun k i x y z => (h2 k i x y z).trans (h k i x y z)
def exE (k : Nat) : Bool := k == 12 || k == 13 || k == 14 || k == 15 || k == 31
/-- the frame is changed: the change says something else, and the limit lets it -/
def chgP (M : Mem) (p : Int) (x : Int64) : Prop := x ≠ (M.2 31 4 p 0) ∧ unl x (M.2 31 3 p 0) ≤ (M.1 10 1 0 0)
def ChR (M : Mem) (p : Int) (x : Int64) (M' : Mem) : Prop := Ex exE M M' ∧ (∀ (f : Nat) (i : Int), f = 0 ∨ f = 1 ∨ f = 2 ∨ f = 5 → M'.1 31 f i 0 = M.1 31 f i 0) ∧ (∀ i, (M'.2 31 3 i 0) = (M.2 31 3 i 0)) ∧ (M'.2 31 4 p 0) = x ∧ (M'.1 31 6 p 0) = (M.1 31 6 p 0) + 1 ∧ (M'.1 31 7 p 0) = (M.1 12 0 0 0) ∧ (∀ i, i ≠ p → (M'.2 31 4 i 0) = (M.2 31 4 i 0) ∧ (M'.1 31 6 i 0) = (M.1 31 6 i 0) ∧ (M'.1 31 7 i 0) = (M.1 31 7 i 0)) ∧
  (M'.1 12 0 0 0) = (M.1 12 0 0 0) + 1 ∧ (M'.1 13 0 0 ((M.1 12 0 0 0))) = p ∧ (M'.2 14 0 0 ((M.1 12 0 0 0))) = (M.2 31 4 p 0) ∧ (M'.1 15 0 0 ((M.1 12 0 0 0))) = (M.1 31 7 p 0) ∧ (∀ j, 0 ≤ j → j < (M.1 12 0 0 0) → (M'.1 13 0 0 j) = (M.1 13 0 0 j) ∧ (M'.2 14 0 0 j) = (M.2 14 0 0 j) ∧ (M'.1 15 0 0 j) = (M.1 15 0 0 j)) ∧ CapOk M' ∧ ((M.1 12 0 0 0) < (M.1 13 1 0 0) → (M'.1 13 1 0 0) = (M.1 13 1 0 0)) ∧ ((M.1 13 1 0 0) ≤ (M.1 12 0 0 0) → (M'.1 13 1 0 0) = 2 * (M.1 13 1 0 0))
theorem chR_of {M M1 : Mem} {p : Int} {x : Int64} (h : AddR M p (M.2 31 4 p 0) (M.1 31 7 p 0) M1) : ChR M p x (setL (setI (setI M1 31 7 p 0 (M.1 12 0 0 0)) 31 6 p 0 ((M1.1 31 6 p 0) + 1)) 31 4 p 0 x) := by
  obtain ⟨h1, h2, h3, h4, h5, h6, h7, h8, h9⟩ := h
  have e31 : ∀ (f : Nat) (i j : Int), M1.1 31 f i j = M.1 31 f i j ∧ M1.2 31 f i j = M.2 31 f i j := fun f i j => h1 31 f i j rfl
  have ek : ∀ (k f : Nat) (i j : Int), k ≠ 31 → (setL (setI (setI M1 31 7 p 0 (M.1 12 0 0 0)) 31 6 p 0 ((M1.1 31 6 p 0) + 1)) 31 4 p 0 x).1 k f i j = M1.1 k f i j ∧ (setL (setI (setI M1 31 7 p 0 (M.1 12 0 0 0)) 31 6 p 0 ((M1.1 31 6 p 0) + 1)) 31 4 p 0 x).2 k f i j = M1.2 k f i j := fun k f i j hk => by simp [setI_1, setI_2, setL_1, setL_2, hk]
  refine ⟨(((h1.mono (fun k h => ?_)).setI rfl).setI rfl).setL rfl, fun f i hf => ?_, fun i => ?_, ?_, ?_, ?_, fun i hi => ⟨?_, ?_, ?_⟩, ?_, ?_, ?_, ?_, fun j j0 j1 => ?_, ?_, ?_, ?_⟩
  · unfold exE at h
    unfold exC
    simp at h ⊢
    exact h.1
  · rw [← (e31 f i 0).1]
    rcases hf with q | q | q | q <;> subst q <;> simp [setI_1, setL_1]
  · rw [← (e31 3 i 0).2]
    simp [setI_2, setL_2]
  · simp [setL_2]
  · rw [← (e31 6 p 0).1]
    simp [setI_1, setL_1]
  · simp [setI_1, setL_1]
  · rw [← (e31 4 i 0).2]
    simp [setI_2, setL_2, hi]
  · rw [← (e31 6 i 0).1]
    simp [setI_1, setL_1, hi]
  · rw [← (e31 7 i 0).1]
    simp [setI_1, setL_1, hi]
  · rw [(ek 12 0 0 0 (by decide)).1]; exact h2
  · rw [(ek 13 0 0 _ (by decide)).1]; exact h3
  · rw [(ek 14 0 0 _ (by decide)).2]; exact h4
  · rw [(ek 15 0 0 _ (by decide)).1]; exact h5
  · rw [(ek 13 0 0 _ (by decide)).1, (ek 14 0 0 _ (by decide)).2, (ek 15 0 0 _ (by decide)).1]; exact h6 j j0 j1
  · unfold CapOk at h7 ⊢
    rw [(ek 12 0 0 0 (by decide)).1, (ek 13 1 0 0 (by decide)).1, (ek 14 1 0 0 (by decide)).1, (ek 15 1 0 0 (by decide)).1]
    exact h7
  · rw [(ek 13 1 0 0 (by decide)).1]; exact h8
  · rw [(ek 13 1 0 0 (by decide)).1]; exact h9
set_option maxRecDepth 100000 in
set_option maxHeartbeats 4000000 in
theorem c_X2_change {δ : Dx} {nm : List (Nat × Int)} {ad : Ad} {M : Mem} {p : Int} {x : Int64} {mc ms : Nat} (hN : NmOk nm) (p0 : 0 ≤ p) (p1 : p < 120) (hc : CapOk M) (cm : (M.1 12 0 0 0) < 61440) (nb : 0 ≤ (M.1 31 6 p 0) ∧ (M.1 31 6 p 0) ≤ 100000) (hroom : chgP M p x → (M.1 13 1 0 0) ≤ (M.1 12 0 0 0) → 3 ≤ mc ∧ 6 * (M.1 13 1 0 0) ≤ ms) : Ct δ md_X2_change mc ms nm ad M [.ref (ad 10 0), .int (iI p), .long x] (fun v ad' M' => v = some (.int (iI (bI (chgP M p x)))) ∧ AdG ad ad' ∧ (chgP M p x → ChR M p x M') ∧ (¬ chgP M p x → M' = M)) := by
  refine Ct_of (ins := .ireturn) (ok := okZ) [some (.ref (ad 10 0)), some (.int (iI p)), some (.long x), none, none] (by decide +kernel) rfl (Nat.le_of_ble_eq_true rfl) (fun κ s hs X hr hQ hδ => endZ rfl hs X hr hQ hδ) (fun κ X hNL hδ Y => ?_)
  refine g_rm (fun hM => ?_)
  have ub : 0 ≤ unl x (M.2 31 3 p 0) ∧ unl x (M.2 31 3 p 0) ≤ 8 - 0 := sm_b1 (by decide) (fun k _ _ => bI_b _)
  refine g_aload_n X dX2_change_0 rfl rfl ?_
  refine g_get X ci2 (n10 hN) (en10 _ _ _ _) (by decide) fl_X2_17 rfl dX2_change_1 rfl ?_
  refine g_iload_n X dX2_change_4 rfl rfl ?_
  refine g_rald X (n11 hN) (en11 _ _ _ _) (t0 := 6) rfl (by omega) (by omega) (by decide) dX2_change_5 rfl ?_
  refine g_astore_4 X dX2_change_6 rfl (lt_kN hNL rfl) rfl ?_
  refine g_lload_n X dX2_change_8 rfl rfl ?_
  refine g_aload X dX2_change_9 rfl rfl ?_
  refine g_get X ci3 (n31 hN (by omega) (by omega)) (en31 _ _ _ _) (by decide) fl_X2_41 rfl dX2_change_11 rfl ?_
  refine g_lcmp X dX2_change_14 rfl ?_
  refine g_ifL_eq (tgt := 44) X dX2_change_15 rfl rfl (fun h15 => ?_) (fun h15 => ?_)
  · skip
    have hnc : ¬ chgP M p x := fun q => q.1 (by assumption)
    refine g_iconst X dX2_change_44 rfl ?_
    refine g_widen (cl' := mc) (sl' := ms) (Nat.zero_le _) (Nat.zero_le _) ?_
    exact g_ret Y dX2_change_45 okZ0 ⟨by rw [bI_f hnc], AdG.rf ad, fun h => absurd h hnc, fun _ => rfl⟩
  · skip
    refine g_lload_n X dX2_change_18 rfl rfl ?_
    refine g_aload X dX2_change_19 rfl rfl ?_
    refine g_get X ci3 (n31 hN (by omega) (by omega)) (en31 _ _ _ _) (by decide) fl_X2_78 rfl dX2_change_21 rfl ?_
    refine g_iS2_v X w_X7_unlike ml_X2_81 dX2_change_24 rfl ⟨⟨Nat.le_of_ble_eq_true rfl, Nat.le_of_ble_eq_true rfl⟩, Nat.zero_le _, Nat.zero_le _⟩ (Nat.le_of_ble_eq_true rfl) (c_X7_unlike hN) ?_
    refine g_aload_n X dX2_change_27 rfl rfl ?_
    refine g_getI X ci2 (n10 hN) (en10 _ _ _ _) (by decide) fl_X2_9 rfl dX2_change_28 rfl (fun r28 => ?_)
    refine g_icmp_gt (tgt := 44) X dX2_change_31 rfl rfl (by omega) (by omega) (fun h31 => ?_) (fun h31 => ?_)
    · skip
      have hnc : ¬ chgP M p x := fun q => by have := q.2; omega
      refine g_iconst X dX2_change_44 rfl ?_
      refine g_widen (cl' := mc) (sl' := ms) (Nat.zero_le _) (Nat.zero_le _) ?_
      exact g_ret Y dX2_change_45 okZ0 ⟨by rw [bI_f hnc], AdG.rf ad, fun h => absurd h hnc, fun _ => rfl⟩
    · skip
      refine g_aload_n X dX2_change_34 rfl rfl ?_
      refine g_get X ci2 (n10 hN) (en10 _ _ _ _) (by decide) fl_X2_24 rfl dX2_change_35 rfl ?_
      refine g_iV0_v X w_X0_isFull ml_X2_85 dX2_change_38 rfl (n12 hN) (en12 _ _ _ _) ⟨⟨Nat.le_of_ble_eq_true rfl, Nat.le_of_ble_eq_true rfl⟩, Nat.zero_le _, Nat.zero_le _⟩ (Nat.le_of_ble_eq_true rfl) (c_X0_isFull hN) ?_
      refine g_ifB_eq (tgt := 46) X dX2_change_41 rfl rfl (fun h41 => ?_) (fun h41 => ?_)
      · skip
        have hch : chgP M p x := ⟨by assumption, by omega⟩
        refine g_aload X dX2_change_46 rfl rfl ?_
        refine g_aload_n X dX2_change_48 rfl rfl ?_
        refine g_get X ci2 (n10 hN) (en10 _ _ _ _) (by decide) fl_X2_24 rfl dX2_change_49 rfl ?_
        refine g_iload_n X dX2_change_52 rfl rfl ?_
        refine g_aload X dX2_change_53 rfl rfl ?_
        refine g_get X ci3 (n31 hN (by omega) (by omega)) (en31 _ _ _ _) (by decide) fl_X2_41 rfl dX2_change_55 rfl ?_
        refine g_aload X dX2_change_58 rfl rfl ?_
        refine g_getI X ci3 (n31 hN (by omega) (by omega)) (en31 _ _ _ _) (by decide) fl_X2_88 rfl dX2_change_60 rfl (fun r60 => ?_)
        refine g_iV3 (mc := mc) (ms := ms) X w_X0_add ml_X2_91 dX2_change_63 rfl (n12 hN) (en12 _ _ _ _) ⟨⟨Nat.le_of_ble_eq_true rfl, Nat.le_of_ble_eq_true rfl⟩, by show 0 + mc ≤ mc; omega, by show 0 + ms ≤ ms; omega⟩ (Nat.le_of_ble_eq_true rfl) (c_X0_add hN ⟨by omega, by omega⟩ (hM 31 7 p 0) hc cm (fun q => hroom hch q)) (fun v63 ad63 Mc63 hc63 => ?_)
        obtain ⟨hv63, hA63, hR63⟩ := hc63
        subst hv63
        refine g_rm (fun hMc63 => ?_)
        rw [← hA63 31 p (by decide) (by decide) (by decide)]
        have en63 : (Mc63.1 31 6 p 0) = (M.1 31 6 p 0) := hR63.1.i 31 6 p 0 rfl
        have ec63 : -2147483648 ≤ (M.1 12 0 0 0) ∧ (M.1 12 0 0 0) ≤ 2147483647 := hM 12 0 0 0
        refine g_putI X ci3 (n31 hN (by omega) (by omega)) (en31 _ _ _ _) (ep31_7 _ _ _ _ _) ec63 (by decide) rfl rfl rfl (Nat.le_of_ble_eq_true rfl) fl_X2_88 dX2_change_66 rfl ?_
        refine g_aload X dX2_change_69 rfl rfl ?_
        refine g_dup X dX2_change_71 rfl rfl ?_
        refine g_getI X ci3 (n31 hN (by omega) (by omega)) (en31 _ _ _ _) (by decide) fl_X2_95 rfl dX2_change_72 rfl (fun r72 => ?_)
        refine g_int (b := Mc63.1 31 6 p 0) rfl ?_
        have r72x := hMc63 31 6 p 0
        refine g_iconst X dX2_change_75 rfl ?_
        refine g_iadd X dX2_change_76 rfl ?_
        refine g_putI X ci3 (n31 hN (by omega) (by omega)) (en31 _ _ _ _) (ep31_6 _ _ _ _ _) (by first | omega | (simp only [setI_1, setL_1, setI_2, setL_2]; omega) | (simp only [setI_1, setL_1, setI_2, setL_2]; simp; omega)) (by decide) rfl rfl rfl (Nat.le_of_ble_eq_true rfl) fl_X2_95 dX2_change_77 rfl ?_
        refine g_aload X dX2_change_80 rfl rfl ?_
        refine g_lload_n X dX2_change_82 rfl rfl ?_
        refine g_putL X ci3 (n31 hN (by omega) (by omega)) (en31 _ _ _ _) (ep31_4 _ _ _ _ _) (by decide) rfl rfl rfl (Nat.le_of_ble_eq_true rfl) fl_X2_41 dX2_change_83 rfl ?_
        refine g_iconst X dX2_change_86 rfl ?_
        refine g_widen (cl' := mc) (sl' := ms) (Nat.le_of_eq (Nat.zero_add _)) (Nat.le_of_eq (Nat.zero_add _)) ?_
        exact g_ret Y dX2_change_87 okZ1 ⟨by rw [bI_t hch], hA63, fun _ => chR_of hR63, fun h => absurd hch h⟩
      · skip
        exfalso; omega
