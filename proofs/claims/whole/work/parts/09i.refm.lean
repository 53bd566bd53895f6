def kpM (k f : Nat) : Bool := !(k == 71 || k == 74 || k == 75 || k == 76 || (k == 40 && f == 44))
def DD (lo hi : Int) (dec : Int → Prop) (i : Int) : Prop := lo ≤ i ∧ i < hi ∧ dec i
/-- the frames before n that D names are changed, one after another, in the reference -/
def MdM (D : Int → Prop) (mv : Int → Int64) (n : Int) (C M0 M : Mem) : Prop := Ag kpM M0 M ∧ (M.1 40 44 0 0) = (C.1 12 0 0 0) + sm (dI D) 0 n ∧ (∀ i, 0 ≤ i → i < (C.1 10 0 0 0) → (M.2 71 0 0 i) = cif (i < n ∧ D i) (mv i) (C.2 31 4 i 0)) ∧
  (∀ j, 0 ≤ j → j < (C.1 12 0 0 0) → (M.1 74 0 0 j) = (M0.1 74 0 0 j) ∧ (M.2 75 0 0 j) = (M0.2 75 0 0 j) ∧ (M.1 76 0 0 j) = (M0.1 76 0 0 j)) ∧
  (∀ i, 0 ≤ i → i < n → D i → (M.1 74 0 0 ((C.1 12 0 0 0) + sm (dI D) 0 i)) = i ∧ (M.2 75 0 0 ((C.1 12 0 0 0) + sm (dI D) 0 i)) = (C.2 31 4 i 0) ∧ (M.1 76 0 0 ((C.1 12 0 0 0) + sm (dI D) 0 i)) = 0)
def MdP (D : Int → Prop) (mv : Int → Int64) (n : Int) (C M M' : Mem) : Prop := ∃ Mk, Ag (fun k _ => !(k == 73)) (setI M 40 46 0 0 0) Mk ∧ MdM D mv n C Mk M'
theorem dI_nn (D : Int → Prop) : ∀ k, 0 ≤ dI D k := fun k => (bI_b _).1
theorem smD0 (D : Int → Prop) {n : Int} (h : 0 ≤ n) : 0 ≤ sm (dI D) 0 n ∧ sm (dI D) 0 n ≤ n := by
  have := sm_b1 (f := dI D) (lo := 0) (hi := n) h (fun _ _ _ => bI_b _)
  omega
theorem smDD {dec : Int → Prop} {lo hi n : Int} (h0 : 0 ≤ lo) (h1 : hi ≤ n) (h2 : lo ≤ n) (h3 : 0 ≤ hi) : sm (dI (DD lo hi dec)) 0 n = sm (dI dec) lo hi := by
  rw [sm_part (f := dI (DD lo hi dec)) (a := lo) (b := hi) h0 h1 h3 h2 (fun k k0 k1 hk => bI_f (fun q => hk ⟨q.1, q.2.1⟩))]
  exact sm_c (fun k k0 k1 => bI_c ⟨fun q => q.2.2, fun q => ⟨k0, k1, q⟩⟩)
theorem MdM.z {D : Int → Prop} {mv : Int → Int64} {n k : Int} {C M0 : Mem} (hE : RelE C M0) (hK : RelK k C M0) (hD : ∀ i, 0 ≤ i → i < n → ¬ D i) : MdM D mv n C M0 M0 := by
  refine ⟨Ag.rf M0, ?_, fun i i0 i1 => ?_, fun j _ _ => ⟨rfl, rfl, rfl⟩, fun i i0 i1 hd => absurd hd (hD i i0 i1)⟩
  · rw [sm_z0 (f := dI D) (fun i i0 i1 => bI_f (hD i i0 i1)), hK.e]; omega
  · rw [cif_f (fun q => hD i i0 q.1 q.2)]
    exact (hE.me i i0 i1).2.2.2.2.1
theorem MdM.no {D : Int → Prop} {mv : Int → Int64} {n : Int} {C M0 M : Mem} (h : MdM D mv n C M0 M) (n0 : 0 ≤ n) (hn : ¬ D n) : MdM D mv (n + 1) C M0 M := by
  obtain ⟨h1, h2, h3, h4, h5⟩ := h
  have es : sm (dI D) 0 (n + 1) = sm (dI D) 0 n := by
    rw [sm_s _ n0]
    have : dI D n = 0 := bI_f hn
    omega
  refine ⟨h1, by rw [es]; exact h2, fun i i0 i1 => ?_, h4, fun i i0 i1 hd => h5 i i0 ?_ hd⟩
  · rw [h3 i i0 i1]
    by_cases q : i < n ∧ D i
    · rw [cif_t q, cif_t ⟨by omega, q.2⟩]
    · rw [cif_f q, cif_f]
      intro y
      by_cases e : i = n
      · rw [e] at y; exact hn y.2
      · exact q ⟨by omega, y.2⟩
  · have : i ≠ n := fun e => hn (by rw [← e]; exact hd)
    omega
theorem chM_at (M : Mem) (k : Int) (x : Int64) : (∀ j, (chM M k x).1 74 0 0 j = if j = (M.1 40 44 0 0) then k else (M.1 74 0 0 j)) ∧ (∀ j, (chM M k x).2 75 0 0 j = if j = (M.1 40 44 0 0) then (M.2 71 0 0 k) else (M.2 75 0 0 j)) ∧ (∀ j, (chM M k x).1 76 0 0 j = if j = (M.1 40 44 0 0) then 0 else (M.1 76 0 0 j)) ∧ (∀ j, (chM M k x).2 71 0 0 j = if j = k then x else (M.2 71 0 0 j)) ∧ (chM M k x).1 40 44 0 0 = (M.1 40 44 0 0) + 1 := by
  unfold chM
  refine ⟨fun j => ?_, fun j => ?_, fun j => ?_, fun j => ?_, ?_⟩ <;> simp [setI_1, setI_2, setL_1, setL_2]
theorem MdM.yes {D : Int → Prop} {mv : Int → Int64} {n : Int} {C M0 M : Mem} (h : MdM D mv n C M0 M) (n0 : 0 ≤ n) (n1 : n < (C.1 10 0 0 0)) (hn : D n) : MdM D mv (n + 1) C M0 (chM M n (mv n)) := by
  obtain ⟨h1, h2, h3, h4, h5⟩ := h
  obtain ⟨a1, a2, a3, a4, a5⟩ := chM_at M n (mv n)
  have ed : dI D n = 1 := bI_t hn
  have es : sm (dI D) 0 (n + 1) = sm (dI D) 0 n + 1 := by rw [sm_s _ n0, ed]
  have sb := smD0 D n0
  refine ⟨?_, ?_, fun i i0 i1 => ?_, fun j j0 j1 => ?_, fun i i0 i1 hd => ?_⟩
  · unfold chM
    exact ((((h1.setI rfl).setL rfl).setI rfl).setI rfl).setL rfl
  · rw [a5, es, h2]; omega
  · rw [a4]
    by_cases e : i = n
    · rw [if_pos e, cif_t ⟨by omega, by rw [e]; exact hn⟩, e]
    · rw [if_neg e, h3 i i0 i1]
      by_cases q : i < n ∧ D i
      · rw [cif_t q, cif_t ⟨by omega, q.2⟩]
      · rw [cif_f q, cif_f (fun y => q ⟨by omega, y.2⟩)]
  · rw [a1, a2, a3, if_neg (by omega), if_neg (by omega), if_neg (by omega)]
    exact h4 j j0 j1
  · have si := smD0 D i0
    rw [a1, a2, a3]
    by_cases e : i = n
    · rw [e, if_pos h2.symm, if_pos h2.symm, if_pos h2.symm]
      refine ⟨rfl, ?_, rfl⟩
      rw [h3 n n0 n1, cif_f (fun q => by omega)]
    · have m := sm_mono (dI_nn D) (lo := 0) (a := i + 1) (b := n) (by omega) (by omega)
      have m2 := sm_s (dI D) (lo := 0) (hi := i) i0
      have m3 : dI D i = 1 := bI_t hd
      rw [if_neg (by omega), if_neg (by omega), if_neg (by omega)]
      exact h5 i i0 (by omega) hd
theorem MdM.up {D : Int → Prop} {mv : Int → Int64} {n m : Int} {C M0 M : Mem} (h : MdM D mv n C M0 M) (hn : ∀ i, ¬ D i) (n0 : 0 ≤ n) (hm : n ≤ m) : MdM D mv m C M0 M := by
  obtain ⟨d, rfl⟩ : ∃ d : Nat, m = n + d := ⟨(m - n).toNat, by omega⟩
  clear hm
  induction d with
  | zero => rw [show n + ((0 : Nat) : Int) = n by omega]; exact h
  | succ d ih =>
    rw [show n + ((d + 1 : Nat) : Int) = n + d + 1 by omega]
    exact ih.no (by omega) (hn _)
theorem Ag.fre {C M0 M : Mem} (hE : RelE C M0) (h : Ag kpM M0 M) (k : Int) : freM M k ↔ (0 ≤ k ∧ k < (C.1 10 0 0 0)) ∧ mayB C k := by
  have ee := hE.e
  have e39 := h.i 40 39 0 0 rfl
  have e68 := h.i 68 0 0 k rfl
  have e72 := h.i 72 0 0 k rfl
  unfold freM mayB
  constructor
  · rintro ⟨a, b, d⟩
    have me := hE.me k a.1 (by omega)
    have pr := hE.pr k a.1 (by omega)
    omega
  · rintro ⟨a, b, d⟩
    have me := hE.me k a.1 (by omega)
    have pr := hE.pr k a.1 (by omega)
    omega
theorem MdM.chg {D : Int → Prop} {mv : Int → Int64} {n : Int} {C M0 M : Mem} {x : Int64} (hE : RelE C M0) (h : MdM D mv n C M0 M) (n0 : 0 ≤ n) (n1 : n < (C.1 10 0 0 0)) : chgM M n x ↔ chgP C n x := by
  have ee := hE.e
  have e40 := h.1.i 40 40 0 0 rfl
  have e70 := h.1.l 70 0 0 n rfl
  have me := hE.me n n0 n1
  unfold chgM chgP
  rw [h.2.2.1 n n0 n1, cif_f (fun q => by omega), e40, ee.2, e70, me.2.2.2.1]
theorem pE_73 (k f : Nat) (h : pE k f = true) : (k == 73) = false := by
  unfold pE at h
  cases e : (k == 73)
  · rfl
  · simp only [beq_iff_eq] at e
    simp only [Bool.or_eq_true, Bool.and_eq_true, beq_iff_eq] at h
    omega
theorem pK_73 (k f : Nat) (h : pK k f = true) : (k == 73) = false := by
  unfold pK at h
  cases e : (k == 73)
  · rfl
  · simp only [beq_iff_eq] at e
    simp only [Bool.or_eq_true, Bool.and_eq_true, beq_iff_eq] at h
    omega
theorem RelE.kp {C M M' : Mem} (h : RelE C M) (hE : Ex (fun k => k == 73) M M') : RelE C M' := h.ag (Ag.rf C) (Ag.ex hE pE_73)
theorem RelK.kp {C M M' : Mem} {n : Int} (h : RelK n C M) (hE : Ex (fun k => k == 73) M M') : RelK n C M' := h.ag (Ag.rf C) (Ag.ex hE pK_73)
set_option maxRecDepth 100000 in
set_option maxHeartbeats 4000000 in
theorem c_X12_dirt {δ : Dx} {nm : List (Nat × Int)} {ad : Ad} {M : Mem} {C : Mem} {n : Int} {t : Int} (hN : NmOk nm) (hE : RelE C M) (hK : RelK n C M) (n0 : 0 ≤ n ∧ n ≤ 511) (rt : rng t) : Ct δ md_X12_dirt 0 0 nm ad M [.ref (ad 40 0), .int (iI t)] (pRf (if 0 ≤ t ∧ t ≤ 255 then 0 else 1) (.int (iI (-1))) (.int (iI (sm (dI (decN C (fun a h b => mdD t a h b 8))) 1 (hiN C)))) ad M (MdP (DD 1 (hiN C) (decN C (fun a h b => mdD t a h b 8))) (mvN C (fun a h b => mdD t a h b 8)) (C.1 10 0 0 0) C M)) := by
  refine Ct_of (ins := .ireturn) (ok := okI) [some (.ref (ad 40 0)), some (.int (iI t)), none, none] (by decide +kernel) rfl (Nat.le_of_ble_eq_true rfl) (fun κ s hs X hr hQ hδ => endI rfl hs X hr hQ hδ) (fun κ X hNL hδ Y => ?_)
  refine g_rm (fun hM => ?_)
  have ec := hE.ec
  have ee := hE.e
  have li := hE.li
  have kc := hK.cc
  have ke := hK.e
  refine g_aload_n X dX12_dirt_0 rfl rfl ?_
  refine g_cutI 18 (if 0 ≤ t ∧ t ≤ 255 then 0 else 1) (fun ci1 => ?_) ?_
  · skip
    refine g_aload_n X dX12_dirt_1 rfl rfl ?_
    refine g_iload_n X dX12_dirt_2 rfl rfl ?_
    refine g_iconst X dX12_dirt_3 rfl ?_
    refine g_sipush X dX12_dirt_4 rfl (by decide) ?_
    refine g_iV3_v X w_X12_in ml_X12_146 dX12_dirt_7 rfl (n40 hN) (en40 _ _ _ _) ⟨⟨Nat.le_of_ble_eq_true rfl, Nat.le_of_ble_eq_true rfl⟩, Nat.le_of_ble_eq_true rfl, Nat.le_of_ble_eq_true rfl⟩ (Nat.le_of_ble_eq_true rfl) (c_X12_in hN (by omega) (by omega) (by omega)) ?_
    refine g_ifB_eq (tgt := 17) X dX12_dirt_10 rfl rfl (fun h10 => ?_) (fun h10 => ?_)
    · skip
      refine g_iconst X dX12_dirt_17 rfl ?_
      exact ci1 _ (by omega)
    · skip
      refine g_iconst X dX12_dirt_13 rfl ?_
      refine g_goto (pc' := 18) X dX12_dirt_14 rfl ?_
      exact ci1 _ (by omega)
  · skip
    refine g_iV1_v X w_X12_holds ml_X12_158 dX12_dirt_18 rfl (n40 hN) (en40 _ _ _ _) ⟨⟨Nat.le_of_ble_eq_true rfl, Nat.le_of_ble_eq_true rfl⟩, Nat.le_of_ble_eq_true rfl, Nat.le_of_ble_eq_true rfl⟩ (Nat.le_of_ble_eq_true rfl) (c_X12_holds hN (by omega)) ?_
    refine g_ifB_eq (tgt := 26) X dX12_dirt_21 rfl rfl (fun h21 => ?_) (fun h21 => ?_)
    · skip
      have w0 : (if 0 ≤ t ∧ t ≤ 255 then 0 else 1 : Int) = 0 := by omega
      rw [w0]
      refine g_aload_n X dX12_dirt_26 rfl rfl ?_
      refine g_iV0_gn X w_X12_keep ml_X12_275 dX12_dirt_27 rfl (n40 hN) (en40 _ _ _ _) ⟨⟨Nat.le_of_ble_eq_true rfl, Nat.le_of_ble_eq_true rfl⟩, Nat.le_of_ble_eq_true rfl, Nat.le_of_ble_eq_true rfl⟩ (Nat.le_of_ble_eq_true rfl) (c_X12_keep hN (by show 0 ≤ (M.1 40 39 0 0) ∧ (M.1 40 39 0 0) ≤ 120; omega)) (fun Mc27 hc27 => ?_)
      refine g_rm (fun hMc27 => ?_)
      obtain ⟨hEk, heb⟩ := hc27
      have hE2 := (hE.th (z := 0)).kp hEk
      have hK2 := (hK.th (z := 0)).kp hEk
      have hAk : Ag (fun k _ => !(k == 73)) (setI M 40 46 0 0 0) Mc27 := fun k f i j q => hEk k f i j (by simpa using q)
      refine g_iconst X dX12_dirt_30 rfl ?_
      refine g_istore_2 X dX12_dirt_31 rfl (lt_kN hNL rfl) rfl ?_
      refine g_iconst X dX12_dirt_32 rfl ?_
      refine g_istore_3 X dX12_dirt_33 rfl (lt_kN hNL rfl) rfl ?_
      have lp34 : ∀ (a : Int) (k : Int) (M2 : Mem) (k0 : 0 ≤ k) (k1 : k ≤ (C.1 10 0 0 0)) (ha : a = sm (dI (DD 1 (hiN C) (decN C (fun a h b => mdD t a h b 8)))) 0 k) (hm : MdM (DD 1 (hiN C) (decN C (fun a h b => mdD t a h b 8))) (mvN C (fun a h b => mdD t a h b 8)) k C Mc27 M2), G κ nm ad M2 34 [some (.ref (ad 40 0)), some (.int (iI t)), some (.int (iI a)), some (.int (iI k))] [] 0 0 := by
        refine ind3 (fun a k M2 => (120 - k).toNat) ?_
        intro a k M2 ih34 k0 k1 ha hm
        refine g_rm (fun hM34 => ?_)
        have e39 : (M2.1 40 39 0 0) = (C.1 10 0 0 0) := (hm.1.i 40 39 0 0 rfl).trans hE2.e.1
        refine g_iload_n X dX12_dirt_34 rfl rfl ?_
        refine g_aload_n X dX12_dirt_35 rfl rfl ?_
        refine g_getI X ci12 (n40 hN) (en40 _ _ _ _) (by decide) fl_X12_249 rfl dX12_dirt_36 rfl (fun r36 => ?_)
        refine g_icmp_ge (tgt := 74) X dX12_dirt_39 rfl rfl (by omega) (by omega) (fun h39 => ?_) (fun h39 => ?_)
        · skip
          refine g_iload_n X dX12_dirt_74 rfl rfl ?_
          have ek : k = (C.1 10 0 0 0) := by omega
          have hh : 0 ≤ hiN C ∧ (hiN C ≤ (C.1 10 0 0 0) ∨ ((C.1 10 0 0 0) ≤ 0 ∧ hiN C = 1)) := by unfold hiN; split <;> omega
          have ea : a = sm (dI (decN C (fun a h b => mdD t a h b 8))) 1 (hiN C) := by
            rw [ha, ek]
            by_cases z : (C.1 10 0 0 0) ≤ 0
            · rw [sm_0 _ z, sm_0 _ (by omega)]
            · exact smDD (by decide) (by omega) (by omega) hh.1
          exact g_ret Y dX12_dirt_75 ⟨_, rfl⟩ ⟨rfl, Or.inr ⟨w0, by rw [ea], Mc27, hAk, by rw [← ek]; exact hm⟩⟩
        · skip
          refine g_iload_n X dX12_dirt_42 rfl rfl ?_
          refine g_aload_n X dX12_dirt_43 rfl rfl ?_
          refine g_iload_n X dX12_dirt_44 rfl rfl ?_
          refine g_iV1_v X w_X12_hasBoth ml_X12_278 dX12_dirt_45 rfl (n40 hN) (en40 _ _ _ _) ⟨⟨Nat.le_of_ble_eq_true rfl, Nat.le_of_ble_eq_true rfl⟩, Nat.le_of_ble_eq_true rfl, Nat.le_of_ble_eq_true rfl⟩ (Nat.le_of_ble_eq_true rfl) (c_X12_hasBoth hN (by omega) (by omega)) ?_
          have fk := Ag.fre hE2 hm.1 k
          have fa := Ag.fre hE2 hm.1 (k - 1)
          have fb_ := Ag.fre hE2 hm.1 (k + 1)
          have ps := sm_s (dI (DD 1 (hiN C) (decN C (fun a h b => mdD t a h b 8)))) (lo := 0) (hi := k) k0
          refine g_ifB_eq (tgt := 65) X dX12_dirt_48 rfl rfl (fun h48 => ?_) (fun h48 => ?_)
          · skip
            refine g_iconst X dX12_dirt_65 rfl ?_
            have hD : ¬ (DD 1 (hiN C) (decN C (fun a h b => mdD t a h b 8))) k := by
              intro q
              have q1 := q.2.2
              have q2 := q.2.1
              have q3 := q.1
              unfold hiN at q2
              have q4 : k < (C.1 10 0 0 0) - 1 := by
                by_cases z : (C.1 10 0 0 0) ≤ 1
                · rw [if_pos z] at q2; omega
                · rw [if_neg z] at q2; exact q2
              exact absurd (⟨fk.mpr ⟨by omega, q1.2.1⟩, fa.mpr ⟨by omega, q1.1⟩, fb_.mpr ⟨by omega, q1.2.2.1⟩⟩ : freM M2 k ∧ freM M2 (k - 1) ∧ freM M2 (k + 1)) (by assumption)
            have hM3 := hm.no k0 hD
            have hs : a + 0 = sm (dI (DD 1 (hiN C) (decN C (fun a h b => mdD t a h b 8)))) 0 (k + 1) := by rw [ps, ha]; exact congrArg _ (bI_f hD).symm
            refine g_iadd X dX12_dirt_66 rfl ?_
            refine g_istore_2 X dX12_dirt_67 rfl (lt_kN hNL rfl) rfl ?_
            refine g_iinc_3 X dX12_dirt_68 rfl (lt_kN hNL rfl) rfl ?_
            refine g_goto (pc' := 34) X dX12_dirt_71 rfl ?_
            exact ih34 _ (k + 1) _ (by omega) (by omega) (by omega) hs hM3
          · skip
            have hB : freM M2 k ∧ freM M2 (k - 1) ∧ freM M2 (k + 1) := by assumption
            have f1 := fk.mp hB.1
            have f2 := fa.mp hB.2.1
            have f3 := fb_.mp hB.2.2
            have b0 : (M2.2 73 0 0 k) = (C.2 31 4 k 0) := (hm.1.l 73 0 0 k rfl).trans ((heb k (by omega) (by show k < (M.1 40 39 0 0); omega)).trans (hE.me k (by omega) (by omega)).2.2.2.2.1)
            have b1 : (M2.2 73 0 0 (k - 1)) = (C.2 31 4 (k - 1) 0) := (hm.1.l 73 0 0 (k - 1) rfl).trans ((heb (k - 1) (by omega) (by show k - 1 < (M.1 40 39 0 0); omega)).trans (hE.me (k - 1) (by omega) (by omega)).2.2.2.2.1)
            have b2 : (M2.2 73 0 0 (k + 1)) = (C.2 31 4 (k + 1) 0) := (hm.1.l 73 0 0 (k + 1) rfl).trans ((heb (k + 1) (by omega) (by show k + 1 < (M.1 40 39 0 0); omega)).trans (hE.me (k + 1) (by omega) (by omega)).2.2.2.2.1)
            have hx : mdD t (M2.2 73 0 0 (k - 1)) (M2.2 73 0 0 k) (M2.2 73 0 0 (k + 1)) 8 = (mvN C (fun a h b => mdD t a h b 8)) k := by unfold mvN; rw [b0, b1, b2]
            have sb := smD0 (DD 1 (hiN C) (decN C (fun a h b => mdD t a h b 8))) k0
            refine g_aload_n X dX12_dirt_51 rfl rfl ?_
            refine g_iload_n X dX12_dirt_52 rfl rfl ?_
            refine g_aload_n X dX12_dirt_53 rfl rfl ?_
            refine g_iload_n X dX12_dirt_54 rfl rfl ?_
            refine g_iload_n X dX12_dirt_55 rfl rfl ?_
            refine g_iV2_v X w_X12_cleaned ml_X12_281 dX12_dirt_56 rfl (n40 hN) (en40 _ _ _ _) ⟨⟨Nat.le_of_ble_eq_true rfl, Nat.le_of_ble_eq_true rfl⟩, Nat.le_of_ble_eq_true rfl, Nat.le_of_ble_eq_true rfl⟩ (Nat.le_of_ble_eq_true rfl) (c_X12_cleaned hN (by omega) (by omega) (by omega)) ?_
            refine g_iV2 X w_X12_changes ml_X12_285 dX12_dirt_59 rfl (n40 hN) (en40 _ _ _ _) ⟨⟨Nat.le_of_ble_eq_true rfl, Nat.le_of_ble_eq_true rfl⟩, Nat.le_of_ble_eq_true rfl, Nat.le_of_ble_eq_true rfl⟩ (Nat.le_of_ble_eq_true rfl) (c_X12_changes hN (by omega) (by rw [hm.2.1]; omega)) (fun v59 ad59 Mc59 hc59 => ?_)
            obtain ⟨ha59, hv59, hm59⟩ := hc59
            have ha2 := ha59.symm
            subst hv59
            subst ha2
            refine g_goto (pc' := 66) X dX12_dirt_62 rfl ?_
            have f1 := fk.mp hB.1
            have f2 := fa.mp hB.2.1
            have f3 := fb_.mp hB.2.2
            have hD : (DD 1 (hiN C) (decN C (fun a h b => mdD t a h b 8))) k ↔ chgM M2 k (mdD t (M2.2 73 0 0 (k - 1)) (M2.2 73 0 0 k) (M2.2 73 0 0 (k + 1)) 8) := by
              rw [hm.chg hE2 k0 (by omega)]
              unfold DD decN hiN
              rw [hx]
              constructor
              · intro q; exact q.2.2.2.2.2
              · intro q
                refine ⟨by omega, ?_, f2.2, f1.2, f3.2, q⟩
                split <;> omega
            have hM3 : MdM (DD 1 (hiN C) (decN C (fun a h b => mdD t a h b 8))) (mvN C (fun a h b => mdD t a h b 8)) (k + 1) C Mc27 Mc59 := by
              rw [hm59]
              by_cases q : chgM M2 k (mdD t (M2.2 73 0 0 (k - 1)) (M2.2 73 0 0 k) (M2.2 73 0 0 (k + 1)) 8)
              · rw [cif_t q, hx]
                exact hm.yes k0 (by omega) (hD.mpr q)
              · rw [cif_f q]
                exact hm.no k0 (fun y => q (hD.mp y))
            have hs : a + bI (chgM M2 k (mdD t (M2.2 73 0 0 (k - 1)) (M2.2 73 0 0 k) (M2.2 73 0 0 (k + 1)) 8)) = sm (dI (DD 1 (hiN C) (decN C (fun a h b => mdD t a h b 8)))) 0 (k + 1) := by rw [ps, ha]; exact congrArg _ (bI_c hD.symm)
            refine g_iadd X dX12_dirt_66 rfl ?_
            refine g_istore_2 X dX12_dirt_67 rfl (lt_kN hNL rfl) rfl ?_
            refine g_iinc_3 X dX12_dirt_68 rfl (lt_kN hNL rfl) rfl ?_
            refine g_goto (pc' := 34) X dX12_dirt_71 rfl ?_
            exact ih34 _ (k + 1) _ (by omega) (by omega) (by omega) hs hM3
      exact lp34 0 0 _ (by omega) (by omega) (sm_0 _ (by omega)).symm (MdM.z hE2 hK2 (fun i h1 h2 => by omega))
    · skip
      refine g_iconst X dX12_dirt_24 rfl ?_
      exact g_ret Y dX12_dirt_25 ⟨_, rfl⟩ (pRx (by assumption))
set_option maxRecDepth 100000 in
set_option maxHeartbeats 4000000 in
theorem c_X12_flicker {δ : Dx} {nm : List (Nat × Int)} {ad : Ad} {M : Mem} {C : Mem} {n : Int}  (hN : NmOk nm) (hE : RelE C M) (hK : RelK n C M) (n0 : 0 ≤ n ∧ n ≤ 511) : Ct δ md_X12_flicker 0 0 nm ad M [.ref (ad 40 0)] (pRf (0) (.int (iI (-1))) (.int (iI (sm (dI (decN C (fun a h b => mfF (flk a h b) h 8))) 1 (hiN C)))) ad M (MdP (DD 1 (hiN C) (decN C (fun a h b => mfF (flk a h b) h 8))) (mvN C (fun a h b => mfF (flk a h b) h 8)) (C.1 10 0 0 0) C M)) := by
  refine Ct_of (ins := .ireturn) (ok := okI) [some (.ref (ad 40 0)), none, none] (by decide +kernel) rfl (Nat.le_of_ble_eq_true rfl) (fun κ s hs X hr hQ hδ => endI rfl hs X hr hQ hδ) (fun κ X hNL hδ Y => ?_)
  refine g_rm (fun hM => ?_)
  have ec := hE.ec
  have ee := hE.e
  have li := hE.li
  have kc := hK.cc
  have ke := hK.e
  refine g_aload_n X dX12_flicker_0 rfl rfl ?_
  refine g_iconst X dX12_flicker_1 rfl ?_
  refine g_iV1_v X w_X12_holds ml_X12_158 dX12_flicker_2 rfl (n40 hN) (en40 _ _ _ _) ⟨⟨Nat.le_of_ble_eq_true rfl, Nat.le_of_ble_eq_true rfl⟩, Nat.le_of_ble_eq_true rfl, Nat.le_of_ble_eq_true rfl⟩ (Nat.le_of_ble_eq_true rfl) (c_X12_holds hN (by omega)) ?_
  refine g_pop X dX12_flicker_5 rfl rfl ?_
  refine g_aload_n X dX12_flicker_6 rfl rfl ?_
  refine g_iV0_gn X w_X12_keep ml_X12_275 dX12_flicker_7 rfl (n40 hN) (en40 _ _ _ _) ⟨⟨Nat.le_of_ble_eq_true rfl, Nat.le_of_ble_eq_true rfl⟩, Nat.le_of_ble_eq_true rfl, Nat.le_of_ble_eq_true rfl⟩ (Nat.le_of_ble_eq_true rfl) (c_X12_keep hN (by show 0 ≤ (M.1 40 39 0 0) ∧ (M.1 40 39 0 0) ≤ 120; omega)) (fun Mc7 hc7 => ?_)
  refine g_rm (fun hMc7 => ?_)
  obtain ⟨hEk, heb⟩ := hc7
  have hE2 := (hE.th (z := 0)).kp hEk
  have hK2 := (hK.th (z := 0)).kp hEk
  have hAk : Ag (fun k _ => !(k == 73)) (setI M 40 46 0 0 0) Mc7 := fun k f i j q => hEk k f i j (by simpa using q)
  refine g_iconst X dX12_flicker_10 rfl ?_
  refine g_istore_1 X dX12_flicker_11 rfl (lt_kN hNL rfl) rfl ?_
  refine g_iconst X dX12_flicker_12 rfl ?_
  refine g_istore_2 X dX12_flicker_13 rfl (lt_kN hNL rfl) rfl ?_
  have lp14 : ∀ (a : Int) (k : Int) (M2 : Mem) (k0 : 0 ≤ k) (k1 : k ≤ (C.1 10 0 0 0)) (ha : a = sm (dI (DD 1 (hiN C) (decN C (fun a h b => mfF (flk a h b) h 8)))) 0 k) (hm : MdM (DD 1 (hiN C) (decN C (fun a h b => mfF (flk a h b) h 8))) (mvN C (fun a h b => mfF (flk a h b) h 8)) k C Mc7 M2), G κ nm ad M2 14 [some (.ref (ad 40 0)), some (.int (iI a)), some (.int (iI k))] [] 0 0 := by
    refine ind3 (fun a k M2 => (120 - k).toNat) ?_
    intro a k M2 ih14 k0 k1 ha hm
    refine g_rm (fun hM14 => ?_)
    have e39 : (M2.1 40 39 0 0) = (C.1 10 0 0 0) := (hm.1.i 40 39 0 0 rfl).trans hE2.e.1
    refine g_iload_n X dX12_flicker_14 rfl rfl ?_
    refine g_aload_n X dX12_flicker_15 rfl rfl ?_
    refine g_getI X ci12 (n40 hN) (en40 _ _ _ _) (by decide) fl_X12_249 rfl dX12_flicker_16 rfl (fun r16 => ?_)
    refine g_icmp_ge (tgt := 53) X dX12_flicker_19 rfl rfl (by omega) (by omega) (fun h19 => ?_) (fun h19 => ?_)
    · skip
      refine g_iload_n X dX12_flicker_53 rfl rfl ?_
      have ek : k = (C.1 10 0 0 0) := by omega
      have hh : 0 ≤ hiN C ∧ (hiN C ≤ (C.1 10 0 0 0) ∨ ((C.1 10 0 0 0) ≤ 0 ∧ hiN C = 1)) := by unfold hiN; split <;> omega
      have ea : a = sm (dI (decN C (fun a h b => mfF (flk a h b) h 8))) 1 (hiN C) := by
        rw [ha, ek]
        by_cases z : (C.1 10 0 0 0) ≤ 0
        · rw [sm_0 _ z, sm_0 _ (by omega)]
        · exact smDD (by decide) (by omega) (by omega) hh.1
      exact g_ret Y dX12_flicker_54 ⟨_, rfl⟩ ⟨rfl, Or.inr ⟨rfl, by rw [ea], Mc7, hAk, by rw [← ek]; exact hm⟩⟩
    · skip
      refine g_iload_n X dX12_flicker_22 rfl rfl ?_
      refine g_aload_n X dX12_flicker_23 rfl rfl ?_
      refine g_iload_n X dX12_flicker_24 rfl rfl ?_
      refine g_iV1_v X w_X12_hasBoth ml_X12_278 dX12_flicker_25 rfl (n40 hN) (en40 _ _ _ _) ⟨⟨Nat.le_of_ble_eq_true rfl, Nat.le_of_ble_eq_true rfl⟩, Nat.le_of_ble_eq_true rfl, Nat.le_of_ble_eq_true rfl⟩ (Nat.le_of_ble_eq_true rfl) (c_X12_hasBoth hN (by omega) (by omega)) ?_
      have fk := Ag.fre hE2 hm.1 k
      have fa := Ag.fre hE2 hm.1 (k - 1)
      have fb_ := Ag.fre hE2 hm.1 (k + 1)
      have ps := sm_s (dI (DD 1 (hiN C) (decN C (fun a h b => mfF (flk a h b) h 8)))) (lo := 0) (hi := k) k0
      refine g_ifB_eq (tgt := 44) X dX12_flicker_28 rfl rfl (fun h28 => ?_) (fun h28 => ?_)
      · skip
        refine g_iconst X dX12_flicker_44 rfl ?_
        have hD : ¬ (DD 1 (hiN C) (decN C (fun a h b => mfF (flk a h b) h 8))) k := by
          intro q
          have q1 := q.2.2
          have q2 := q.2.1
          have q3 := q.1
          unfold hiN at q2
          have q4 : k < (C.1 10 0 0 0) - 1 := by
            by_cases z : (C.1 10 0 0 0) ≤ 1
            · rw [if_pos z] at q2; omega
            · rw [if_neg z] at q2; exact q2
          exact absurd (⟨fk.mpr ⟨by omega, q1.2.1⟩, fa.mpr ⟨by omega, q1.1⟩, fb_.mpr ⟨by omega, q1.2.2.1⟩⟩ : freM M2 k ∧ freM M2 (k - 1) ∧ freM M2 (k + 1)) (by assumption)
        have hM3 := hm.no k0 hD
        have hs : a + 0 = sm (dI (DD 1 (hiN C) (decN C (fun a h b => mfF (flk a h b) h 8)))) 0 (k + 1) := by rw [ps, ha]; exact congrArg _ (bI_f hD).symm
        refine g_iadd X dX12_flicker_45 rfl ?_
        refine g_istore_1 X dX12_flicker_46 rfl (lt_kN hNL rfl) rfl ?_
        refine g_iinc_2 X dX12_flicker_47 rfl (lt_kN hNL rfl) rfl ?_
        refine g_goto (pc' := 14) X dX12_flicker_50 rfl ?_
        exact ih14 _ (k + 1) _ (by omega) (by omega) (by omega) hs hM3
      · skip
        have hB : freM M2 k ∧ freM M2 (k - 1) ∧ freM M2 (k + 1) := by assumption
        have f1 := fk.mp hB.1
        have f2 := fa.mp hB.2.1
        have f3 := fb_.mp hB.2.2
        have b0 : (M2.2 73 0 0 k) = (C.2 31 4 k 0) := (hm.1.l 73 0 0 k rfl).trans ((heb k (by omega) (by show k < (M.1 40 39 0 0); omega)).trans (hE.me k (by omega) (by omega)).2.2.2.2.1)
        have b1 : (M2.2 73 0 0 (k - 1)) = (C.2 31 4 (k - 1) 0) := (hm.1.l 73 0 0 (k - 1) rfl).trans ((heb (k - 1) (by omega) (by show k - 1 < (M.1 40 39 0 0); omega)).trans (hE.me (k - 1) (by omega) (by omega)).2.2.2.2.1)
        have b2 : (M2.2 73 0 0 (k + 1)) = (C.2 31 4 (k + 1) 0) := (hm.1.l 73 0 0 (k + 1) rfl).trans ((heb (k + 1) (by omega) (by show k + 1 < (M.1 40 39 0 0); omega)).trans (hE.me (k + 1) (by omega) (by omega)).2.2.2.2.1)
        have hx : mfF (flk (M2.2 73 0 0 (k - 1)) (M2.2 73 0 0 k) (M2.2 73 0 0 (k + 1))) (M2.2 73 0 0 k) 8 = (mvN C (fun a h b => mfF (flk a h b) h 8)) k := by unfold mvN; rw [b0, b1, b2]
        have sb := smD0 (DD 1 (hiN C) (decN C (fun a h b => mfF (flk a h b) h 8))) k0
        refine g_aload_n X dX12_flicker_31 rfl rfl ?_
        refine g_iload_n X dX12_flicker_32 rfl rfl ?_
        refine g_aload_n X dX12_flicker_33 rfl rfl ?_
        refine g_iload_n X dX12_flicker_34 rfl rfl ?_
        refine g_iV1_v X w_X12_levelled ml_X12_292 dX12_flicker_35 rfl (n40 hN) (en40 _ _ _ _) ⟨⟨Nat.le_of_ble_eq_true rfl, Nat.le_of_ble_eq_true rfl⟩, Nat.le_of_ble_eq_true rfl, Nat.le_of_ble_eq_true rfl⟩ (Nat.le_of_ble_eq_true rfl) (c_X12_levelled hN (by omega) (by omega)) ?_
        refine g_iV2 X w_X12_changes ml_X12_285 dX12_flicker_38 rfl (n40 hN) (en40 _ _ _ _) ⟨⟨Nat.le_of_ble_eq_true rfl, Nat.le_of_ble_eq_true rfl⟩, Nat.le_of_ble_eq_true rfl, Nat.le_of_ble_eq_true rfl⟩ (Nat.le_of_ble_eq_true rfl) (c_X12_changes hN (by omega) (by rw [hm.2.1]; omega)) (fun v38 ad38 Mc38 hc38 => ?_)
        obtain ⟨ha38, hv38, hm38⟩ := hc38
        have ha2 := ha38.symm
        subst hv38
        subst ha2
        refine g_goto (pc' := 45) X dX12_flicker_41 rfl ?_
        have f1 := fk.mp hB.1
        have f2 := fa.mp hB.2.1
        have f3 := fb_.mp hB.2.2
        have hD : (DD 1 (hiN C) (decN C (fun a h b => mfF (flk a h b) h 8))) k ↔ chgM M2 k (mfF (flk (M2.2 73 0 0 (k - 1)) (M2.2 73 0 0 k) (M2.2 73 0 0 (k + 1))) (M2.2 73 0 0 k) 8) := by
          rw [hm.chg hE2 k0 (by omega)]
          unfold DD decN hiN
          rw [hx]
          constructor
          · intro q; exact q.2.2.2.2.2
          · intro q
            refine ⟨by omega, ?_, f2.2, f1.2, f3.2, q⟩
            split <;> omega
        have hM3 : MdM (DD 1 (hiN C) (decN C (fun a h b => mfF (flk a h b) h 8))) (mvN C (fun a h b => mfF (flk a h b) h 8)) (k + 1) C Mc7 Mc38 := by
          rw [hm38]
          by_cases q : chgM M2 k (mfF (flk (M2.2 73 0 0 (k - 1)) (M2.2 73 0 0 k) (M2.2 73 0 0 (k + 1))) (M2.2 73 0 0 k) 8)
          · rw [cif_t q, hx]
            exact hm.yes k0 (by omega) (hD.mpr q)
          · rw [cif_f q]
            exact hm.no k0 (fun y => q (hD.mp y))
        have hs : a + bI (chgM M2 k (mfF (flk (M2.2 73 0 0 (k - 1)) (M2.2 73 0 0 k) (M2.2 73 0 0 (k + 1))) (M2.2 73 0 0 k) 8)) = sm (dI (DD 1 (hiN C) (decN C (fun a h b => mfF (flk a h b) h 8)))) 0 (k + 1) := by rw [ps, ha]; exact congrArg _ (bI_c hD.symm)
        refine g_iadd X dX12_flicker_45 rfl ?_
        refine g_istore_1 X dX12_flicker_46 rfl (lt_kN hNL rfl) rfl ?_
        refine g_iinc_2 X dX12_flicker_47 rfl (lt_kN hNL rfl) rfl ?_
        refine g_goto (pc' := 14) X dX12_flicker_50 rfl ?_
        exact ih14 _ (k + 1) _ (by omega) (by omega) (by omega) hs hM3
  exact lp14 0 0 _ (by omega) (by omega) (sm_0 _ (by omega)).symm (MdM.z hE2 hK2 (fun i h1 h2 => by omega))
def scA (C : Mem) (p f k thr : Int) : Prop := ∀ j, f ≤ j → j < k → mayB C j → scrP (C.2 31 4 j 0) p thr
theorem scA_all {C : Mem} {p f t thr : Int} : scA C p f (t + 1) thr ↔ scrAll C p f t thr := ⟨fun h k k0 k1 => h k k0 (by omega), fun h k k0 k1 => h k k0 (by omega)⟩
set_option maxRecDepth 100000 in
set_option maxHeartbeats 4000000 in
theorem c_X12_scratch {δ : Dx} {nm : List (Nat × Int)} {ad : Ad} {M : Mem} {C : Mem} {n : Int} {p f t thr : Int} (hN : NmOk nm) (hE : RelE C M) (hK : RelK n C M) (n0 : 0 ≤ n ∧ n ≤ 511) (rp : rng p) (rf : rng f) (rt : rng t) (rthr : rng thr) : Ct δ md_X12_scratch 0 0 nm ad M [.ref (ad 40 0), .int (iI p), .int (iI f), .int (iI t), .int (iI thr)] (pRf (if ¬ ((0 ≤ f ∧ f < (C.1 10 0 0 0)) ∧ (0 ≤ t ∧ t < (C.1 10 0 0 0))) then 1 else if (1 ≤ p ∧ p ≤ 6) ∧ (0 ≤ thr ∧ thr ≤ 255) ∧ f ≤ t then 0 else 2) (.int (iI (-1))) (.int (iI (sm (dI (decS C p f t thr)) f (t + 1)))) ad M (MdP (DD f (t + 1) (decS C p f t thr)) (mvS C p) (t + 1) C M)) := by
  refine Ct_of (ins := .ireturn) (ok := okI) [some (.ref (ad 40 0)), some (.int (iI p)), some (.int (iI f)), some (.int (iI t)), some (.int (iI thr)), none, none, none, none, none, none] (by decide +kernel) rfl (Nat.le_of_ble_eq_true rfl) (fun κ s hs X hr hQ hδ => endI rfl hs X hr hQ hδ) (fun κ X hNL hδ Y => ?_)
  refine g_rm (fun hM => ?_)
  have ec := hE.ec
  have ee := hE.e
  have li := hE.li
  have kc := hK.cc
  have ke := hK.e
  refine g_cutB 21 ((0 ≤ f ∧ f < (C.1 10 0 0 0)) ∧ (0 ≤ t ∧ t < (C.1 10 0 0 0))) (fun ct0 cf0 => ?_) ?_
  · skip
    refine g_aload_n X dX12_scratch_0 rfl rfl ?_
    refine g_iload_n X dX12_scratch_1 rfl rfl ?_
    refine g_iV1_v X w_X12_isPlace ml_X12_255 dX12_scratch_2 rfl (n40 hN) (en40 _ _ _ _) ⟨⟨Nat.le_of_ble_eq_true rfl, Nat.le_of_ble_eq_true rfl⟩, Nat.le_of_ble_eq_true rfl, Nat.le_of_ble_eq_true rfl⟩ (Nat.le_of_ble_eq_true rfl) (c_X12_isPlace hN (by omega) (by omega)) ?_
    refine g_ifB_eq (tgt := 20) X dX12_scratch_5 rfl rfl (fun h5 => ?_) (fun h5 => ?_)
    · skip
      refine g_iconst X dX12_scratch_20 rfl ?_
      exact cf0 (by omega)
    · skip
      refine g_aload_n X dX12_scratch_8 rfl rfl ?_
      refine g_iload_n X dX12_scratch_9 rfl rfl ?_
      refine g_iV1_v X w_X12_isPlace ml_X12_255 dX12_scratch_10 rfl (n40 hN) (en40 _ _ _ _) ⟨⟨Nat.le_of_ble_eq_true rfl, Nat.le_of_ble_eq_true rfl⟩, Nat.le_of_ble_eq_true rfl, Nat.le_of_ble_eq_true rfl⟩ (Nat.le_of_ble_eq_true rfl) (c_X12_isPlace hN (by omega) (by omega)) ?_
      refine g_ifB_eq (tgt := 20) X dX12_scratch_13 rfl rfl (fun h13 => ?_) (fun h13 => ?_)
      · skip
        refine g_iconst X dX12_scratch_20 rfl ?_
        exact cf0 (by omega)
      · skip
        refine g_iconst X dX12_scratch_16 rfl ?_
        refine g_goto (pc' := 21) X dX12_scratch_17 rfl ?_
        exact ct0 (by omega)
  · skip
    refine g_istore_5 X dX12_scratch_21 rfl (lt_kN hNL rfl) rfl ?_
    refine g_cutB 57 ((1 ≤ p ∧ p ≤ 6) ∧ (0 ≤ thr ∧ thr ≤ 255) ∧ f ≤ t) (fun ct23 cf23 => ?_) ?_
    · skip
      refine g_aload_n X dX12_scratch_23 rfl rfl ?_
      refine g_iload_n X dX12_scratch_24 rfl rfl ?_
      refine g_iconst X dX12_scratch_25 rfl ?_
      refine g_bipush X dX12_scratch_26 rfl (by decide) ?_
      refine g_iV3_v X w_X12_in ml_X12_146 dX12_scratch_28 rfl (n40 hN) (en40 _ _ _ _) ⟨⟨Nat.le_of_ble_eq_true rfl, Nat.le_of_ble_eq_true rfl⟩, Nat.le_of_ble_eq_true rfl, Nat.le_of_ble_eq_true rfl⟩ (Nat.le_of_ble_eq_true rfl) (c_X12_in hN (by omega) (by omega) (by omega)) ?_
      refine g_ifB_eq (tgt := 56) X dX12_scratch_31 rfl rfl (fun h31 => ?_) (fun h31 => ?_)
      · skip
        refine g_iconst X dX12_scratch_56 rfl ?_
        exact cf23 (by omega)
      · skip
        refine g_aload_n X dX12_scratch_34 rfl rfl ?_
        refine g_iload X dX12_scratch_35 rfl rfl ?_
        refine g_iconst X dX12_scratch_37 rfl ?_
        refine g_sipush X dX12_scratch_38 rfl (by decide) ?_
        refine g_iV3_v X w_X12_in ml_X12_146 dX12_scratch_41 rfl (n40 hN) (en40 _ _ _ _) ⟨⟨Nat.le_of_ble_eq_true rfl, Nat.le_of_ble_eq_true rfl⟩, Nat.le_of_ble_eq_true rfl, Nat.le_of_ble_eq_true rfl⟩ (Nat.le_of_ble_eq_true rfl) (c_X12_in hN (by omega) (by omega) (by omega)) ?_
        refine g_ifB_eq (tgt := 56) X dX12_scratch_44 rfl rfl (fun h44 => ?_) (fun h44 => ?_)
        · skip
          refine g_iconst X dX12_scratch_56 rfl ?_
          exact cf23 (by omega)
        · skip
          refine g_iload_n X dX12_scratch_47 rfl rfl ?_
          refine g_iload_n X dX12_scratch_48 rfl rfl ?_
          refine g_icmp_lt (tgt := 56) X dX12_scratch_49 rfl rfl (by omega) (by omega) (fun h49 => ?_) (fun h49 => ?_)
          · skip
            refine g_iconst X dX12_scratch_56 rfl ?_
            exact cf23 (by omega)
          · skip
            refine g_iconst X dX12_scratch_52 rfl ?_
            refine g_goto (pc' := 57) X dX12_scratch_53 rfl ?_
            exact ct23 (by omega)
    · skip
      refine g_istore_6 X dX12_scratch_57 rfl (lt_kN hNL rfl) rfl ?_
      refine g_aload_n X dX12_scratch_59 rfl rfl ?_
      refine g_cutI 79 (if ¬ ((0 ≤ f ∧ f < (C.1 10 0 0 0)) ∧ (0 ≤ t ∧ t < (C.1 10 0 0 0))) then 1 else if (1 ≤ p ∧ p ≤ 6) ∧ (0 ≤ thr ∧ thr ≤ 255) ∧ f ≤ t then 0 else 2) (fun ci60 => ?_) ?_
      · skip
        refine g_iload X dX12_scratch_60 rfl rfl ?_
        refine g_ifB_ne (tgt := 69) X dX12_scratch_62 rfl rfl (fun h62 => ?_) (fun h62 => ?_)
        · skip
          refine g_iload X dX12_scratch_69 rfl rfl ?_
          refine g_ifB_eq (tgt := 78) X dX12_scratch_71 rfl rfl (fun h71 => ?_) (fun h71 => ?_)
          · skip
            refine g_iconst X dX12_scratch_78 rfl ?_
            exact ci60 _ (by omega)
          · skip
            refine g_iconst X dX12_scratch_74 rfl ?_
            refine g_goto (pc' := 79) X dX12_scratch_75 rfl ?_
            exact ci60 _ (by omega)
        · skip
          refine g_iconst X dX12_scratch_65 rfl ?_
          refine g_goto (pc' := 79) X dX12_scratch_66 rfl ?_
          exact ci60 _ (by omega)
      · skip
        refine g_iV1_v X w_X12_holds ml_X12_158 dX12_scratch_79 rfl (n40 hN) (en40 _ _ _ _) ⟨⟨Nat.le_of_ble_eq_true rfl, Nat.le_of_ble_eq_true rfl⟩, Nat.le_of_ble_eq_true rfl, Nat.le_of_ble_eq_true rfl⟩ (Nat.le_of_ble_eq_true rfl) (c_X12_holds hN (by omega)) ?_
        refine g_ifB_eq (tgt := 87) X dX12_scratch_82 rfl rfl (fun h82 => ?_) (fun h82 => ?_)
        · skip
          have w0 : (if ¬ ((0 ≤ f ∧ f < (C.1 10 0 0 0)) ∧ (0 ≤ t ∧ t < (C.1 10 0 0 0))) then 1 else if (1 ≤ p ∧ p ≤ 6) ∧ (0 ≤ thr ∧ thr ≤ 255) ∧ f ≤ t then 0 else 2 : Int) = 0 := by omega
          rw [w0]
          have hE2 := hE.th (z := 0)
          have hK2 := hK.th (z := 0)
          refine g_iconst X dX12_scratch_87 rfl ?_
          refine g_istore_7 X dX12_scratch_88 rfl (lt_kN hNL rfl) rfl ?_
          refine g_iload_n X dX12_scratch_90 rfl rfl ?_
          refine g_istore_8 X dX12_scratch_91 rfl (lt_kN hNL rfl) rfl ?_
          refine g_of (a := [some (.ref (ad 40 0)), some (.int (iI p)), some (.int (iI f)), some (.int (iI t)), some (.int (iI thr)), none, none, some (.int (iI (bI (scA C p f f thr)))), some (.int (iI f)), none, none]) (fun k v h => by
            rw [bI_t (P := scA C p f f thr) (fun d h1 h2 => absurd h2 (by omega))] at h
            match k, h with
            | 0, h => exact h
            | 1, h => exact h
            | 2, h => exact h
            | 3, h => exact h
            | 4, h => exact h
            | 7, h => exact h
            | 8, h => exact h
            | n + 11, h => cases h) ?_
          refine g_drop_5 ?_
          refine g_drop_6 ?_
          have lp93 : ∀ (k : Int) (k0 : f ≤ k) (k1 : k ≤ t + 1), G κ nm ad (setI M 40 46 0 0 0) 93 [some (.ref (ad 40 0)), some (.int (iI p)), some (.int (iI f)), some (.int (iI t)), some (.int (iI thr)), none, none, some (.int (iI (bI (scA C p f k thr)))), some (.int (iI k)), none, none] [] 0 0 := by
            refine ind1 (fun k => (121 - k).toNat) ?_
            intro k ih93 k0 k1
            refine g_rm (fun hM93 => ?_)
            refine g_iload X dX12_scratch_93 rfl rfl ?_
            refine g_iload_n X dX12_scratch_95 rfl rfl ?_
            refine g_icmp_gt (tgt := 188) X dX12_scratch_96 rfl rfl (by omega) (by omega) (fun h96 => ?_) (fun h96 => ?_)
            · skip
              refine g_iconst X dX12_scratch_188 rfl ?_
              refine g_istore_8 X dX12_scratch_189 rfl (lt_kN hNL rfl) rfl ?_
              refine g_iload_n X dX12_scratch_191 rfl rfl ?_
              refine g_istore_9 X dX12_scratch_192 rfl (lt_kN hNL rfl) rfl ?_
              rw [show k = t + 1 by omega]
              have lp194 : ∀ (a : Int) (k : Int) (M2 : Mem) (k0 : f ≤ k) (k1 : k ≤ t + 1) (ha : a = sm (dI (DD f (t + 1) (decS C p f t thr))) 0 k) (hm : MdM (DD f (t + 1) (decS C p f t thr)) (mvS C p) k C (setI M 40 46 0 0 0) M2), G κ nm ad M2 194 [some (.ref (ad 40 0)), some (.int (iI p)), some (.int (iI f)), some (.int (iI t)), some (.int (iI thr)), none, none, some (.int (iI (bI (scA C p f (t + 1) thr)))), some (.int (iI a)), some (.int (iI k)), none] [] 0 0 := by
                refine ind3 (fun a k M2 => (121 - k).toNat) ?_
                intro a k M2 ih194 k0 k1 ha hm
                refine g_rm (fun hM194 => ?_)
                refine g_iload X dX12_scratch_194 rfl rfl ?_
                refine g_iload_n X dX12_scratch_196 rfl rfl ?_
                refine g_icmp_gt (tgt := 282) X dX12_scratch_197 rfl rfl (by omega) (by omega) (fun h197 => ?_) (fun h197 => ?_)
                · skip
                  refine g_iload X dX12_scratch_282 rfl rfl ?_
                  first
                      | (have ek : k = t + 1 := by omega
                         have hm2 := hm
                         rw [ek] at hm2
                         exact g_ret Y dX12_scratch_284 ⟨_, rfl⟩ ⟨rfl, Or.inr ⟨w0, by rw [ha, ek, smDD (dec := decS C p f t thr) (lo := f) (hi := t + 1) (n := t + 1) (by omega) (by omega) (by omega) (by omega)], (setI M 40 46 0 0 0), Ag.rf _, hm2⟩⟩)
                      | (have hno : ∀ i, ¬ (DD f (t + 1) (decS C p f t thr)) i := fun i q => absurd (scA_all.mpr q.2.2.1) (by assumption)
                         have e0 : a = 0 := by rw [ha]; exact sm_z0 (fun i _ _ => bI_f (hno i))
                         exact g_ret Y dX12_scratch_284 ⟨_, rfl⟩ ⟨rfl, Or.inr ⟨w0, by rw [e0, ← smDD (dec := decS C p f t thr) (lo := f) (hi := t + 1) (n := t + 1) (by omega) (by omega) (by omega) (by omega), sm_z0 (f := dI (DD f (t + 1) (decS C p f t thr))) (fun i _ _ => bI_f (hno i))], (setI M 40 46 0 0 0), Ag.rf _, hm.up hno (by omega) (by omega)⟩⟩)
                · skip
                  refine g_iload X dX12_scratch_200 rfl rfl ?_
                  refine g_ifB_eq (tgt := 282) X dX12_scratch_202 rfl rfl (fun h202 => ?_) (fun h202 => ?_)
                  · skip
                    refine g_iload X dX12_scratch_282 rfl rfl ?_
                    first
                        | (have ek : k = t + 1 := by omega
                           have hm2 := hm
                           rw [ek] at hm2
                           exact g_ret Y dX12_scratch_284 ⟨_, rfl⟩ ⟨rfl, Or.inr ⟨w0, by rw [ha, ek, smDD (dec := decS C p f t thr) (lo := f) (hi := t + 1) (n := t + 1) (by omega) (by omega) (by omega) (by omega)], (setI M 40 46 0 0 0), Ag.rf _, hm2⟩⟩)
                        | (have hno : ∀ i, ¬ (DD f (t + 1) (decS C p f t thr)) i := fun i q => absurd (scA_all.mpr q.2.2.1) (by assumption)
                           have e0 : a = 0 := by rw [ha]; exact sm_z0 (fun i _ _ => bI_f (hno i))
                           exact g_ret Y dX12_scratch_284 ⟨_, rfl⟩ ⟨rfl, Or.inr ⟨w0, by rw [e0, ← smDD (dec := decS C p f t thr) (lo := f) (hi := t + 1) (n := t + 1) (by omega) (by omega) (by omega) (by omega), sm_z0 (f := dI (DD f (t + 1) (decS C p f t thr))) (fun i _ _ => bI_f (hno i))], (setI M 40 46 0 0 0), Ag.rf _, hm.up hno (by omega) (by omega)⟩⟩)
                  · skip
                    have hall : scrAll C p f t thr := scA_all.mp (by assumption)
                    have en : (M2.2 71 0 0 k) = (C.2 31 4 k 0) := by rw [hm.2.2.1 k (by omega) (by omega), cif_f (fun q => by omega)]
                    have fk := Ag.fre hE2 hm.1 k
                    have ps := sm_s (dI (DD f (t + 1) (decS C p f t thr))) (lo := 0) (hi := k) (by omega)
                    have sb := smD0 (DD f (t + 1) (decS C p f t thr)) (n := k) (by omega)
                    have q1_ := pt_b (M2.2 71 0 0 k) (p - 1)
                    have q2_ := pt_b (M2.2 71 0 0 k) (p + 1)
                    have td := tdiv_b (a := pt (M2.2 71 0 0 k) (p - 1) + pt (M2.2 71 0 0 k) (p + 1)) (b := 2) (by omega) (by decide)
                    refine g_aload_n X dX12_scratch_205 rfl rfl ?_
                    refine g_aload_n X dX12_scratch_206 rfl rfl ?_
                    refine g_get X ci12 (n40 hN) (en40 _ _ _ _) (by decide) fl_X12_108 rfl dX12_scratch_207 rfl ?_
                    refine g_iload X dX12_scratch_210 rfl rfl ?_
                    refine g_lald X dX12_scratch_212 rfl (n71 hN) (en71 _ _ _ _) (t0 := 1) rfl (by omega) (by omega) (by decide) ?_
                    refine g_iload_n X dX12_scratch_213 rfl rfl ?_
                    refine g_iconst X dX12_scratch_214 rfl ?_
                    refine g_isub X dX12_scratch_215 rfl ?_
                    refine g_iV2_v X w_X12_point ml_X12_150 dX12_scratch_216 rfl (n40 hN) (en40 _ _ _ _) ⟨⟨Nat.le_of_ble_eq_true rfl, Nat.le_of_ble_eq_true rfl⟩, Nat.le_of_ble_eq_true rfl, Nat.le_of_ble_eq_true rfl⟩ (Nat.le_of_ble_eq_true rfl) (c_X12_point hN) ?_
                    refine g_aload_n X dX12_scratch_219 rfl rfl ?_
                    refine g_aload_n X dX12_scratch_220 rfl rfl ?_
                    refine g_get X ci12 (n40 hN) (en40 _ _ _ _) (by decide) fl_X12_108 rfl dX12_scratch_221 rfl ?_
                    refine g_iload X dX12_scratch_224 rfl rfl ?_
                    refine g_lald X dX12_scratch_226 rfl (n71 hN) (en71 _ _ _ _) (t0 := 1) rfl (by omega) (by omega) (by decide) ?_
                    refine g_iload_n X dX12_scratch_227 rfl rfl ?_
                    refine g_iconst X dX12_scratch_228 rfl ?_
                    refine g_iadd X dX12_scratch_229 rfl ?_
                    refine g_iV2_v X w_X12_point ml_X12_150 dX12_scratch_230 rfl (n40 hN) (en40 _ _ _ _) ⟨⟨Nat.le_of_ble_eq_true rfl, Nat.le_of_ble_eq_true rfl⟩, Nat.le_of_ble_eq_true rfl, Nat.le_of_ble_eq_true rfl⟩ (Nat.le_of_ble_eq_true rfl) (c_X12_point hN) ?_
                    refine g_iadd X dX12_scratch_233 rfl ?_
                    refine g_iconst X dX12_scratch_234 rfl ?_
                    refine g_idiv X dX12_scratch_235 rfl (by omega) (by omega) (by omega) (by omega) ?_
                    refine g_istore_10 X dX12_scratch_236 rfl (lt_kN hNL rfl) rfl ?_
                    refine g_iload X dX12_scratch_238 rfl rfl ?_
                    refine g_aload_n X dX12_scratch_240 rfl rfl ?_
                    refine g_iload X dX12_scratch_241 rfl rfl ?_
                    refine g_iV1_v X w_X12_isFree ml_X12_258 dX12_scratch_243 rfl (n40 hN) (en40 _ _ _ _) ⟨⟨Nat.le_of_ble_eq_true rfl, Nat.le_of_ble_eq_true rfl⟩, Nat.le_of_ble_eq_true rfl, Nat.le_of_ble_eq_true rfl⟩ (Nat.le_of_ble_eq_true rfl) (c_X12_isFree hN (by omega) (by have := hm.1.i 40 39 0 0 rfl; have z : (((setI M 40 46 0 0 0)).1 40 39 0 0) = (M.1 40 39 0 0) := rfl; omega)) ?_
                    refine g_ifB_eq (tgt := 272) X dX12_scratch_246 rfl rfl (fun h246 => ?_) (fun h246 => ?_)
                    · skip
                      refine g_iconst X dX12_scratch_272 rfl ?_
                      have hD : ¬ (DD f (t + 1) (decS C p f t thr)) k := by
                        intro q
                        exact absurd (fk.mpr ⟨by omega, q.2.2.2.1⟩) (by assumption)
                      have hM3 := hm.no (by omega) hD
                      have hs : a + 0 = sm (dI (DD f (t + 1) (decS C p f t thr))) 0 (k + 1) := by rw [ps, ha]; exact congrArg _ (bI_f hD).symm
                      refine g_iadd X dX12_scratch_273 rfl ?_
                      refine g_istore_8 X dX12_scratch_274 rfl (lt_kN hNL rfl) rfl ?_
                      refine g_iinc_9 X dX12_scratch_276 rfl (lt_kN hNL rfl) rfl ?_
                      refine g_goto (pc' := 194) X dX12_scratch_279 rfl ?_
                      refine g_drop_10 ?_
                      exact ih194 _ (k + 1) _ (by omega) (by omega) (by omega) hs hM3
                    · skip
                      have hB : freM M2 k := by assumption
                      have f1 := fk.mp hB
                      have hx : ptSet (M2.2 71 0 0 k) p ((pt (M2.2 71 0 0 k) (p - 1) + pt (M2.2 71 0 0 k) (p + 1)).tdiv 2) = (mvS C p) k := by unfold mvS; rw [en]
                      have hD : (DD f (t + 1) (decS C p f t thr)) k ↔ chgM M2 k (ptSet (M2.2 71 0 0 k) p ((pt (M2.2 71 0 0 k) (p - 1) + pt (M2.2 71 0 0 k) (p + 1)).tdiv 2)) := by
                        rw [hm.chg hE2 (by omega) (by omega)]
                        unfold DD decS
                        rw [hx]
                        constructor
                        · intro q; exact q.2.2.2.2
                        · intro q; exact ⟨by omega, by omega, hall, f1.2, q⟩
                      refine g_aload_n X dX12_scratch_249 rfl rfl ?_
                      refine g_iload X dX12_scratch_250 rfl rfl ?_
                      refine g_aload_n X dX12_scratch_252 rfl rfl ?_
                      refine g_aload_n X dX12_scratch_253 rfl rfl ?_
                      refine g_get X ci12 (n40 hN) (en40 _ _ _ _) (by decide) fl_X12_108 rfl dX12_scratch_254 rfl ?_
                      refine g_iload X dX12_scratch_257 rfl rfl ?_
                      refine g_lald X dX12_scratch_259 rfl (n71 hN) (en71 _ _ _ _) (t0 := 1) rfl (by omega) (by omega) (by decide) ?_
                      refine g_iload_n X dX12_scratch_260 rfl rfl ?_
                      refine g_iload X dX12_scratch_261 rfl rfl ?_
                      refine g_iV3_v X w_X12_set ml_X12_271 dX12_scratch_263 rfl (n40 hN) (en40 _ _ _ _) ⟨⟨Nat.le_of_ble_eq_true rfl, Nat.le_of_ble_eq_true rfl⟩, Nat.le_of_ble_eq_true rfl, Nat.le_of_ble_eq_true rfl⟩ (Nat.le_of_ble_eq_true rfl) (c_X12_set hN) ?_
                      refine g_iV2 X w_X12_changes ml_X12_285 dX12_scratch_266 rfl (n40 hN) (en40 _ _ _ _) ⟨⟨Nat.le_of_ble_eq_true rfl, Nat.le_of_ble_eq_true rfl⟩, Nat.le_of_ble_eq_true rfl, Nat.le_of_ble_eq_true rfl⟩ (Nat.le_of_ble_eq_true rfl) (c_X12_changes hN (by omega) (by rw [hm.2.1]; omega)) (fun v266 ad266 Mc266 hc266 => ?_)
                      obtain ⟨ha266, hv266, hm266⟩ := hc266
                      have ha2 := ha266.symm
                      subst hv266
                      subst ha2
                      refine g_goto (pc' := 273) X dX12_scratch_269 rfl ?_
                      have hM3 : MdM (DD f (t + 1) (decS C p f t thr)) (mvS C p) (k + 1) C (setI M 40 46 0 0 0) Mc266 := by
                        rw [hm266]
                        by_cases q : chgM M2 k (ptSet (M2.2 71 0 0 k) p ((pt (M2.2 71 0 0 k) (p - 1) + pt (M2.2 71 0 0 k) (p + 1)).tdiv 2))
                        · rw [cif_t q, hx]
                          exact hm.yes (by omega) (by omega) (hD.mpr q)
                        · rw [cif_f q]
                          exact hm.no (by omega) (fun y => q (hD.mp y))
                      have hs : a + bI (chgM M2 k (ptSet (M2.2 71 0 0 k) p ((pt (M2.2 71 0 0 k) (p - 1) + pt (M2.2 71 0 0 k) (p + 1)).tdiv 2))) = sm (dI (DD f (t + 1) (decS C p f t thr))) 0 (k + 1) := by rw [ps, ha]; exact congrArg _ (bI_c hD.symm)
                      refine g_iadd X dX12_scratch_273 rfl ?_
                      refine g_istore_8 X dX12_scratch_274 rfl (lt_kN hNL rfl) rfl ?_
                      refine g_iinc_9 X dX12_scratch_276 rfl (lt_kN hNL rfl) rfl ?_
                      refine g_goto (pc' := 194) X dX12_scratch_279 rfl ?_
                      refine g_drop_10 ?_
                      exact ih194 _ (k + 1) _ (by omega) (by omega) (by omega) hs hM3
              exact lp194 0 f _ (by omega) (by omega) (by rw [sm_z0]; intro i i0 i1; exact bI_f (fun q => by have := q.1; omega)) (MdM.z hE2 hK2 (fun i h1 h2 q => by have := q.1; omega))
            · skip
              have me := hE2.me k (by omega) (by omega)
              have en := me.2.2.2.2.1
              have fk := Ag.fre hE2 (Ag.rf (setI M 40 46 0 0 0)) k
              have q1_ := pt_b (C.2 31 4 k 0) (p - 1)
              have q2_ := pt_b (C.2 31 4 k 0) (p + 1)
              have q3_ := pt_b (C.2 31 4 k 0) p
              refine g_aload_n X dX12_scratch_99 rfl rfl ?_
              refine g_aload_n X dX12_scratch_100 rfl rfl ?_
              refine g_get X ci12 (n40 hN) (en40 _ _ _ _) (by decide) fl_X12_108 rfl dX12_scratch_101 rfl ?_
              refine g_iload X dX12_scratch_104 rfl rfl ?_
              refine g_lald X dX12_scratch_106 rfl (n71 hN) (en71 _ _ _ _) (t0 := 1) rfl (by omega) (by omega) (by decide) ?_
              refine g_iload_n X dX12_scratch_107 rfl rfl ?_
              refine g_iconst X dX12_scratch_108 rfl ?_
              refine g_isub X dX12_scratch_109 rfl ?_
              refine g_iV2_v X w_X12_point ml_X12_150 dX12_scratch_110 rfl (n40 hN) (en40 _ _ _ _) ⟨⟨Nat.le_of_ble_eq_true rfl, Nat.le_of_ble_eq_true rfl⟩, Nat.le_of_ble_eq_true rfl, Nat.le_of_ble_eq_true rfl⟩ (Nat.le_of_ble_eq_true rfl) (c_X12_point hN) ?_
              refine g_int (b := pt (C.2 31 4 k 0) (p - 1)) (congrArg (fun z => pt z (p - 1)) en) ?_
              refine g_istore_9 X dX12_scratch_113 rfl (lt_kN hNL rfl) rfl ?_
              refine g_aload_n X dX12_scratch_115 rfl rfl ?_
              refine g_aload_n X dX12_scratch_116 rfl rfl ?_
              refine g_get X ci12 (n40 hN) (en40 _ _ _ _) (by decide) fl_X12_108 rfl dX12_scratch_117 rfl ?_
              refine g_iload X dX12_scratch_120 rfl rfl ?_
              refine g_lald X dX12_scratch_122 rfl (n71 hN) (en71 _ _ _ _) (t0 := 1) rfl (by omega) (by omega) (by decide) ?_
              refine g_iload_n X dX12_scratch_123 rfl rfl ?_
              refine g_iconst X dX12_scratch_124 rfl ?_
              refine g_iadd X dX12_scratch_125 rfl ?_
              refine g_iV2_v X w_X12_point ml_X12_150 dX12_scratch_126 rfl (n40 hN) (en40 _ _ _ _) ⟨⟨Nat.le_of_ble_eq_true rfl, Nat.le_of_ble_eq_true rfl⟩, Nat.le_of_ble_eq_true rfl, Nat.le_of_ble_eq_true rfl⟩ (Nat.le_of_ble_eq_true rfl) (c_X12_point hN) ?_
              refine g_int (b := pt (C.2 31 4 k 0) (p + 1)) (congrArg (fun z => pt z (p + 1)) en) ?_
              refine g_istore_10 X dX12_scratch_129 rfl (lt_kN hNL rfl) rfl ?_
              refine g_iload X dX12_scratch_131 rfl rfl ?_
              refine g_cutB 179 (mayB C k → scrP (C.2 31 4 k 0) p thr) (fun ct133 cf133 => ?_) ?_
              · skip
                refine g_aload_n X dX12_scratch_133 rfl rfl ?_
                refine g_iload X dX12_scratch_134 rfl rfl ?_
                refine g_iV1_v X w_X12_isFree ml_X12_258 dX12_scratch_136 rfl (n40 hN) (en40 _ _ _ _) ⟨⟨Nat.le_of_ble_eq_true rfl, Nat.le_of_ble_eq_true rfl⟩, Nat.le_of_ble_eq_true rfl, Nat.le_of_ble_eq_true rfl⟩ (Nat.le_of_ble_eq_true rfl) (c_X12_isFree hN (by omega) (by show 0 ≤ (M.1 40 39 0 0) ∧ (M.1 40 39 0 0) ≤ 120; omega)) ?_
                refine g_ifB_eq (tgt := 174) X dX12_scratch_139 rfl rfl (fun h139 => ?_) (fun h139 => ?_)
                · skip
                  refine g_iconst X dX12_scratch_174 rfl ?_
                  refine g_goto (pc' := 179) X dX12_scratch_175 rfl ?_
                  exact ct133 (by first
                    | (intro _; unfold scrP maxI; omega)
                    | (intro y; exact absurd (fk.mpr ⟨by omega, y⟩) (by assumption)))
                · skip
                  refine g_aload_n X dX12_scratch_142 rfl rfl ?_
                  refine g_aload_n X dX12_scratch_143 rfl rfl ?_
                  refine g_get X ci12 (n40 hN) (en40 _ _ _ _) (by decide) fl_X12_108 rfl dX12_scratch_144 rfl ?_
                  refine g_iload X dX12_scratch_147 rfl rfl ?_
                  refine g_lald X dX12_scratch_149 rfl (n71 hN) (en71 _ _ _ _) (t0 := 1) rfl (by omega) (by omega) (by decide) ?_
                  refine g_iload_n X dX12_scratch_150 rfl rfl ?_
                  refine g_iV2_v X w_X12_point ml_X12_150 dX12_scratch_151 rfl (n40 hN) (en40 _ _ _ _) ⟨⟨Nat.le_of_ble_eq_true rfl, Nat.le_of_ble_eq_true rfl⟩, Nat.le_of_ble_eq_true rfl, Nat.le_of_ble_eq_true rfl⟩ (Nat.le_of_ble_eq_true rfl) (c_X12_point hN) ?_
                  refine g_int (b := pt (C.2 31 4 k 0) p) (congrArg (fun z => pt z p) en) ?_
                  refine g_cutI 168 (if pt (C.2 31 4 k 0) (p + 1) < pt (C.2 31 4 k 0) (p - 1) then pt (C.2 31 4 k 0) (p - 1) else pt (C.2 31 4 k 0) (p + 1)) (fun ci154 => ?_) ?_
                  · skip
                    refine g_iload X dX12_scratch_154 rfl rfl ?_
                    refine g_iload X dX12_scratch_156 rfl rfl ?_
                    refine g_icmp_le (tgt := 166) X dX12_scratch_158 rfl rfl (by omega) (by omega) (fun h158 => ?_) (fun h158 => ?_)
                    · skip
                      refine g_iload X dX12_scratch_166 rfl rfl ?_
                      exact ci154 _ (by omega)
                    · skip
                      refine g_iload X dX12_scratch_161 rfl rfl ?_
                      refine g_goto (pc' := 168) X dX12_scratch_163 rfl ?_
                      exact ci154 _ (by omega)
                  · skip
                    refine g_iload X dX12_scratch_168 rfl rfl ?_
                    refine g_iadd X dX12_scratch_170 rfl ?_
                    refine g_icmp_le (tgt := 178) X dX12_scratch_171 rfl rfl (by omega) (by omega) (fun h171 => ?_) (fun h171 => ?_)
                    · skip
                      refine g_iconst X dX12_scratch_178 rfl ?_
                      exact cf133 (by intro y; have q := y (fk.mp (by assumption)).2; unfold scrP maxI at q; omega)
                    · skip
                      refine g_iconst X dX12_scratch_174 rfl ?_
                      refine g_goto (pc' := 179) X dX12_scratch_175 rfl ?_
                      exact ct133 (by first
                        | (intro _; unfold scrP maxI; omega)
                        | (intro y; exact absurd (fk.mpr ⟨by omega, y⟩) (by assumption)))
              · skip
                refine g_iand X dX12_scratch_179 rfl (bI_and _ _) ?_
                refine g_istore_7 X dX12_scratch_180 rfl (lt_kN hNL rfl) rfl ?_
                refine g_iinc_8 X dX12_scratch_182 rfl (lt_kN hNL rfl) rfl ?_
                refine g_goto (pc' := 93) X dX12_scratch_185 rfl ?_
                refine g_drop_9 ?_
                refine g_drop_10 ?_
                rw [bI_c (show (scA C p f k thr ∧ (mayB C k → scrP (C.2 31 4 k 0) p thr)) ↔ scA C p f (k + 1) thr from ⟨fun q g g0 g1 => by
                  by_cases e : g = k
                  · rw [e]; exact q.2
                  · exact q.1 g g0 (by omega), fun q => ⟨fun g g0 g1 => q g g0 (by omega), q k k0 (by omega)⟩⟩)]
                exact ih93 (k + 1) (by omega) (by omega) (by omega)
          exact lp93 f (by omega) (by omega)
        · skip
          refine g_iconst X dX12_scratch_85 rfl ?_
          exact g_ret Y dX12_scratch_86 ⟨_, rfl⟩ (pRx (by assumption))
