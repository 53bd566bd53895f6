theorem RelR.th {C M : Mem} {z : Int} (h : RelR C M) : RelR C (setI M 40 46 0 0 z) := h.ag (Ag.rf C) ((Ag.rf M).setI rfl)
theorem RelV.th {C M : Mem} {n : Int} {z : Int} (h : RelV n C M) : RelV n C (setI M 40 46 0 0 z) := h.ag (Ag.rf C) ((Ag.rf M).setI rfl)
theorem RelZ.th {C M : Mem} {z : Int} (h : RelZ C M) : RelZ C (setI M 40 46 0 0 z) := h.ag (Ag.rf C) ((Ag.rf M).setI rfl)
theorem RelH.th {C M : Mem} {z : Int} (h : RelH C M) : RelH C (setI M 40 46 0 0 z) := h.ag (Ag.rf C) ((Ag.rf M).setI rfl)
theorem RelE.th {C M : Mem} {z : Int} (h : RelE C M) : RelE C (setI M 40 46 0 0 z) := h.ag (Ag.rf C) ((Ag.rf M).setI rfl)
theorem RelK.th {C M : Mem} {n : Int} {z : Int} (h : RelK n C M) : RelK n C (setI M 40 46 0 0 z) := h.ag (Ag.rf C) ((Ag.rf M).setI rfl)
def misP (C : Mem) (r c : Int) : Prop := ((C.1 16 8 r 0) < c ∧ c < (C.1 16 9 r 0)) ∧ (C.1 20 0 r c) = -1
noncomputable def cntA (M : Mem) (K : Nat) : Int := sm (fun c => bI (M.1 K 0 0 c ≠ 0)) 0 1000
def Wi (M : Mem) (c : Int) : Prop := ∀ d, 0 ≤ d → d < c → (M.1 79 0 0 d) ≠ 0 → (M.1 78 0 0 d) ≠ 0
theorem bI_or (A B : Prop) : iI (bI A) ||| iI (bI B) = iI (bI (A ∨ B)) := by
  by_cases a : A
  · rw [bI_t a, bI_t (Or.inl a)]
    by_cases b : B
    · rw [bI_t b]; decide
    · rw [bI_f b]; decide
  · rw [bI_f a]
    by_cases b : B
    · rw [bI_t b, bI_t (Or.inr b)]; decide
    · rw [bI_f b, bI_f (fun q => q.elim a b)]; decide
theorem bI_and (A B : Prop) : iI (bI A) &&& iI (bI B) = iI (bI (A ∧ B)) := by
  by_cases a : A
  · rw [bI_t a]
    by_cases b : B
    · rw [bI_t b, bI_t ⟨a, b⟩]; decide
    · rw [bI_f b, bI_f (fun q => b q.2)]; decide
  · rw [bI_f a, bI_f (P := A ∧ B) (fun q => a q.1)]
    by_cases b : B
    · rw [bI_t b]; decide
    · rw [bI_f b]; decide
/-- a sum whose terms are zero outside a part is the part's -/
theorem bI_ne {P : Prop} : bI P ≠ 0 ↔ P := ⟨fun h => Classical.byContradiction fun q => h (bI_f q), fun h => by rw [bI_t h]; decide⟩
theorem sm_part {f : Int → Int} {lo a b hi : Int} (h1 : lo ≤ a) (h2 : b ≤ hi) (hab : lo ≤ b) (hah : a ≤ hi) (hf : ∀ k, lo ≤ k → k < hi → ¬ (a ≤ k ∧ k < b) → f k = 0) : sm f lo hi = sm f a b := by
  rcases Int.lt_or_le a b with q | q
  · rw [sm_app f h1 hah, sm_app f (Int.le_of_lt q) h2, sm_z0 (lo := lo) (hi := a) (fun k k0 k1 => hf k k0 (by omega) (by omega)), sm_z0 (lo := b) (hi := hi) (fun k k0 k1 => hf k (by omega) k1 (by omega))]
    omega
  · rw [sm_0 f q]
    exact sm_z0 (fun k k0 k1 => hf k k0 k1 (by omega))
theorem first_none {C : Mem} {r c : Int} (hd : RD C r) (c0 : 0 ≤ c) (c1 : c ≤ 999) : (C.1 20 0 r c) = -1 ↔ ∀ j, 0 ≤ j → j < (C.1 16 6 r 0) → (C.1 17 0 r j) ≠ c := by
  rcases hd.ft c c0 c1 with ⟨h1, h2⟩ | ⟨h1, h2, h3, -⟩
  · exact ⟨fun _ => h2, fun _ => h1⟩
  · exact ⟨fun q => by omega, fun q => absurd h3 (q _ h1 h2)⟩
theorem first_ends {C : Mem} {r : Int} (hd : RD C r) (h : (C.1 16 8 r 0) ≤ (C.1 16 9 r 0)) : (C.1 20 0 r ((C.1 16 8 r 0))) ≠ -1 ∧ (C.1 20 0 r ((C.1 16 9 r 0))) ≠ -1 := by
  have fb := hd.fc
  have lg := hd.lg
  have hp : 0 < (C.1 16 6 r 0) := by
    rcases Int.lt_or_le 0 (C.1 16 6 r 0) with q | q
    · exact q
    · have := hd.em (by omega)
      omega
  obtain ⟨⟨j, j0, j1, j2⟩, ⟨k, k0, k1, k2⟩⟩ := hd.at_ hp
  have a1 := hd.cd j j0 j1
  have a2 := hd.cd k k0 k1
  exact ⟨fun q => (first_none hd (by omega) (by omega)).mp q j j0 j1 j2, fun q => (first_none hd (by omega) (by omega)).mp q k k0 k1 k2⟩
theorem isF_in {C : Mem} {r c : Int} (hd : RD C r) (c0 : 0 ≤ c) (c1 : c ≤ 999) (h : isF C r c) : (C.1 16 8 r 0) ≤ c ∧ c ≤ (C.1 16 9 r 0) := by
  rcases h with h | h
  · obtain ⟨j, j0, j1, -, j2⟩ := (hd.sc c c0 c1).mp h
    have := hd.lb j j0 j1
    omega
  · omega
theorem cnt_missing {C M : Mem} {r : Int} {K : Nat} (hd : RD C r) (h : ∀ c, 0 ≤ c → c < 1000 → M.1 K 0 0 c = bI (misP C r c)) : cntA M K = missing C r := by
  have lg := hd.lg
  have e1 : cntA M K = sm (fun c => bI (misP C r c)) 0 1000 := by
    unfold cntA
    refine sm_c (fun k k0 k1 => ?_)
    show bI _ = _
    rw [h k k0 k1]
    exact bI_c bI_ne
  rw [e1, sm_part (a := (C.1 16 8 r 0)) (b := (C.1 16 9 r 0) + 1) lg.1.1 (by omega) (by omega) lg.1.2 (fun k k0 k1 hk => bI_f (fun q => by have := q.1; omega))]
  unfold missing
  refine sm_c (fun k k0 k1 => ?_)
  unfold mterm
  refine bI_c ⟨fun q => q.2, fun q => ⟨?_, q⟩⟩
  obtain ⟨f1, f2⟩ := first_ends hd (by omega)
  constructor
  · rcases Int.lt_or_eq_of_le k0 with z | z
    · exact z
    · exact absurd (by rw [z]; exact q) f1
  · rcases Int.lt_or_eq_of_le (show k ≤ (C.1 16 9 r 0) by omega) with z | z
    · exact z
    · exact absurd (by rw [← z]; exact q) f2
theorem cnt_faults {C M : Mem} {r : Int} {K : Nat} (hd : RD C r) (h : ∀ c, 0 ≤ c → c < 1000 → M.1 K 0 0 c = bI (isF C r c)) : cntA M K = faults C r := by
  have lg := hd.lg
  have e1 : cntA M K = sm (fun c => bI (isF C r c)) 0 1000 := by
    unfold cntA
    refine sm_c (fun k k0 k1 => ?_)
    show bI _ = _
    rw [h k k0 k1]
    exact bI_c bI_ne
  rw [e1, sm_part (a := (C.1 16 8 r 0)) (b := (C.1 16 9 r 0) + 1) lg.1.1 (by omega) (by omega) lg.1.2 (fun k k0 k1 hk => bI_f (fun q => by have := isF_in hd k0 (by omega) q; omega))]
  rfl
theorem wi_has {C M : Mem} {r p : Int} (hd : RD C r) (hp : RD C p) (h1 : ∀ c, 0 ≤ c → c < 1000 → (M.1 78 0 0 c) = bI (isF C r c)) (h2 : ∀ c, 0 ≤ c → c < 1000 → (M.1 79 0 0 c) = bI (isF C p c)) : Wi M 1000 ↔ hasFs C r p := by
  have lg := hp.lg
  constructor
  · intro h c c0 c1 hc
    have q := h c (by omega) (by omega) (by rw [h2 c (by omega) (by omega)]; exact bI_ne.mpr hc)
    rw [h1 c (by omega) (by omega)] at q
    exact bI_ne.mp q
  · intro h c c0 c1 hc
    rw [h2 c c0 c1] at hc
    have hF := bI_ne.mp hc
    have b := isF_in hp c0 (by omega) hF
    rw [h1 c c0 c1]
    exact bI_ne.mpr (h c b.1 b.2 hF)
theorem faultsB {C : Mem} {i : Int} (hd : RD C i) : 0 ≤ faults C i ∧ faults C i ≤ 1000 := faults_b C i hd.lg.1.1 hd.lg.2.2
set_option maxRecDepth 100000 in
set_option maxHeartbeats 4000000 in
theorem c_X12_jumps {δ : Dx} {nm : List (Nat × Int)} {ad : Ad} {M : Mem} {C : Mem} {r : Int} (hN : NmOk nm) (hR : RelR C M) (r0 : 0 ≤ r) (q1 : r < (C.1 0 1 0 0)) : Ct δ md_X12_jumps 0 0 nm ad M [.ref (ad 40 0), .int (iI r)] (pV (.int (iI (jumps C r))) ad M) := by
  refine Ct_of (ins := .ireturn) (ok := okI) [some (.ref (ad 40 0)), some (.int (iI r)), none, none] (by decide +kernel) rfl (Nat.le_of_ble_eq_true rfl) (fun κ s hs X hr hQ hδ => endI rfl hs X hr hQ hδ) (fun κ X hNL hδ Y => ?_)
  refine g_rm (fun hM => ?_)
  have rc := hR.rc
  have hd := hR.rd r r0 q1
  have fb := hd.fc
  have mi := hR.mi r r0 q1
  refine g_iconst X dX12_jumps_0 rfl ?_
  refine g_istore_2 X dX12_jumps_1 rfl (lt_kN hNL rfl) rfl ?_
  refine g_iconst X dX12_jumps_2 rfl ?_
  refine g_istore_3 X dX12_jumps_3 rfl (lt_kN hNL rfl) rfl ?_
  have lp4 : ∀ (a : Int) (k : Int) (k0 : 1 ≤ k) (k1 : k ≤ (C.1 16 6 r 0) ∨ k = 1) (ha : a = sm (jterm C r) 1 k), G κ nm ad M 4 [some (.ref (ad 40 0)), some (.int (iI r)), some (.int (iI a)), some (.int (iI k))] [] 0 0 := by
    refine ind2 (fun a k => (60 - k).toNat) ?_
    intro a k ih4 k0 k1 ha
    refine g_rm (fun hM4 => ?_)
    have pb := sm_b1 (f := jterm C r) (lo := 1) (hi := k) k0 (fun k _ _ => bI_b _)
    have ps := sm_s (jterm C r) (lo := 1) (hi := k) k0
    refine g_iload_n X dX12_jumps_4 rfl rfl ?_
    refine g_aload_n X dX12_jumps_5 rfl rfl ?_
    refine g_get X ci12 (n40 hN) (en40 _ _ _ _) (by decide) fl_X12_28 rfl dX12_jumps_6 rfl ?_
    refine g_iload_n X dX12_jumps_9 rfl rfl ?_
    refine g_iald X dX12_jumps_10 rfl (n47 hN) (en47 _ _ _ _) (t0 := 0) rfl (by omega) (by omega) (by decide) (fun r10 => ?_)
    refine g_icmp_ge (tgt := 57) X dX12_jumps_11 rfl rfl (by omega) (by omega) (fun h11 => ?_) (fun h11 => ?_)
    · skip
      refine g_iload_n X dX12_jumps_57 rfl rfl ?_
      exact g_ret Y dX12_jumps_58 ⟨_, rfl⟩ (pVI (by rw [ha]; unfold jumps; rcases k1 with q | q <;> first | (rw [show k = (C.1 16 6 r 0) by omega]; done) | (rw [q, sm_0 _ (by omega), sm_0 _ (by omega)]; done)))
    · skip
      have f1 := (hR.fr r k r0 q1 (by omega) (by omega)).1
      have f2 := (hR.fr r (k - 1) r0 q1 (by omega) (by omega)).1
      rw [show 60 * r + (k - 1) = 60 * r + k - 1 by omega] at f2
      have d1 := hd.cd k (by omega) (by omega)
      have d2 := hd.cd (k - 1) (by omega) (by omega)
      refine g_iload_n X dX12_jumps_14 rfl rfl ?_
      refine g_cutB 49 ((C.1 17 0 r k) ≠ (C.1 17 0 r (k - 1)) + 1) (fun ct15 cf15 => ?_) ?_
      · skip
        refine g_aload_n X dX12_jumps_15 rfl rfl ?_
        refine g_get X ci12 (n40 hN) (en40 _ _ _ _) (by decide) fl_X12_31 rfl dX12_jumps_16 rfl ?_
        refine g_bipush X dX12_jumps_19 rfl (by decide) ?_
        refine g_iload_n X dX12_jumps_21 rfl rfl ?_
        refine g_imul X dX12_jumps_22 rfl ?_
        refine g_iload_n X dX12_jumps_23 rfl rfl ?_
        refine g_iadd X dX12_jumps_24 rfl ?_
        refine g_iald X dX12_jumps_25 rfl (n48 hN) (en48 _ _ _ _) (t0 := 0) rfl (by omega) (by omega) (by decide) (fun r25 => ?_)
        refine g_aload_n X dX12_jumps_26 rfl rfl ?_
        refine g_get X ci12 (n40 hN) (en40 _ _ _ _) (by decide) fl_X12_31 rfl dX12_jumps_27 rfl ?_
        refine g_bipush X dX12_jumps_30 rfl (by decide) ?_
        refine g_iload_n X dX12_jumps_32 rfl rfl ?_
        refine g_imul X dX12_jumps_33 rfl ?_
        refine g_iload_n X dX12_jumps_34 rfl rfl ?_
        refine g_iadd X dX12_jumps_35 rfl ?_
        refine g_iconst X dX12_jumps_36 rfl ?_
        refine g_isub X dX12_jumps_37 rfl ?_
        refine g_iald X dX12_jumps_38 rfl (n48 hN) (en48 _ _ _ _) (t0 := 0) rfl (by omega) (by omega) (by decide) (fun r38 => ?_)
        refine g_iconst X dX12_jumps_39 rfl ?_
        refine g_iadd X dX12_jumps_40 rfl ?_
        refine g_icmp_eq (tgt := 48) X dX12_jumps_41 rfl rfl (by omega) (by omega) (fun h41 => ?_) (fun h41 => ?_)
        · skip
          refine g_iconst X dX12_jumps_48 rfl ?_
          exact cf15 (by omega)
        · skip
          refine g_iconst X dX12_jumps_44 rfl ?_
          refine g_goto (pc' := 49) X dX12_jumps_45 rfl ?_
          exact ct15 (by omega)
      · skip
        refine g_iadd X dX12_jumps_49 rfl ?_
        refine g_istore_2 X dX12_jumps_50 rfl (lt_kN hNL rfl) rfl ?_
        refine g_iinc_3 X dX12_jumps_51 rfl (lt_kN hNL rfl) rfl ?_
        refine g_goto (pc' := 4) X dX12_jumps_54 rfl ?_
        exact ih4 _ (k + 1) (by omega) (by omega) (by omega) (by rw [ps, ha]; rfl)
  exact lp4 0 1 (by omega) (by omega) (sm_0 _ (by omega)).symm
set_option maxRecDepth 100000 in
set_option maxHeartbeats 4000000 in
theorem c_X12_count_78 {δ : Dx} {nm : List (Nat × Int)} {ad : Ad} {M : Mem} (hN : NmOk nm) : Ct δ md_X12_count 0 0 nm ad M [.ref (ad 40 0), .ref (ad 78 0)] (pV (.int (iI (cntA M 78))) ad M) := by
  refine Ct_of (ins := .ireturn) (ok := okI) [some (.ref (ad 40 0)), some (.ref (ad 78 0)), none, none] (by decide +kernel) rfl (Nat.le_of_ble_eq_true rfl) (fun κ s hs X hr hQ hδ => endI rfl hs X hr hQ hδ) (fun κ X hNL hδ Y => ?_)
  refine g_rm (fun hM => ?_)
  refine g_iconst X dX12_count_0 rfl ?_
  refine g_istore_2 X dX12_count_1 rfl (lt_kN hNL rfl) rfl ?_
  refine g_iconst X dX12_count_2 rfl ?_
  refine g_istore_3 X dX12_count_3 rfl (lt_kN hNL rfl) rfl ?_
  have lp4 : ∀ (a : Int) (c : Int) (c0 : 0 ≤ c) (c1 : c ≤ 1000) (ha : a = sm (fun c => bI (M.1 78 0 0 c ≠ 0)) 0 c), G κ nm ad M 4 [some (.ref (ad 40 0)), some (.ref (ad 78 0)), some (.int (iI a)), some (.int (iI c))] [] 0 0 := by
    refine ind2 (fun a c => (1000 - c).toNat) ?_
    intro a c ih4 c0 c1 ha
    refine g_rm (fun hM4 => ?_)
    have pb := sm_b1 (f := fun c => bI (M.1 78 0 0 c ≠ 0)) (lo := 0) (hi := c) c0 (fun k _ _ => bI_b _)
    have ps := sm_s (fun c => bI (M.1 78 0 0 c ≠ 0)) (lo := 0) (hi := c) c0
    refine g_iload_n X dX12_count_4 rfl rfl ?_
    refine g_sipush X dX12_count_5 rfl (by decide) ?_
    refine g_icmp_ge (tgt := 31) X dX12_count_8 rfl rfl (by omega) (by omega) (fun h8 => ?_) (fun h8 => ?_)
    · skip
      refine g_iload_n X dX12_count_31 rfl rfl ?_
      exact g_ret Y dX12_count_32 ⟨_, rfl⟩ (pVI (by rw [ha, show c = 1000 by omega]; rfl))
    · skip
      refine g_iload_n X dX12_count_11 rfl rfl ?_
      refine g_cutB 23 ((M.1 78 0 0 c) ≠ 0) (fun ct12 cf12 => ?_) ?_
      · skip
        refine g_aload_n X dX12_count_12 rfl rfl ?_
        refine g_iload_n X dX12_count_13 rfl rfl ?_
        refine g_zald X dX12_count_14 rfl (n78 hN) (en78 _ _ _ _) (t0 := 2) rfl (by omega) (by omega) (by decide) (fun r14 => ?_)
        refine g_if_eq (tgt := 22) X dX12_count_15 rfl rfl (by omega) (fun h15 => ?_) (fun h15 => ?_)
        · skip
          refine g_iconst X dX12_count_22 rfl ?_
          exact cf12 (by first | assumption | omega)
        · skip
          refine g_iconst X dX12_count_18 rfl ?_
          refine g_goto (pc' := 23) X dX12_count_19 rfl ?_
          exact ct12 (by first | assumption | omega)
      · skip
        refine g_iadd X dX12_count_23 rfl ?_
        refine g_istore_2 X dX12_count_24 rfl (lt_kN hNL rfl) rfl ?_
        refine g_iinc_3 X dX12_count_25 rfl (lt_kN hNL rfl) rfl ?_
        refine g_goto (pc' := 4) X dX12_count_28 rfl ?_
        exact ih4 _ (c + 1) (by omega) (by omega) (by omega) (by rw [ps, ha])
  exact lp4 0 0 (by omega) (by omega) (sm_0 _ (by omega)).symm
set_option maxRecDepth 100000 in
set_option maxHeartbeats 4000000 in
theorem c_X12_marks_78 {δ : Dx} {nm : List (Nat × Int)} {ad : Ad} {M : Mem} {C : Mem} {r : Int} (hN : NmOk nm) (hR : RelR C M) (r0 : 0 ≤ r) (q1 : r < (C.1 0 1 0 0)) : Ct δ md_X12_marks 0 0 nm ad M [.ref (ad 40 0), .int (iI r), .ref (ad 78 0)] (pGn ad (fun M' => Ex (fun k => k == 78) M M' ∧ ∀ c, 0 ≤ c → c < 1000 → M'.1 78 0 0 c = bI (misP C r c))) := by
  refine Ct_of (ins := .return_) (ok := okN) [some (.ref (ad 40 0)), some (.int (iI r)), some (.ref (ad 78 0)), none, none, none] (by decide +kernel) rfl (Nat.le_of_ble_eq_true rfl) (fun κ s hs X hr hQ hδ => endN rfl hs X hr hQ hδ) (fun κ X hNL hδ Y => ?_)
  refine g_rm (fun hM => ?_)
  have rc := hR.rc
  have hd := hR.rd r r0 q1
  have fb := hd.fc
  have mi := hR.mi r r0 q1
  refine g_sipush X dX12_marks_0 rfl (by decide) ?_
  refine g_istore_3 X dX12_marks_3 rfl (lt_kN hNL rfl) rfl ?_
  refine g_iconst X dX12_marks_4 rfl ?_
  refine g_istore_4 X dX12_marks_5 rfl (lt_kN hNL rfl) rfl ?_
  refine g_bipush X dX12_marks_7 rfl (by decide) ?_
  refine g_iload_n X dX12_marks_9 rfl rfl ?_
  refine g_imul X dX12_marks_10 rfl ?_
  refine g_istore_5 X dX12_marks_11 rfl (lt_kN hNL rfl) rfl ?_
  have lp13 : ∀ (low : Int) (high : Int) (k : Int) (k0 : 60 * r ≤ k) (k1 : k ≤ 60 * r + (C.1 16 6 r 0)) (l0 : 0 ≤ low ∧ low ≤ 1000) (g0 : -1 ≤ high ∧ high ≤ 999) (hl : ∀ j, 0 ≤ j → 60 * r + j < k → low ≤ (C.1 17 0 r j) ∧ (C.1 17 0 r j) ≤ high) (hl2 : low = 1000 ∨ ∃ j, 0 ≤ j ∧ 60 * r + j < k ∧ (C.1 17 0 r j) = low) (hg2 : high = -1 ∨ ∃ j, 0 ≤ j ∧ 60 * r + j < k ∧ (C.1 17 0 r j) = high), G κ nm ad M 13 [some (.ref (ad 40 0)), some (.int (iI r)), some (.ref (ad 78 0)), some (.int (iI low)), some (.int (iI high)), some (.int (iI k))] [] 0 0 := by
    refine ind3 (fun low high k => (60 * r + 60 - k).toNat) ?_
    intro low high k ih13 k0 k1 l0 g0 hl hl2 hg2
    refine g_rm (fun hM13 => ?_)
    refine g_iload X dX12_marks_13 rfl rfl ?_
    refine g_bipush X dX12_marks_15 rfl (by decide) ?_
    refine g_iload_n X dX12_marks_17 rfl rfl ?_
    refine g_imul X dX12_marks_18 rfl ?_
    refine g_aload_n X dX12_marks_19 rfl rfl ?_
    refine g_get X ci12 (n40 hN) (en40 _ _ _ _) (by decide) fl_X12_28 rfl dX12_marks_20 rfl ?_
    refine g_iload_n X dX12_marks_23 rfl rfl ?_
    refine g_iald X dX12_marks_24 rfl (n47 hN) (en47 _ _ _ _) (t0 := 0) rfl (by omega) (by omega) (by decide) (fun r24 => ?_)
    refine g_iadd X dX12_marks_25 rfl ?_
    refine g_icmp_ge (tgt := 84) X dX12_marks_26 rfl rfl (by omega) (by omega) (fun h26 => ?_) (fun h26 => ?_)
    · skip
      have ke : k = 60 * r + (C.1 16 6 r 0) := by omega
      have el : low = (C.1 16 8 r 0) := by
                    by_cases z : (C.1 16 6 r 0) = 0
                    · have := hd.em z
                      rcases hl2 with y | ⟨j, y1, y2, y3⟩
                      · omega
                      · omega
                    · obtain ⟨⟨j, j0, j1, j2⟩, -⟩ := hd.at_ (by omega)
                      have h1 := hl j j0 (by omega)
                      rcases hl2 with y | ⟨i, y1, y2, y3⟩
                      · have := hd.cd j j0 j1
                        omega
                      · have := hd.lb i y1 (by omega)
                        omega
      have eg : high = (C.1 16 9 r 0) := by
                    by_cases z : (C.1 16 6 r 0) = 0
                    · have := hd.em z
                      rcases hg2 with y | ⟨j, y1, y2, y3⟩
                      · omega
                      · omega
                    · obtain ⟨-, ⟨j, j0, j1, j2⟩⟩ := hd.at_ (by omega)
                      have h1 := hl j j0 (by omega)
                      rcases hg2 with y | ⟨i, y1, y2, y3⟩
                      · have := hd.cd j j0 j1
                        omega
                      · have := hd.lb i y1 (by omega)
                        omega
      refine g_iconst X dX12_marks_84 rfl ?_
      refine g_istore_5 X dX12_marks_85 rfl (lt_kN hNL rfl) rfl ?_
      have lp87 : ∀ (c : Int) (M1 : Mem) (c0 : 0 ≤ c) (c1 : c ≤ 1000) (hE1 : Ex (fun k => k == 78) M M1) (hv1 : ∀ d, 0 ≤ d → d < c → M1.1 78 0 0 d = bI (low < d ∧ d < high)), G κ nm ad M1 87 [some (.ref (ad 40 0)), some (.int (iI r)), some (.ref (ad 78 0)), some (.int (iI low)), some (.int (iI high)), some (.int (iI c))] [] 0 0 := by
        refine ind2 (fun c M1 => (1000 - c).toNat) ?_
        intro c M1 ih87 c0 c1 hE1 hv1
        refine g_rm (fun hM87 => ?_)
        refine g_iload X dX12_marks_87 rfl rfl ?_
        refine g_sipush X dX12_marks_89 rfl (by decide) ?_
        refine g_icmp_ge (tgt := 123) X dX12_marks_92 rfl rfl (by omega) (by omega) (fun h92 => ?_) (fun h92 => ?_)
        · skip
          refine g_bipush X dX12_marks_123 rfl (by decide) ?_
          refine g_iload_n X dX12_marks_125 rfl rfl ?_
          refine g_imul X dX12_marks_126 rfl ?_
          refine g_istore_5 X dX12_marks_127 rfl (lt_kN hNL rfl) rfl ?_
          refine g_drop_3 ?_
          refine g_drop_4 ?_
          have lp129 : ∀ (k : Int) (M2 : Mem) (k0 : 60 * r ≤ k) (k1 : k ≤ 60 * r + (C.1 16 6 r 0)) (hE2 : Ex (fun k => k == 78) M M2) (hv2 : ∀ d, 0 ≤ d → d < 1000 → M2.1 78 0 0 d = bI (((C.1 16 8 r 0) < d ∧ d < (C.1 16 9 r 0)) ∧ ∀ j, 0 ≤ j → 60 * r + j < k → (C.1 17 0 r j) ≠ d)), G κ nm ad M2 129 [some (.ref (ad 40 0)), some (.int (iI r)), some (.ref (ad 78 0)), none, none, some (.int (iI k))] [] 0 0 := by
            refine ind2 (fun k M2 => (60 * r + 60 - k).toNat) ?_
            intro k M2 ih129 k0 k1 hE2 hv2
            refine g_rm (fun hM129 => ?_)
            have e47 := hE2.i 47 0 0 r rfl
            have e48 := hE2.i 48 0 0 k rfl
            refine g_iload X dX12_marks_129 rfl rfl ?_
            refine g_bipush X dX12_marks_131 rfl (by decide) ?_
            refine g_iload_n X dX12_marks_133 rfl rfl ?_
            refine g_imul X dX12_marks_134 rfl ?_
            refine g_aload_n X dX12_marks_135 rfl rfl ?_
            refine g_get X ci12 (n40 hN) (en40 _ _ _ _) (by decide) fl_X12_28 rfl dX12_marks_136 rfl ?_
            refine g_iload_n X dX12_marks_139 rfl rfl ?_
            refine g_iald X dX12_marks_140 rfl (n47 hN) (en47 _ _ _ _) (t0 := 0) rfl (by omega) (by omega) (by decide) (fun r140 => ?_)
            refine g_iadd X dX12_marks_141 rfl ?_
            refine g_icmp_ge (tgt := 161) X dX12_marks_142 rfl rfl (by omega) (by omega) (fun h142 => ?_) (fun h142 => ?_)
            · skip
              exact g_retn Y dX12_marks_161 rfl ⟨rfl, rfl, hE2, fun c h0 h1 => (hv2 c h0 h1).trans (bI_c ⟨fun q => ⟨q.1, (first_none hd h0 (by omega)).mpr (fun j j0 j1 => q.2 j j0 (by omega))⟩, fun q => ⟨q.1, fun j j0 j1 => (first_none hd h0 (by omega)).mp q.2 j j0 (by omega)⟩⟩)⟩
            · skip
              have f1 := (hR.fr r (k - 60 * r) r0 q1 (by omega) (by omega)).1
              rw [show 60 * r + (k - 60 * r) = k by omega] at f1
              have d1 := hd.cd (k - 60 * r) (by omega) (by omega)
              refine g_aload_n X dX12_marks_145 rfl rfl ?_
              refine g_aload_n X dX12_marks_146 rfl rfl ?_
              refine g_get X ci12 (n40 hN) (en40 _ _ _ _) (by decide) fl_X12_31 rfl dX12_marks_147 rfl ?_
              refine g_iload X dX12_marks_150 rfl rfl ?_
              refine g_iald X dX12_marks_152 rfl (n48 hN) (en48 _ _ _ _) (t0 := 0) rfl (by omega) (by omega) (by decide) (fun r152 => ?_)
              refine g_iconst X dX12_marks_153 rfl ?_
              refine g_zast X (n78 hN) (en78 _ _ _ _) (en78 _ _ _ _) (t0 := 2) rfl (by omega) (by omega) (by decide) (by first | exact Or.inl rfl | exact Or.inr rfl | omega) dX12_marks_154 rfl ?_
              refine g_iinc_5 X dX12_marks_155 rfl (lt_kN hNL rfl) rfl ?_
              refine g_goto (pc' := 129) X dX12_marks_158 rfl ?_
              exact ih129 (k + 1) _ (by omega) (by omega) (by omega) (hE2.setI rfl) (fun d h1 h2 => by
                            rw [setI_1]
                            by_cases e : d = (C.1 17 0 r (k - 60 * r))
                            · rw [if_pos ⟨rfl, rfl, rfl, by omega⟩, bI_f]
                              exact fun q => q.2 (k - 60 * r) (by omega) (by omega) e.symm
                            · rw [if_neg (by omega), hv2 d h1 h2]
                              refine bI_c ⟨fun q => ⟨q.1, fun j j0 j1 => ?_⟩, fun q => ⟨q.1, fun j j0 j1 => q.2 j j0 (by omega)⟩⟩
                              by_cases z : 60 * r + j = k
                              · rw [show j = k - 60 * r by omega]; exact fun y => e y.symm
                              · exact q.2 j j0 (by omega))
          exact lp129 (60 * r) M1 (by omega) (by omega) hE1 (fun d h1 h2 => by rw [hv1 d h1 (by omega), el, eg]; exact bI_c ⟨fun q => ⟨q, fun j j0 j1 => by omega⟩, fun q => q.1⟩)
        · skip
          refine g_aload_n X dX12_marks_95 rfl rfl ?_
          refine g_iload X dX12_marks_96 rfl rfl ?_
          refine g_cutB 116 (low < c ∧ c < high) (fun ct98 cf98 => ?_) ?_
          · skip
            refine g_iload X dX12_marks_98 rfl rfl ?_
            refine g_iload_n X dX12_marks_100 rfl rfl ?_
            refine g_icmp_le (tgt := 115) X dX12_marks_101 rfl rfl (by omega) (by omega) (fun h101 => ?_) (fun h101 => ?_)
            · skip
              refine g_iconst X dX12_marks_115 rfl ?_
              exact cf98 (by omega)
            · skip
              refine g_iload X dX12_marks_104 rfl rfl ?_
              refine g_iload X dX12_marks_106 rfl rfl ?_
              refine g_icmp_ge (tgt := 115) X dX12_marks_108 rfl rfl (by omega) (by omega) (fun h108 => ?_) (fun h108 => ?_)
              · skip
                refine g_iconst X dX12_marks_115 rfl ?_
                exact cf98 (by omega)
              · skip
                refine g_iconst X dX12_marks_111 rfl ?_
                refine g_goto (pc' := 116) X dX12_marks_112 rfl ?_
                exact ct98 (by omega)
          · skip
            refine g_zast X (n78 hN) (en78 _ _ _ _) (en78 _ _ _ _) (t0 := 2) rfl (by omega) (by omega) (by decide) (bI_01 _) dX12_marks_116 rfl ?_
            refine g_iinc_5 X dX12_marks_117 rfl (lt_kN hNL rfl) rfl ?_
            refine g_goto (pc' := 87) X dX12_marks_120 rfl ?_
            exact ih87 (c + 1) _ (by omega) (by omega) (by omega) (hE1.setI rfl) (fun d h1 h2 => by
                          rw [setI_1]
                          by_cases e : d = c
                          · subst e; rw [if_pos ⟨rfl, rfl, rfl, rfl⟩]
                          · rw [if_neg (by omega)]; exact hv1 d h1 (by omega))
      exact lp87 0 M (by omega) (by omega) (Ex.rf M) (fun d h1 h2 => by omega)
    · skip
      have f1 := (hR.fr r (k - 60 * r) r0 q1 (by omega) (by omega)).1
      rw [show 60 * r + (k - 60 * r) = k by omega] at f1
      have d1 := hd.cd (k - 60 * r) (by omega) (by omega)
      refine g_cutI 51 (if (C.1 17 0 r (k - 60 * r)) < low then (C.1 17 0 r (k - 60 * r)) else low) (fun ci29 => ?_) ?_
      · skip
        have f1 := (hR.fr r (k - 60 * r) r0 q1 (by omega) (by omega)).1
        rw [show 60 * r + (k - 60 * r) = k by omega] at f1
        have d1 := hd.cd (k - 60 * r) (by omega) (by omega)
        refine g_aload_n X dX12_marks_29 rfl rfl ?_
        refine g_get X ci12 (n40 hN) (en40 _ _ _ _) (by decide) fl_X12_31 rfl dX12_marks_30 rfl ?_
        refine g_iload X dX12_marks_33 rfl rfl ?_
        refine g_iald X dX12_marks_35 rfl (n48 hN) (en48 _ _ _ _) (t0 := 0) rfl (by omega) (by omega) (by decide) (fun r35 => ?_)
        refine g_iload_n X dX12_marks_36 rfl rfl ?_
        refine g_icmp_ge (tgt := 50) X dX12_marks_37 rfl rfl (by omega) (by omega) (fun h37 => ?_) (fun h37 => ?_)
        · skip
          refine g_iload_n X dX12_marks_50 rfl rfl ?_
          exact ci29 _ (by omega)
        · skip
          refine g_aload_n X dX12_marks_40 rfl rfl ?_
          refine g_get X ci12 (n40 hN) (en40 _ _ _ _) (by decide) fl_X12_31 rfl dX12_marks_41 rfl ?_
          refine g_iload X dX12_marks_44 rfl rfl ?_
          refine g_iald X dX12_marks_46 rfl (n48 hN) (en48 _ _ _ _) (t0 := 0) rfl (by omega) (by omega) (by decide) (fun r46 => ?_)
          refine g_goto (pc' := 51) X dX12_marks_47 rfl ?_
          exact ci29 _ (by omega)
      · skip
        refine g_istore_3 X dX12_marks_51 rfl (lt_kN hNL rfl) rfl ?_
        refine g_cutI 76 (if high < (C.1 17 0 r (k - 60 * r)) then (C.1 17 0 r (k - 60 * r)) else high) (fun ci52 => ?_) ?_
        · skip
          refine g_aload_n X dX12_marks_52 rfl rfl ?_
          refine g_get X ci12 (n40 hN) (en40 _ _ _ _) (by decide) fl_X12_31 rfl dX12_marks_53 rfl ?_
          refine g_iload X dX12_marks_56 rfl rfl ?_
          refine g_iald X dX12_marks_58 rfl (n48 hN) (en48 _ _ _ _) (t0 := 0) rfl (by omega) (by omega) (by decide) (fun r58 => ?_)
          refine g_iload X dX12_marks_59 rfl rfl ?_
          refine g_icmp_le (tgt := 74) X dX12_marks_61 rfl rfl (by omega) (by omega) (fun h61 => ?_) (fun h61 => ?_)
          · skip
            refine g_iload X dX12_marks_74 rfl rfl ?_
            exact ci52 _ (by omega)
          · skip
            refine g_aload_n X dX12_marks_64 rfl rfl ?_
            refine g_get X ci12 (n40 hN) (en40 _ _ _ _) (by decide) fl_X12_31 rfl dX12_marks_65 rfl ?_
            refine g_iload X dX12_marks_68 rfl rfl ?_
            refine g_iald X dX12_marks_70 rfl (n48 hN) (en48 _ _ _ _) (t0 := 0) rfl (by omega) (by omega) (by decide) (fun r70 => ?_)
            refine g_goto (pc' := 76) X dX12_marks_71 rfl ?_
            exact ci52 _ (by omega)
        · skip
          refine g_istore_4 X dX12_marks_76 rfl (lt_kN hNL rfl) rfl ?_
          refine g_iinc_5 X dX12_marks_78 rfl (lt_kN hNL rfl) rfl ?_
          refine g_goto (pc' := 13) X dX12_marks_81 rfl ?_
          exact ih13 _ _ (k + 1) (by omega) (by omega) (by omega) (by omega) (by omega) (fun j h1 h2 => by
                        by_cases e : 60 * r + j = k
                        · have e2 : j = k - 60 * r := by omega
                          subst e2
                          omega
                        · have := hl j h1 (by omega)
                          omega) (by
                        by_cases e : (C.1 17 0 r (k - 60 * r)) < low
                        · right; exact ⟨k - 60 * r, by omega, by omega, by omega⟩
                        · rcases hl2 with z | ⟨j, z1, z2, z3⟩
                          · left; omega
                          · right; exact ⟨j, z1, by omega, by omega⟩) (by
                        by_cases e : high < (C.1 17 0 r (k - 60 * r))
                        · right; exact ⟨k - 60 * r, by omega, by omega, by omega⟩
                        · rcases hg2 with z | ⟨j, z1, z2, z3⟩
                          · left; omega
                          · right; exact ⟨j, z1, by omega, by omega⟩)
  exact lp13 1000 (-1) (60 * r) (by omega) (by omega) (by omega) (by omega) (fun j h1 h2 => by omega) (Or.inl rfl) (Or.inl rfl)
set_option maxRecDepth 100000 in
set_option maxHeartbeats 4000000 in
theorem c_X12_faulty_78 {δ : Dx} {nm : List (Nat × Int)} {ad : Ad} {M : Mem} {C : Mem} {r : Int} (hN : NmOk nm) (hR : RelR C M) (r0 : 0 ≤ r) (q1 : r < (C.1 0 1 0 0)) : Ct δ md_X12_faulty 0 0 nm ad M [.ref (ad 40 0), .int (iI r), .ref (ad 78 0)] (pGn ad (fun M' => Ex (fun k => k == 78) M M' ∧ ∀ c, 0 ≤ c → c < 1000 → M'.1 78 0 0 c = bI (isF C r c))) := by
  refine Ct_of (ins := .return_) (ok := okN) [some (.ref (ad 40 0)), some (.int (iI r)), some (.ref (ad 78 0)), none] (by decide +kernel) rfl (Nat.le_of_ble_eq_true rfl) (fun κ s hs X hr hQ hδ => endN rfl hs X hr hQ hδ) (fun κ X hNL hδ Y => ?_)
  refine g_rm (fun hM => ?_)
  have rc := hR.rc
  have hd := hR.rd r r0 q1
  have fb := hd.fc
  have mi := hR.mi r r0 q1
  refine g_aload_n X dX12_faulty_0 rfl rfl ?_
  refine g_iload_n X dX12_faulty_1 rfl rfl ?_
  refine g_aload_n X dX12_faulty_2 rfl rfl ?_
  refine g_iV2_gn X w_X12_marks ml_X12_178 dX12_faulty_3 rfl (n40 hN) (en40 _ _ _ _) ⟨⟨Nat.le_of_ble_eq_true rfl, Nat.le_of_ble_eq_true rfl⟩, Nat.le_of_ble_eq_true rfl, Nat.le_of_ble_eq_true rfl⟩ (Nat.le_of_ble_eq_true rfl) (c_X12_marks_78 hN (by first | exact hR | exact hR.th) (by omega) (by omega)) (fun Mc3 hc3 => ?_)
  refine g_rm (fun hMc3 => ?_)
  obtain ⟨hE, hv⟩ := hc3
  refine g_bipush X dX12_faulty_6 rfl (by decide) ?_
  refine g_iload_n X dX12_faulty_8 rfl rfl ?_
  refine g_imul X dX12_faulty_9 rfl ?_
  refine g_istore_3 X dX12_faulty_10 rfl (lt_kN hNL rfl) rfl ?_
  have lp11 : ∀ (k : Int) (M2 : Mem) (k0 : 60 * r ≤ k) (k1 : k ≤ 60 * r + (C.1 16 6 r 0)) (hE2 : Ex (fun k => k == 78) M M2) (hv2 : ∀ d, 0 ≤ d → d < 1000 → M2.1 78 0 0 d = bI (misP C r d ∨ ∃ j, (0 ≤ j ∧ 60 * r + j < k) ∧ (C.1 19 0 r j) ≠ 0 ∧ (C.1 17 0 r j) = d)), G κ nm ad M2 11 [some (.ref (ad 40 0)), some (.int (iI r)), some (.ref (ad 78 0)), some (.int (iI k))] [] 0 0 := by
    refine ind2 (fun k M2 => (60 * r + 60 - k).toNat) ?_
    intro k M2 ih11 k0 k1 hE2 hv2
    refine g_rm (fun hM11 => ?_)
    have e47 := hE2.i 47 0 0 r rfl
    have e48 := hE2.i 48 0 0 k rfl
    have e50 := hE2.i 50 0 0 k rfl
    refine g_iload_n X dX12_faulty_11 rfl rfl ?_
    refine g_bipush X dX12_faulty_12 rfl (by decide) ?_
    refine g_iload_n X dX12_faulty_14 rfl rfl ?_
    refine g_imul X dX12_faulty_15 rfl ?_
    refine g_aload_n X dX12_faulty_16 rfl rfl ?_
    refine g_get X ci12 (n40 hN) (en40 _ _ _ _) (by decide) fl_X12_28 rfl dX12_faulty_17 rfl ?_
    refine g_iload_n X dX12_faulty_20 rfl rfl ?_
    refine g_iald X dX12_faulty_21 rfl (n47 hN) (en47 _ _ _ _) (t0 := 0) rfl (by omega) (by omega) (by decide) (fun r21 => ?_)
    refine g_iadd X dX12_faulty_22 rfl ?_
    refine g_icmp_ge (tgt := 58) X dX12_faulty_23 rfl rfl (by omega) (by omega) (fun h23 => ?_) (fun h23 => ?_)
    · skip
      exact g_retn Y dX12_faulty_58 rfl ⟨rfl, rfl, hE2, fun c h0 h1 => (hv2 c h0 h1).trans (bI_c (by
                unfold isF
                rw [hd.sc c h0 (by omega)]
                constructor
                · rintro (q | ⟨j, j1, j2, j3⟩)
                  · exact Or.inr ⟨q.1.1, q.1.2, q.2⟩
                  · exact Or.inl ⟨j, by omega, by omega, j2, j3⟩
                · rintro (⟨j, j1, j2, j3, j4⟩ | q)
                  · exact Or.inr ⟨j, by omega, j3, j4⟩
                  · exact Or.inl ⟨⟨q.1, q.2.1⟩, q.2.2⟩))⟩
    · skip
      have f1 := (hR.fr r (k - 60 * r) r0 q1 (by omega) (by omega)).1
      have f3 := hR.fs r (k - 60 * r) r0 (by omega) (by omega) (by omega)
      rw [show 60 * r + (k - 60 * r) = k by omega] at f1 f3
      have d1 := hd.cd (k - 60 * r) (by omega) (by omega)
      have s1 := hd.sp (k - 60 * r) (by omega) (by omega)
      refine g_aload_n X dX12_faulty_26 rfl rfl ?_
      refine g_aload_n X dX12_faulty_27 rfl rfl ?_
      refine g_get X ci12 (n40 hN) (en40 _ _ _ _) (by decide) fl_X12_31 rfl dX12_faulty_28 rfl ?_
      refine g_iload_n X dX12_faulty_31 rfl rfl ?_
      refine g_iald X dX12_faulty_32 rfl (n48 hN) (en48 _ _ _ _) (t0 := 0) rfl (by omega) (by omega) (by decide) (fun r32 => ?_)
      refine g_dup2 X dX12_faulty_33 rfl rfl rfl ?_
      refine g_zald X dX12_faulty_34 rfl (n78 hN) (en78 _ _ _ _) (t0 := 2) rfl (by omega) (by omega) (by decide) (fun r34 => ?_)
      refine g_int ((hv2 _ (by omega) (by omega)).trans (congrArg (fun z => bI (misP C r z ∨ ∃ j, (0 ≤ j ∧ 60 * r + j < k) ∧ (C.1 19 0 r j) ≠ 0 ∧ (C.1 17 0 r j) = z)) (show (M2.1 48 0 0 k) = (C.1 17 0 r (k - 60 * r)) by omega))) ?_
      refine g_cutB 50 ((C.1 19 0 r (k - 60 * r)) ≠ 0) (fun ct35 cf35 => ?_) ?_
      · skip
        refine g_aload_n X dX12_faulty_35 rfl rfl ?_
        refine g_get X ci12 (n40 hN) (en40 _ _ _ _) (by decide) fl_X12_38 rfl dX12_faulty_36 rfl ?_
        refine g_iload_n X dX12_faulty_39 rfl rfl ?_
        refine g_iald X dX12_faulty_40 rfl (n50 hN) (en50 _ _ _ _) (t0 := 0) rfl (by omega) (by omega) (by decide) (fun r40 => ?_)
        refine g_iconst X dX12_faulty_41 rfl ?_
        refine g_icmp_ne (tgt := 49) X dX12_faulty_42 rfl rfl (by omega) (by omega) (fun h42 => ?_) (fun h42 => ?_)
        · skip
          refine g_iconst X dX12_faulty_49 rfl ?_
          exact cf35 (by omega)
        · skip
          refine g_iconst X dX12_faulty_45 rfl ?_
          refine g_goto (pc' := 50) X dX12_faulty_46 rfl ?_
          exact ct35 (by omega)
      · skip
        refine g_ior X dX12_faulty_50 rfl (bI_or _ _) ?_
        refine g_zast X (n78 hN) (en78 _ _ _ _) (en78 _ _ _ _) (t0 := 2) rfl (by omega) (by omega) (by decide) (bI_01 _) dX12_faulty_51 rfl ?_
        refine g_iinc_3 X dX12_faulty_52 rfl (lt_kN hNL rfl) rfl ?_
        refine g_goto (pc' := 11) X dX12_faulty_55 rfl ?_
        exact ih11 (k + 1) _ (by omega) (by omega) (by omega) (hE2.setI rfl) (fun d h1 h2 => by
                      rw [setI_1]
                      by_cases e : d = (C.1 17 0 r (k - 60 * r))
                      · rw [if_pos ⟨rfl, rfl, rfl, by omega⟩]
                        refine bI_c ⟨fun q => ?_, fun q => ?_⟩
                        · rcases q with (q | ⟨j, j1, j2, j3⟩) | q
                          · exact Or.inl (by rw [e]; exact q)
                          · exact Or.inr ⟨j, by omega, j2, by rw [e]; exact j3⟩
                          · exact Or.inr ⟨k - 60 * r, by omega, q, e.symm⟩
                        · rcases q with q | ⟨j, j1, j2, j3⟩
                          · exact Or.inl (Or.inl (by rw [← e]; exact q))
                          · by_cases z : 60 * r + j = k
                            · have z2 : j = k - 60 * r := by omega
                              subst z2
                              exact Or.inr j2
                            · exact Or.inl (Or.inr ⟨j, by omega, j2, by rw [← e]; exact j3⟩)
                      · rw [if_neg (by omega), hv2 d h1 h2]
                        refine bI_c ⟨fun q => ?_, fun q => ?_⟩
                        · rcases q with q | ⟨j, j1, j2, j3⟩
                          · exact Or.inl q
                          · exact Or.inr ⟨j, by omega, j2, j3⟩
                        · rcases q with q | ⟨j, j1, j2, j3⟩
                          · exact Or.inl q
                          · refine Or.inr ⟨j, ⟨j1.1, ?_⟩, j2, j3⟩
                            by_cases z : 60 * r + j = k
                            · have z2 : j = k - 60 * r := by omega
                              subst z2
                              exact absurd j3.symm e
                            · omega)
  exact lp11 (60 * r) _ (by omega) (by omega) hE (fun d h1 h2 => (hv d h1 h2).trans (bI_c ⟨Or.inl, fun q => q.elim id (fun ⟨j, y, _⟩ => by omega)⟩))
set_option maxRecDepth 100000 in
set_option maxHeartbeats 4000000 in
theorem c_X12_count_79 {δ : Dx} {nm : List (Nat × Int)} {ad : Ad} {M : Mem} (hN : NmOk nm) : Ct δ md_X12_count 0 0 nm ad M [.ref (ad 40 0), .ref (ad 79 0)] (pV (.int (iI (cntA M 79))) ad M) := by
  refine Ct_of (ins := .ireturn) (ok := okI) [some (.ref (ad 40 0)), some (.ref (ad 79 0)), none, none] (by decide +kernel) rfl (Nat.le_of_ble_eq_true rfl) (fun κ s hs X hr hQ hδ => endI rfl hs X hr hQ hδ) (fun κ X hNL hδ Y => ?_)
  refine g_rm (fun hM => ?_)
  refine g_iconst X dX12_count_0 rfl ?_
  refine g_istore_2 X dX12_count_1 rfl (lt_kN hNL rfl) rfl ?_
  refine g_iconst X dX12_count_2 rfl ?_
  refine g_istore_3 X dX12_count_3 rfl (lt_kN hNL rfl) rfl ?_
  have lp4 : ∀ (a : Int) (c : Int) (c0 : 0 ≤ c) (c1 : c ≤ 1000) (ha : a = sm (fun c => bI (M.1 79 0 0 c ≠ 0)) 0 c), G κ nm ad M 4 [some (.ref (ad 40 0)), some (.ref (ad 79 0)), some (.int (iI a)), some (.int (iI c))] [] 0 0 := by
    refine ind2 (fun a c => (1000 - c).toNat) ?_
    intro a c ih4 c0 c1 ha
    refine g_rm (fun hM4 => ?_)
    have pb := sm_b1 (f := fun c => bI (M.1 79 0 0 c ≠ 0)) (lo := 0) (hi := c) c0 (fun k _ _ => bI_b _)
    have ps := sm_s (fun c => bI (M.1 79 0 0 c ≠ 0)) (lo := 0) (hi := c) c0
    refine g_iload_n X dX12_count_4 rfl rfl ?_
    refine g_sipush X dX12_count_5 rfl (by decide) ?_
    refine g_icmp_ge (tgt := 31) X dX12_count_8 rfl rfl (by omega) (by omega) (fun h8 => ?_) (fun h8 => ?_)
    · skip
      refine g_iload_n X dX12_count_31 rfl rfl ?_
      exact g_ret Y dX12_count_32 ⟨_, rfl⟩ (pVI (by rw [ha, show c = 1000 by omega]; rfl))
    · skip
      refine g_iload_n X dX12_count_11 rfl rfl ?_
      refine g_cutB 23 ((M.1 79 0 0 c) ≠ 0) (fun ct12 cf12 => ?_) ?_
      · skip
        refine g_aload_n X dX12_count_12 rfl rfl ?_
        refine g_iload_n X dX12_count_13 rfl rfl ?_
        refine g_zald X dX12_count_14 rfl (n79 hN) (en79 _ _ _ _) (t0 := 2) rfl (by omega) (by omega) (by decide) (fun r14 => ?_)
        refine g_if_eq (tgt := 22) X dX12_count_15 rfl rfl (by omega) (fun h15 => ?_) (fun h15 => ?_)
        · skip
          refine g_iconst X dX12_count_22 rfl ?_
          exact cf12 (by first | assumption | omega)
        · skip
          refine g_iconst X dX12_count_18 rfl ?_
          refine g_goto (pc' := 23) X dX12_count_19 rfl ?_
          exact ct12 (by first | assumption | omega)
      · skip
        refine g_iadd X dX12_count_23 rfl ?_
        refine g_istore_2 X dX12_count_24 rfl (lt_kN hNL rfl) rfl ?_
        refine g_iinc_3 X dX12_count_25 rfl (lt_kN hNL rfl) rfl ?_
        refine g_goto (pc' := 4) X dX12_count_28 rfl ?_
        exact ih4 _ (c + 1) (by omega) (by omega) (by omega) (by rw [ps, ha])
  exact lp4 0 0 (by omega) (by omega) (sm_0 _ (by omega)).symm
set_option maxRecDepth 100000 in
set_option maxHeartbeats 4000000 in
theorem c_X12_marks_79 {δ : Dx} {nm : List (Nat × Int)} {ad : Ad} {M : Mem} {C : Mem} {r : Int} (hN : NmOk nm) (hR : RelR C M) (r0 : 0 ≤ r) (q1 : r < (C.1 0 1 0 0)) : Ct δ md_X12_marks 0 0 nm ad M [.ref (ad 40 0), .int (iI r), .ref (ad 79 0)] (pGn ad (fun M' => Ex (fun k => k == 79) M M' ∧ ∀ c, 0 ≤ c → c < 1000 → M'.1 79 0 0 c = bI (misP C r c))) := by
  refine Ct_of (ins := .return_) (ok := okN) [some (.ref (ad 40 0)), some (.int (iI r)), some (.ref (ad 79 0)), none, none, none] (by decide +kernel) rfl (Nat.le_of_ble_eq_true rfl) (fun κ s hs X hr hQ hδ => endN rfl hs X hr hQ hδ) (fun κ X hNL hδ Y => ?_)
  refine g_rm (fun hM => ?_)
  have rc := hR.rc
  have hd := hR.rd r r0 q1
  have fb := hd.fc
  have mi := hR.mi r r0 q1
  refine g_sipush X dX12_marks_0 rfl (by decide) ?_
  refine g_istore_3 X dX12_marks_3 rfl (lt_kN hNL rfl) rfl ?_
  refine g_iconst X dX12_marks_4 rfl ?_
  refine g_istore_4 X dX12_marks_5 rfl (lt_kN hNL rfl) rfl ?_
  refine g_bipush X dX12_marks_7 rfl (by decide) ?_
  refine g_iload_n X dX12_marks_9 rfl rfl ?_
  refine g_imul X dX12_marks_10 rfl ?_
  refine g_istore_5 X dX12_marks_11 rfl (lt_kN hNL rfl) rfl ?_
  have lp13 : ∀ (low : Int) (high : Int) (k : Int) (k0 : 60 * r ≤ k) (k1 : k ≤ 60 * r + (C.1 16 6 r 0)) (l0 : 0 ≤ low ∧ low ≤ 1000) (g0 : -1 ≤ high ∧ high ≤ 999) (hl : ∀ j, 0 ≤ j → 60 * r + j < k → low ≤ (C.1 17 0 r j) ∧ (C.1 17 0 r j) ≤ high) (hl2 : low = 1000 ∨ ∃ j, 0 ≤ j ∧ 60 * r + j < k ∧ (C.1 17 0 r j) = low) (hg2 : high = -1 ∨ ∃ j, 0 ≤ j ∧ 60 * r + j < k ∧ (C.1 17 0 r j) = high), G κ nm ad M 13 [some (.ref (ad 40 0)), some (.int (iI r)), some (.ref (ad 79 0)), some (.int (iI low)), some (.int (iI high)), some (.int (iI k))] [] 0 0 := by
    refine ind3 (fun low high k => (60 * r + 60 - k).toNat) ?_
    intro low high k ih13 k0 k1 l0 g0 hl hl2 hg2
    refine g_rm (fun hM13 => ?_)
    refine g_iload X dX12_marks_13 rfl rfl ?_
    refine g_bipush X dX12_marks_15 rfl (by decide) ?_
    refine g_iload_n X dX12_marks_17 rfl rfl ?_
    refine g_imul X dX12_marks_18 rfl ?_
    refine g_aload_n X dX12_marks_19 rfl rfl ?_
    refine g_get X ci12 (n40 hN) (en40 _ _ _ _) (by decide) fl_X12_28 rfl dX12_marks_20 rfl ?_
    refine g_iload_n X dX12_marks_23 rfl rfl ?_
    refine g_iald X dX12_marks_24 rfl (n47 hN) (en47 _ _ _ _) (t0 := 0) rfl (by omega) (by omega) (by decide) (fun r24 => ?_)
    refine g_iadd X dX12_marks_25 rfl ?_
    refine g_icmp_ge (tgt := 84) X dX12_marks_26 rfl rfl (by omega) (by omega) (fun h26 => ?_) (fun h26 => ?_)
    · skip
      have ke : k = 60 * r + (C.1 16 6 r 0) := by omega
      have el : low = (C.1 16 8 r 0) := by
                    by_cases z : (C.1 16 6 r 0) = 0
                    · have := hd.em z
                      rcases hl2 with y | ⟨j, y1, y2, y3⟩
                      · omega
                      · omega
                    · obtain ⟨⟨j, j0, j1, j2⟩, -⟩ := hd.at_ (by omega)
                      have h1 := hl j j0 (by omega)
                      rcases hl2 with y | ⟨i, y1, y2, y3⟩
                      · have := hd.cd j j0 j1
                        omega
                      · have := hd.lb i y1 (by omega)
                        omega
      have eg : high = (C.1 16 9 r 0) := by
                    by_cases z : (C.1 16 6 r 0) = 0
                    · have := hd.em z
                      rcases hg2 with y | ⟨j, y1, y2, y3⟩
                      · omega
                      · omega
                    · obtain ⟨-, ⟨j, j0, j1, j2⟩⟩ := hd.at_ (by omega)
                      have h1 := hl j j0 (by omega)
                      rcases hg2 with y | ⟨i, y1, y2, y3⟩
                      · have := hd.cd j j0 j1
                        omega
                      · have := hd.lb i y1 (by omega)
                        omega
      refine g_iconst X dX12_marks_84 rfl ?_
      refine g_istore_5 X dX12_marks_85 rfl (lt_kN hNL rfl) rfl ?_
      have lp87 : ∀ (c : Int) (M1 : Mem) (c0 : 0 ≤ c) (c1 : c ≤ 1000) (hE1 : Ex (fun k => k == 79) M M1) (hv1 : ∀ d, 0 ≤ d → d < c → M1.1 79 0 0 d = bI (low < d ∧ d < high)), G κ nm ad M1 87 [some (.ref (ad 40 0)), some (.int (iI r)), some (.ref (ad 79 0)), some (.int (iI low)), some (.int (iI high)), some (.int (iI c))] [] 0 0 := by
        refine ind2 (fun c M1 => (1000 - c).toNat) ?_
        intro c M1 ih87 c0 c1 hE1 hv1
        refine g_rm (fun hM87 => ?_)
        refine g_iload X dX12_marks_87 rfl rfl ?_
        refine g_sipush X dX12_marks_89 rfl (by decide) ?_
        refine g_icmp_ge (tgt := 123) X dX12_marks_92 rfl rfl (by omega) (by omega) (fun h92 => ?_) (fun h92 => ?_)
        · skip
          refine g_bipush X dX12_marks_123 rfl (by decide) ?_
          refine g_iload_n X dX12_marks_125 rfl rfl ?_
          refine g_imul X dX12_marks_126 rfl ?_
          refine g_istore_5 X dX12_marks_127 rfl (lt_kN hNL rfl) rfl ?_
          refine g_drop_3 ?_
          refine g_drop_4 ?_
          have lp129 : ∀ (k : Int) (M2 : Mem) (k0 : 60 * r ≤ k) (k1 : k ≤ 60 * r + (C.1 16 6 r 0)) (hE2 : Ex (fun k => k == 79) M M2) (hv2 : ∀ d, 0 ≤ d → d < 1000 → M2.1 79 0 0 d = bI (((C.1 16 8 r 0) < d ∧ d < (C.1 16 9 r 0)) ∧ ∀ j, 0 ≤ j → 60 * r + j < k → (C.1 17 0 r j) ≠ d)), G κ nm ad M2 129 [some (.ref (ad 40 0)), some (.int (iI r)), some (.ref (ad 79 0)), none, none, some (.int (iI k))] [] 0 0 := by
            refine ind2 (fun k M2 => (60 * r + 60 - k).toNat) ?_
            intro k M2 ih129 k0 k1 hE2 hv2
            refine g_rm (fun hM129 => ?_)
            have e47 := hE2.i 47 0 0 r rfl
            have e48 := hE2.i 48 0 0 k rfl
            refine g_iload X dX12_marks_129 rfl rfl ?_
            refine g_bipush X dX12_marks_131 rfl (by decide) ?_
            refine g_iload_n X dX12_marks_133 rfl rfl ?_
            refine g_imul X dX12_marks_134 rfl ?_
            refine g_aload_n X dX12_marks_135 rfl rfl ?_
            refine g_get X ci12 (n40 hN) (en40 _ _ _ _) (by decide) fl_X12_28 rfl dX12_marks_136 rfl ?_
            refine g_iload_n X dX12_marks_139 rfl rfl ?_
            refine g_iald X dX12_marks_140 rfl (n47 hN) (en47 _ _ _ _) (t0 := 0) rfl (by omega) (by omega) (by decide) (fun r140 => ?_)
            refine g_iadd X dX12_marks_141 rfl ?_
            refine g_icmp_ge (tgt := 161) X dX12_marks_142 rfl rfl (by omega) (by omega) (fun h142 => ?_) (fun h142 => ?_)
            · skip
              exact g_retn Y dX12_marks_161 rfl ⟨rfl, rfl, hE2, fun c h0 h1 => (hv2 c h0 h1).trans (bI_c ⟨fun q => ⟨q.1, (first_none hd h0 (by omega)).mpr (fun j j0 j1 => q.2 j j0 (by omega))⟩, fun q => ⟨q.1, fun j j0 j1 => (first_none hd h0 (by omega)).mp q.2 j j0 (by omega)⟩⟩)⟩
            · skip
              have f1 := (hR.fr r (k - 60 * r) r0 q1 (by omega) (by omega)).1
              rw [show 60 * r + (k - 60 * r) = k by omega] at f1
              have d1 := hd.cd (k - 60 * r) (by omega) (by omega)
              refine g_aload_n X dX12_marks_145 rfl rfl ?_
              refine g_aload_n X dX12_marks_146 rfl rfl ?_
              refine g_get X ci12 (n40 hN) (en40 _ _ _ _) (by decide) fl_X12_31 rfl dX12_marks_147 rfl ?_
              refine g_iload X dX12_marks_150 rfl rfl ?_
              refine g_iald X dX12_marks_152 rfl (n48 hN) (en48 _ _ _ _) (t0 := 0) rfl (by omega) (by omega) (by decide) (fun r152 => ?_)
              refine g_iconst X dX12_marks_153 rfl ?_
              refine g_zast X (n79 hN) (en79 _ _ _ _) (en79 _ _ _ _) (t0 := 2) rfl (by omega) (by omega) (by decide) (by first | exact Or.inl rfl | exact Or.inr rfl | omega) dX12_marks_154 rfl ?_
              refine g_iinc_5 X dX12_marks_155 rfl (lt_kN hNL rfl) rfl ?_
              refine g_goto (pc' := 129) X dX12_marks_158 rfl ?_
              exact ih129 (k + 1) _ (by omega) (by omega) (by omega) (hE2.setI rfl) (fun d h1 h2 => by
                            rw [setI_1]
                            by_cases e : d = (C.1 17 0 r (k - 60 * r))
                            · rw [if_pos ⟨rfl, rfl, rfl, by omega⟩, bI_f]
                              exact fun q => q.2 (k - 60 * r) (by omega) (by omega) e.symm
                            · rw [if_neg (by omega), hv2 d h1 h2]
                              refine bI_c ⟨fun q => ⟨q.1, fun j j0 j1 => ?_⟩, fun q => ⟨q.1, fun j j0 j1 => q.2 j j0 (by omega)⟩⟩
                              by_cases z : 60 * r + j = k
                              · rw [show j = k - 60 * r by omega]; exact fun y => e y.symm
                              · exact q.2 j j0 (by omega))
          exact lp129 (60 * r) M1 (by omega) (by omega) hE1 (fun d h1 h2 => by rw [hv1 d h1 (by omega), el, eg]; exact bI_c ⟨fun q => ⟨q, fun j j0 j1 => by omega⟩, fun q => q.1⟩)
        · skip
          refine g_aload_n X dX12_marks_95 rfl rfl ?_
          refine g_iload X dX12_marks_96 rfl rfl ?_
          refine g_cutB 116 (low < c ∧ c < high) (fun ct98 cf98 => ?_) ?_
          · skip
            refine g_iload X dX12_marks_98 rfl rfl ?_
            refine g_iload_n X dX12_marks_100 rfl rfl ?_
            refine g_icmp_le (tgt := 115) X dX12_marks_101 rfl rfl (by omega) (by omega) (fun h101 => ?_) (fun h101 => ?_)
            · skip
              refine g_iconst X dX12_marks_115 rfl ?_
              exact cf98 (by omega)
            · skip
              refine g_iload X dX12_marks_104 rfl rfl ?_
              refine g_iload X dX12_marks_106 rfl rfl ?_
              refine g_icmp_ge (tgt := 115) X dX12_marks_108 rfl rfl (by omega) (by omega) (fun h108 => ?_) (fun h108 => ?_)
              · skip
                refine g_iconst X dX12_marks_115 rfl ?_
                exact cf98 (by omega)
              · skip
                refine g_iconst X dX12_marks_111 rfl ?_
                refine g_goto (pc' := 116) X dX12_marks_112 rfl ?_
                exact ct98 (by omega)
          · skip
            refine g_zast X (n79 hN) (en79 _ _ _ _) (en79 _ _ _ _) (t0 := 2) rfl (by omega) (by omega) (by decide) (bI_01 _) dX12_marks_116 rfl ?_
            refine g_iinc_5 X dX12_marks_117 rfl (lt_kN hNL rfl) rfl ?_
            refine g_goto (pc' := 87) X dX12_marks_120 rfl ?_
            exact ih87 (c + 1) _ (by omega) (by omega) (by omega) (hE1.setI rfl) (fun d h1 h2 => by
                          rw [setI_1]
                          by_cases e : d = c
                          · subst e; rw [if_pos ⟨rfl, rfl, rfl, rfl⟩]
                          · rw [if_neg (by omega)]; exact hv1 d h1 (by omega))
      exact lp87 0 M (by omega) (by omega) (Ex.rf M) (fun d h1 h2 => by omega)
    · skip
      have f1 := (hR.fr r (k - 60 * r) r0 q1 (by omega) (by omega)).1
      rw [show 60 * r + (k - 60 * r) = k by omega] at f1
      have d1 := hd.cd (k - 60 * r) (by omega) (by omega)
      refine g_cutI 51 (if (C.1 17 0 r (k - 60 * r)) < low then (C.1 17 0 r (k - 60 * r)) else low) (fun ci29 => ?_) ?_
      · skip
        have f1 := (hR.fr r (k - 60 * r) r0 q1 (by omega) (by omega)).1
        rw [show 60 * r + (k - 60 * r) = k by omega] at f1
        have d1 := hd.cd (k - 60 * r) (by omega) (by omega)
        refine g_aload_n X dX12_marks_29 rfl rfl ?_
        refine g_get X ci12 (n40 hN) (en40 _ _ _ _) (by decide) fl_X12_31 rfl dX12_marks_30 rfl ?_
        refine g_iload X dX12_marks_33 rfl rfl ?_
        refine g_iald X dX12_marks_35 rfl (n48 hN) (en48 _ _ _ _) (t0 := 0) rfl (by omega) (by omega) (by decide) (fun r35 => ?_)
        refine g_iload_n X dX12_marks_36 rfl rfl ?_
        refine g_icmp_ge (tgt := 50) X dX12_marks_37 rfl rfl (by omega) (by omega) (fun h37 => ?_) (fun h37 => ?_)
        · skip
          refine g_iload_n X dX12_marks_50 rfl rfl ?_
          exact ci29 _ (by omega)
        · skip
          refine g_aload_n X dX12_marks_40 rfl rfl ?_
          refine g_get X ci12 (n40 hN) (en40 _ _ _ _) (by decide) fl_X12_31 rfl dX12_marks_41 rfl ?_
          refine g_iload X dX12_marks_44 rfl rfl ?_
          refine g_iald X dX12_marks_46 rfl (n48 hN) (en48 _ _ _ _) (t0 := 0) rfl (by omega) (by omega) (by decide) (fun r46 => ?_)
          refine g_goto (pc' := 51) X dX12_marks_47 rfl ?_
          exact ci29 _ (by omega)
      · skip
        refine g_istore_3 X dX12_marks_51 rfl (lt_kN hNL rfl) rfl ?_
        refine g_cutI 76 (if high < (C.1 17 0 r (k - 60 * r)) then (C.1 17 0 r (k - 60 * r)) else high) (fun ci52 => ?_) ?_
        · skip
          refine g_aload_n X dX12_marks_52 rfl rfl ?_
          refine g_get X ci12 (n40 hN) (en40 _ _ _ _) (by decide) fl_X12_31 rfl dX12_marks_53 rfl ?_
          refine g_iload X dX12_marks_56 rfl rfl ?_
          refine g_iald X dX12_marks_58 rfl (n48 hN) (en48 _ _ _ _) (t0 := 0) rfl (by omega) (by omega) (by decide) (fun r58 => ?_)
          refine g_iload X dX12_marks_59 rfl rfl ?_
          refine g_icmp_le (tgt := 74) X dX12_marks_61 rfl rfl (by omega) (by omega) (fun h61 => ?_) (fun h61 => ?_)
          · skip
            refine g_iload X dX12_marks_74 rfl rfl ?_
            exact ci52 _ (by omega)
          · skip
            refine g_aload_n X dX12_marks_64 rfl rfl ?_
            refine g_get X ci12 (n40 hN) (en40 _ _ _ _) (by decide) fl_X12_31 rfl dX12_marks_65 rfl ?_
            refine g_iload X dX12_marks_68 rfl rfl ?_
            refine g_iald X dX12_marks_70 rfl (n48 hN) (en48 _ _ _ _) (t0 := 0) rfl (by omega) (by omega) (by decide) (fun r70 => ?_)
            refine g_goto (pc' := 76) X dX12_marks_71 rfl ?_
            exact ci52 _ (by omega)
        · skip
          refine g_istore_4 X dX12_marks_76 rfl (lt_kN hNL rfl) rfl ?_
          refine g_iinc_5 X dX12_marks_78 rfl (lt_kN hNL rfl) rfl ?_
          refine g_goto (pc' := 13) X dX12_marks_81 rfl ?_
          exact ih13 _ _ (k + 1) (by omega) (by omega) (by omega) (by omega) (by omega) (fun j h1 h2 => by
                        by_cases e : 60 * r + j = k
                        · have e2 : j = k - 60 * r := by omega
                          subst e2
                          omega
                        · have := hl j h1 (by omega)
                          omega) (by
                        by_cases e : (C.1 17 0 r (k - 60 * r)) < low
                        · right; exact ⟨k - 60 * r, by omega, by omega, by omega⟩
                        · rcases hl2 with z | ⟨j, z1, z2, z3⟩
                          · left; omega
                          · right; exact ⟨j, z1, by omega, by omega⟩) (by
                        by_cases e : high < (C.1 17 0 r (k - 60 * r))
                        · right; exact ⟨k - 60 * r, by omega, by omega, by omega⟩
                        · rcases hg2 with z | ⟨j, z1, z2, z3⟩
                          · left; omega
                          · right; exact ⟨j, z1, by omega, by omega⟩)
  exact lp13 1000 (-1) (60 * r) (by omega) (by omega) (by omega) (by omega) (fun j h1 h2 => by omega) (Or.inl rfl) (Or.inl rfl)
set_option maxRecDepth 100000 in
set_option maxHeartbeats 4000000 in
theorem c_X12_faulty_79 {δ : Dx} {nm : List (Nat × Int)} {ad : Ad} {M : Mem} {C : Mem} {r : Int} (hN : NmOk nm) (hR : RelR C M) (r0 : 0 ≤ r) (q1 : r < (C.1 0 1 0 0)) : Ct δ md_X12_faulty 0 0 nm ad M [.ref (ad 40 0), .int (iI r), .ref (ad 79 0)] (pGn ad (fun M' => Ex (fun k => k == 79) M M' ∧ ∀ c, 0 ≤ c → c < 1000 → M'.1 79 0 0 c = bI (isF C r c))) := by
  refine Ct_of (ins := .return_) (ok := okN) [some (.ref (ad 40 0)), some (.int (iI r)), some (.ref (ad 79 0)), none] (by decide +kernel) rfl (Nat.le_of_ble_eq_true rfl) (fun κ s hs X hr hQ hδ => endN rfl hs X hr hQ hδ) (fun κ X hNL hδ Y => ?_)
  refine g_rm (fun hM => ?_)
  have rc := hR.rc
  have hd := hR.rd r r0 q1
  have fb := hd.fc
  have mi := hR.mi r r0 q1
  refine g_aload_n X dX12_faulty_0 rfl rfl ?_
  refine g_iload_n X dX12_faulty_1 rfl rfl ?_
  refine g_aload_n X dX12_faulty_2 rfl rfl ?_
  refine g_iV2_gn X w_X12_marks ml_X12_178 dX12_faulty_3 rfl (n40 hN) (en40 _ _ _ _) ⟨⟨Nat.le_of_ble_eq_true rfl, Nat.le_of_ble_eq_true rfl⟩, Nat.le_of_ble_eq_true rfl, Nat.le_of_ble_eq_true rfl⟩ (Nat.le_of_ble_eq_true rfl) (c_X12_marks_79 hN (by first | exact hR | exact hR.th) (by omega) (by omega)) (fun Mc3 hc3 => ?_)
  refine g_rm (fun hMc3 => ?_)
  obtain ⟨hE, hv⟩ := hc3
  refine g_bipush X dX12_faulty_6 rfl (by decide) ?_
  refine g_iload_n X dX12_faulty_8 rfl rfl ?_
  refine g_imul X dX12_faulty_9 rfl ?_
  refine g_istore_3 X dX12_faulty_10 rfl (lt_kN hNL rfl) rfl ?_
  have lp11 : ∀ (k : Int) (M2 : Mem) (k0 : 60 * r ≤ k) (k1 : k ≤ 60 * r + (C.1 16 6 r 0)) (hE2 : Ex (fun k => k == 79) M M2) (hv2 : ∀ d, 0 ≤ d → d < 1000 → M2.1 79 0 0 d = bI (misP C r d ∨ ∃ j, (0 ≤ j ∧ 60 * r + j < k) ∧ (C.1 19 0 r j) ≠ 0 ∧ (C.1 17 0 r j) = d)), G κ nm ad M2 11 [some (.ref (ad 40 0)), some (.int (iI r)), some (.ref (ad 79 0)), some (.int (iI k))] [] 0 0 := by
    refine ind2 (fun k M2 => (60 * r + 60 - k).toNat) ?_
    intro k M2 ih11 k0 k1 hE2 hv2
    refine g_rm (fun hM11 => ?_)
    have e47 := hE2.i 47 0 0 r rfl
    have e48 := hE2.i 48 0 0 k rfl
    have e50 := hE2.i 50 0 0 k rfl
    refine g_iload_n X dX12_faulty_11 rfl rfl ?_
    refine g_bipush X dX12_faulty_12 rfl (by decide) ?_
    refine g_iload_n X dX12_faulty_14 rfl rfl ?_
    refine g_imul X dX12_faulty_15 rfl ?_
    refine g_aload_n X dX12_faulty_16 rfl rfl ?_
    refine g_get X ci12 (n40 hN) (en40 _ _ _ _) (by decide) fl_X12_28 rfl dX12_faulty_17 rfl ?_
    refine g_iload_n X dX12_faulty_20 rfl rfl ?_
    refine g_iald X dX12_faulty_21 rfl (n47 hN) (en47 _ _ _ _) (t0 := 0) rfl (by omega) (by omega) (by decide) (fun r21 => ?_)
    refine g_iadd X dX12_faulty_22 rfl ?_
    refine g_icmp_ge (tgt := 58) X dX12_faulty_23 rfl rfl (by omega) (by omega) (fun h23 => ?_) (fun h23 => ?_)
    · skip
      exact g_retn Y dX12_faulty_58 rfl ⟨rfl, rfl, hE2, fun c h0 h1 => (hv2 c h0 h1).trans (bI_c (by
                unfold isF
                rw [hd.sc c h0 (by omega)]
                constructor
                · rintro (q | ⟨j, j1, j2, j3⟩)
                  · exact Or.inr ⟨q.1.1, q.1.2, q.2⟩
                  · exact Or.inl ⟨j, by omega, by omega, j2, j3⟩
                · rintro (⟨j, j1, j2, j3, j4⟩ | q)
                  · exact Or.inr ⟨j, by omega, j3, j4⟩
                  · exact Or.inl ⟨⟨q.1, q.2.1⟩, q.2.2⟩))⟩
    · skip
      have f1 := (hR.fr r (k - 60 * r) r0 q1 (by omega) (by omega)).1
      have f3 := hR.fs r (k - 60 * r) r0 (by omega) (by omega) (by omega)
      rw [show 60 * r + (k - 60 * r) = k by omega] at f1 f3
      have d1 := hd.cd (k - 60 * r) (by omega) (by omega)
      have s1 := hd.sp (k - 60 * r) (by omega) (by omega)
      refine g_aload_n X dX12_faulty_26 rfl rfl ?_
      refine g_aload_n X dX12_faulty_27 rfl rfl ?_
      refine g_get X ci12 (n40 hN) (en40 _ _ _ _) (by decide) fl_X12_31 rfl dX12_faulty_28 rfl ?_
      refine g_iload_n X dX12_faulty_31 rfl rfl ?_
      refine g_iald X dX12_faulty_32 rfl (n48 hN) (en48 _ _ _ _) (t0 := 0) rfl (by omega) (by omega) (by decide) (fun r32 => ?_)
      refine g_dup2 X dX12_faulty_33 rfl rfl rfl ?_
      refine g_zald X dX12_faulty_34 rfl (n79 hN) (en79 _ _ _ _) (t0 := 2) rfl (by omega) (by omega) (by decide) (fun r34 => ?_)
      refine g_int ((hv2 _ (by omega) (by omega)).trans (congrArg (fun z => bI (misP C r z ∨ ∃ j, (0 ≤ j ∧ 60 * r + j < k) ∧ (C.1 19 0 r j) ≠ 0 ∧ (C.1 17 0 r j) = z)) (show (M2.1 48 0 0 k) = (C.1 17 0 r (k - 60 * r)) by omega))) ?_
      refine g_cutB 50 ((C.1 19 0 r (k - 60 * r)) ≠ 0) (fun ct35 cf35 => ?_) ?_
      · skip
        refine g_aload_n X dX12_faulty_35 rfl rfl ?_
        refine g_get X ci12 (n40 hN) (en40 _ _ _ _) (by decide) fl_X12_38 rfl dX12_faulty_36 rfl ?_
        refine g_iload_n X dX12_faulty_39 rfl rfl ?_
        refine g_iald X dX12_faulty_40 rfl (n50 hN) (en50 _ _ _ _) (t0 := 0) rfl (by omega) (by omega) (by decide) (fun r40 => ?_)
        refine g_iconst X dX12_faulty_41 rfl ?_
        refine g_icmp_ne (tgt := 49) X dX12_faulty_42 rfl rfl (by omega) (by omega) (fun h42 => ?_) (fun h42 => ?_)
        · skip
          refine g_iconst X dX12_faulty_49 rfl ?_
          exact cf35 (by omega)
        · skip
          refine g_iconst X dX12_faulty_45 rfl ?_
          refine g_goto (pc' := 50) X dX12_faulty_46 rfl ?_
          exact ct35 (by omega)
      · skip
        refine g_ior X dX12_faulty_50 rfl (bI_or _ _) ?_
        refine g_zast X (n79 hN) (en79 _ _ _ _) (en79 _ _ _ _) (t0 := 2) rfl (by omega) (by omega) (by decide) (bI_01 _) dX12_faulty_51 rfl ?_
        refine g_iinc_3 X dX12_faulty_52 rfl (lt_kN hNL rfl) rfl ?_
        refine g_goto (pc' := 11) X dX12_faulty_55 rfl ?_
        exact ih11 (k + 1) _ (by omega) (by omega) (by omega) (hE2.setI rfl) (fun d h1 h2 => by
                      rw [setI_1]
                      by_cases e : d = (C.1 17 0 r (k - 60 * r))
                      · rw [if_pos ⟨rfl, rfl, rfl, by omega⟩]
                        refine bI_c ⟨fun q => ?_, fun q => ?_⟩
                        · rcases q with (q | ⟨j, j1, j2, j3⟩) | q
                          · exact Or.inl (by rw [e]; exact q)
                          · exact Or.inr ⟨j, by omega, j2, by rw [e]; exact j3⟩
                          · exact Or.inr ⟨k - 60 * r, by omega, q, e.symm⟩
                        · rcases q with q | ⟨j, j1, j2, j3⟩
                          · exact Or.inl (Or.inl (by rw [← e]; exact q))
                          · by_cases z : 60 * r + j = k
                            · have z2 : j = k - 60 * r := by omega
                              subst z2
                              exact Or.inr j2
                            · exact Or.inl (Or.inr ⟨j, by omega, j2, by rw [← e]; exact j3⟩)
                      · rw [if_neg (by omega), hv2 d h1 h2]
                        refine bI_c ⟨fun q => ?_, fun q => ?_⟩
                        · rcases q with q | ⟨j, j1, j2, j3⟩
                          · exact Or.inl q
                          · exact Or.inr ⟨j, by omega, j2, j3⟩
                        · rcases q with q | ⟨j, j1, j2, j3⟩
                          · exact Or.inl q
                          · refine Or.inr ⟨j, ⟨j1.1, ?_⟩, j2, j3⟩
                            by_cases z : 60 * r + j = k
                            · have z2 : j = k - 60 * r := by omega
                              subst z2
                              exact absurd j3.symm e
                            · omega)
  exact lp11 (60 * r) _ (by omega) (by omega) hE (fun d h1 h2 => (hv d h1 h2).trans (bI_c ⟨Or.inl, fun q => q.elim id (fun ⟨j, y, _⟩ => by omega)⟩))
set_option maxRecDepth 100000 in
set_option maxHeartbeats 4000000 in
theorem c_X12_missing {δ : Dx} {nm : List (Nat × Int)} {ad : Ad} {M : Mem} {C : Mem} {r : Int} (hN : NmOk nm) (hR : RelR C M) (r0 : 0 ≤ r) (q1 : r < (C.1 0 1 0 0)) : Ct δ md_X12_missing 0 0 nm ad M [.ref (ad 40 0), .int (iI r)] (pG (.int (iI (missing C r))) ad (fun M' => Ex (fun k => k == 78) M M')) := by
  refine Ct_of (ins := .ireturn) (ok := okI) [some (.ref (ad 40 0)), some (.int (iI r))] (by decide +kernel) rfl (Nat.le_of_ble_eq_true rfl) (fun κ s hs X hr hQ hδ => endI rfl hs X hr hQ hδ) (fun κ X hNL hδ Y => ?_)
  refine g_rm (fun hM => ?_)
  have rc := hR.rc
  have hd := hR.rd r r0 q1
  have fb := hd.fc
  have mi := hR.mi r r0 q1
  refine g_aload_n X dX12_missing_0 rfl rfl ?_
  refine g_iload_n X dX12_missing_1 rfl rfl ?_
  refine g_aload_n X dX12_missing_2 rfl rfl ?_
  refine g_get X ci12 (n40 hN) (en40 _ _ _ _) (by decide) fl_X12_133 rfl dX12_missing_3 rfl ?_
  refine g_iV2_gn X w_X12_marks ml_X12_178 dX12_missing_6 rfl (n40 hN) (en40 _ _ _ _) ⟨⟨Nat.le_of_ble_eq_true rfl, Nat.le_of_ble_eq_true rfl⟩, Nat.le_of_ble_eq_true rfl, Nat.le_of_ble_eq_true rfl⟩ (Nat.le_of_ble_eq_true rfl) (c_X12_marks_78 hN (by first | exact hR | exact hR.th) (by omega) (by omega)) (fun Mc6 hc6 => ?_)
  refine g_rm (fun hMc6 => ?_)
  obtain ⟨hE, hv⟩ := hc6
  refine g_aload_n X dX12_missing_9 rfl rfl ?_
  refine g_aload_n X dX12_missing_10 rfl rfl ?_
  refine g_get X ci12 (n40 hN) (en40 _ _ _ _) (by decide) fl_X12_133 rfl dX12_missing_11 rfl ?_
  refine g_iV1_v X w_X12_count ml_X12_182 dX12_missing_14 rfl (n40 hN) (en40 _ _ _ _) ⟨⟨Nat.le_of_ble_eq_true rfl, Nat.le_of_ble_eq_true rfl⟩, Nat.le_of_ble_eq_true rfl, Nat.le_of_ble_eq_true rfl⟩ (Nat.le_of_ble_eq_true rfl) (c_X12_count_78 hN) ?_
  exact g_ret Y dX12_missing_17 ⟨_, rfl⟩ ⟨by rw [cnt_missing hd hv], rfl, hE⟩
set_option maxRecDepth 100000 in
set_option maxHeartbeats 4000000 in
theorem c_X12_faults {δ : Dx} {nm : List (Nat × Int)} {ad : Ad} {M : Mem} {C : Mem} {r : Int} (hN : NmOk nm) (hR : RelR C M) (r0 : 0 ≤ r) (q1 : r < (C.1 0 1 0 0)) : Ct δ md_X12_faults 0 0 nm ad M [.ref (ad 40 0), .int (iI r)] (pG (.int (iI (faults C r))) ad (fun M' => Ex (fun k => k == 78) M M')) := by
  refine Ct_of (ins := .ireturn) (ok := okI) [some (.ref (ad 40 0)), some (.int (iI r))] (by decide +kernel) rfl (Nat.le_of_ble_eq_true rfl) (fun κ s hs X hr hQ hδ => endI rfl hs X hr hQ hδ) (fun κ X hNL hδ Y => ?_)
  refine g_rm (fun hM => ?_)
  have rc := hR.rc
  have hd := hR.rd r r0 q1
  have fb := hd.fc
  have mi := hR.mi r r0 q1
  refine g_aload_n X dX12_faults_0 rfl rfl ?_
  refine g_iload_n X dX12_faults_1 rfl rfl ?_
  refine g_aload_n X dX12_faults_2 rfl rfl ?_
  refine g_get X ci12 (n40 hN) (en40 _ _ _ _) (by decide) fl_X12_133 rfl dX12_faults_3 rfl ?_
  refine g_iV2_gn X w_X12_faulty ml_X12_186 dX12_faults_6 rfl (n40 hN) (en40 _ _ _ _) ⟨⟨Nat.le_of_ble_eq_true rfl, Nat.le_of_ble_eq_true rfl⟩, Nat.le_of_ble_eq_true rfl, Nat.le_of_ble_eq_true rfl⟩ (Nat.le_of_ble_eq_true rfl) (c_X12_faulty_78 hN (by first | exact hR | exact hR.th) (by omega) (by omega)) (fun Mc6 hc6 => ?_)
  refine g_rm (fun hMc6 => ?_)
  obtain ⟨hE, hv⟩ := hc6
  refine g_aload_n X dX12_faults_9 rfl rfl ?_
  refine g_aload_n X dX12_faults_10 rfl rfl ?_
  refine g_get X ci12 (n40 hN) (en40 _ _ _ _) (by decide) fl_X12_133 rfl dX12_faults_11 rfl ?_
  refine g_iV1_v X w_X12_count ml_X12_182 dX12_faults_14 rfl (n40 hN) (en40 _ _ _ _) ⟨⟨Nat.le_of_ble_eq_true rfl, Nat.le_of_ble_eq_true rfl⟩, Nat.le_of_ble_eq_true rfl, Nat.le_of_ble_eq_true rfl⟩ (Nat.le_of_ble_eq_true rfl) (c_X12_count_78 hN) ?_
  exact g_ret Y dX12_faults_17 ⟨_, rfl⟩ ⟨by rw [cnt_faults hd hv], rfl, hE⟩
set_option maxRecDepth 100000 in
set_option maxHeartbeats 4000000 in
theorem c_X12_isWithin {δ : Dx} {nm : List (Nat × Int)} {ad : Ad} {M : Mem} (hN : NmOk nm) : Ct δ md_X12_isWithin 0 0 nm ad M [.ref (ad 40 0)] (pV (.int (iI (bI (Wi M 1000)))) ad M) := by
  refine Ct_of (ins := .ireturn) (ok := okZ) [some (.ref (ad 40 0)), none, none] (by decide +kernel) rfl (Nat.le_of_ble_eq_true rfl) (fun κ s hs X hr hQ hδ => endZ rfl hs X hr hQ hδ) (fun κ X hNL hδ Y => ?_)
  refine g_rm (fun hM => ?_)
  refine g_iconst X dX12_isWithin_0 rfl ?_
  refine g_istore_1 X dX12_isWithin_1 rfl (lt_kN hNL rfl) rfl ?_
  refine g_iconst X dX12_isWithin_2 rfl ?_
  refine g_istore_2 X dX12_isWithin_3 rfl (lt_kN hNL rfl) rfl ?_
  refine g_of (a := [some (.ref (ad 40 0)), some (.int (iI (bI (Wi M 0)))), some (.int (iI 0))]) (fun k v h => by rw [← h, bI_t (P := Wi M 0) (fun d h1 h2 => absurd h2 (by omega))]) ?_
  have lp4 : ∀ (c : Int) (c0 : 0 ≤ c) (c1 : c ≤ 1000), G κ nm ad M 4 [some (.ref (ad 40 0)), some (.int (iI (bI (Wi M c)))), some (.int (iI c))] [] 0 0 := by
    refine ind1 (fun c => (1000 - c).toNat) ?_
    intro c ih4 c0 c1
    refine g_rm (fun hM4 => ?_)
    refine g_iload_n X dX12_isWithin_4 rfl rfl ?_
    refine g_sipush X dX12_isWithin_5 rfl (by decide) ?_
    refine g_icmp_ge (tgt := 45) X dX12_isWithin_8 rfl rfl (by omega) (by omega) (fun h8 => ?_) (fun h8 => ?_)
    · skip
      refine g_iload_n X dX12_isWithin_45 rfl rfl ?_
      exact g_ret Y dX12_isWithin_46 okZb (pVb (by first
                | (rw [show c = 1000 by omega])
                | exact ⟨fun q => absurd q (by assumption), fun q => absurd (show Wi M c from fun d h1 h2 => q d h1 (by omega)) (by assumption)⟩))
    · skip
      refine g_iload_n X dX12_isWithin_11 rfl rfl ?_
      refine g_ifB_eq (tgt := 45) X dX12_isWithin_12 rfl rfl (fun h12 => ?_) (fun h12 => ?_)
      · skip
        refine g_iload_n X dX12_isWithin_45 rfl rfl ?_
        exact g_ret Y dX12_isWithin_46 okZb (pVb (by first
                  | (rw [show c = 1000 by omega])
                  | exact ⟨fun q => absurd q (by assumption), fun q => absurd (show Wi M c from fun d h1 h2 => q d h1 (by omega)) (by assumption)⟩))
      · skip
        refine g_cutB 38 (Wi M (c + 1)) (fun ct15 cf15 => ?_) ?_
        · skip
          refine g_aload_n X dX12_isWithin_15 rfl rfl ?_
          refine g_get X ci12 (n40 hN) (en40 _ _ _ _) (by decide) fl_X12_137 rfl dX12_isWithin_16 rfl ?_
          refine g_iload_n X dX12_isWithin_19 rfl rfl ?_
          refine g_zald X dX12_isWithin_20 rfl (n79 hN) (en79 _ _ _ _) (t0 := 2) rfl (by omega) (by omega) (by decide) (fun r20 => ?_)
          refine g_if_eq (tgt := 33) X dX12_isWithin_21 rfl rfl (by omega) (fun h21 => ?_) (fun h21 => ?_)
          · skip
            refine g_iconst X dX12_isWithin_33 rfl ?_
            refine g_goto (pc' := 38) X dX12_isWithin_34 rfl ?_
            exact ct15 (by 
                          intro d h1 h2 h3
                          by_cases e : d = c
                          · subst e; first | assumption | exact absurd h3 (by omega) | omega
                          · exact h12 d h1 (by omega) h3)
          · skip
            refine g_aload_n X dX12_isWithin_24 rfl rfl ?_
            refine g_get X ci12 (n40 hN) (en40 _ _ _ _) (by decide) fl_X12_133 rfl dX12_isWithin_25 rfl ?_
            refine g_iload_n X dX12_isWithin_28 rfl rfl ?_
            refine g_zald X dX12_isWithin_29 rfl (n78 hN) (en78 _ _ _ _) (t0 := 2) rfl (by omega) (by omega) (by decide) (fun r29 => ?_)
            refine g_if_eq (tgt := 37) X dX12_isWithin_30 rfl rfl (by omega) (fun h30 => ?_) (fun h30 => ?_)
            · skip
              refine g_iconst X dX12_isWithin_37 rfl ?_
              exact cf15 (by 
                            intro q; have := q c (by omega) (by omega) (by assumption); omega)
            · skip
              refine g_iconst X dX12_isWithin_33 rfl ?_
              refine g_goto (pc' := 38) X dX12_isWithin_34 rfl ?_
              exact ct15 (by 
                            intro d h1 h2 h3
                            by_cases e : d = c
                            · subst e; first | assumption | exact absurd h3 (by omega) | omega
                            · exact h12 d h1 (by omega) h3)
        · skip
          refine g_istore_1 X dX12_isWithin_38 rfl (lt_kN hNL rfl) rfl ?_
          refine g_iinc_2 X dX12_isWithin_39 rfl (lt_kN hNL rfl) rfl ?_
          refine g_goto (pc' := 4) X dX12_isWithin_42 rfl ?_
          exact ih4 (c + 1) (by omega) (by omega) (by omega)
  exact lp4 0 (by omega) (by omega)
theorem Ex.w1 {M M' : Mem} (h : Ex (fun k => k == 78) M M') : Ex (fun k => k == 78 || k == 79) M M' := h.mono (fun k q => by simp only [Bool.or_eq_false_iff] at q; exact q.1)
theorem Ex.w2 {M M' : Mem} (h : Ex (fun k => k == 79) M M') : Ex (fun k => k == 78 || k == 79) M M' := h.mono (fun k q => by simp only [Bool.or_eq_false_iff] at q; exact q.2)
theorem pR_out (k f : Nat) (h : pR k f = true) : (k == 78 || k == 79) = false := by
  unfold pR at h
  cases e : (k == 78 || k == 79)
  · rfl
  · simp only [Bool.or_eq_true, beq_iff_eq] at e h
    simp only [Bool.and_eq_true, Bool.or_eq_true, beq_iff_eq] at h
    omega
theorem RelR.mk {C M M' : Mem} (h : RelR C M) (hE : Ex (fun k => k == 78 || k == 79) M M') : RelR C M' := h.ag (Ag.rf C) (Ag.ex hE pR_out)
set_option maxRecDepth 100000 in
set_option maxHeartbeats 4000000 in
theorem c_X12_parentOf {δ : Dx} {nm : List (Nat × Int)} {ad : Ad} {M : Mem} {C : Mem} {r : Int} (hN : NmOk nm) (hR : RelR C M) (r0 : 0 ≤ r) (q1 : r < (C.1 0 1 0 0)) : Ct δ md_X12_parentOf 0 0 nm ad M [.ref (ad 40 0), .int (iI r)] (pG (.int (iI (gps C r ((C.1 0 1 0 0)).toNat))) ad (fun M' => Ex (fun k => k == 78 || k == 79) M M')) := by
  refine Ct_of (ins := .ireturn) (ok := okI) [some (.ref (ad 40 0)), some (.int (iI r)), none, none, none, none] (by decide +kernel) rfl (Nat.le_of_ble_eq_true rfl) (fun κ s hs X hr hQ hδ => endI rfl hs X hr hQ hδ) (fun κ X hNL hδ Y => ?_)
  refine g_rm (fun hM => ?_)
  have rc := hR.rc
  have hd := hR.rd r r0 q1
  have fb := hd.fc
  have mi := hR.mi r r0 q1
  have he := hR.e
  refine g_iconst X dX12_parentOf_0 rfl ?_
  refine g_istore_2 X dX12_parentOf_1 rfl (lt_kN hNL rfl) rfl ?_
  refine g_iconst X dX12_parentOf_2 rfl ?_
  refine g_istore_3 X dX12_parentOf_3 rfl (lt_kN hNL rfl) rfl ?_
  refine g_aload_n X dX12_parentOf_4 rfl rfl ?_
  refine g_iload_n X dX12_parentOf_5 rfl rfl ?_
  refine g_aload_n X dX12_parentOf_6 rfl rfl ?_
  refine g_get X ci12 (n40 hN) (en40 _ _ _ _) (by decide) fl_X12_133 rfl dX12_parentOf_7 rfl ?_
  refine g_iV2_gn X w_X12_faulty ml_X12_186 dX12_parentOf_10 rfl (n40 hN) (en40 _ _ _ _) ⟨⟨Nat.le_of_ble_eq_true rfl, Nat.le_of_ble_eq_true rfl⟩, Nat.le_of_ble_eq_true rfl, Nat.le_of_ble_eq_true rfl⟩ (Nat.le_of_ble_eq_true rfl) (c_X12_faulty_78 hN hR r0 q1) (fun Mc10 hc10 => ?_)
  refine g_rm (fun hMc10 => ?_)
  obtain ⟨hE, hv⟩ := hc10
  refine g_iconst X dX12_parentOf_13 rfl ?_
  refine g_istore_4 X dX12_parentOf_14 rfl (lt_kN hNL rfl) rfl ?_
  have lp16 : ∀ (p : Int) (M1 : Mem) (p0 : 0 ≤ p) (p1 : p ≤ (C.1 0 1 0 0)) (hE1 : Ex (fun k => k == 78 || k == 79) M M1) (hv1 : ∀ c, 0 ≤ c → c < 1000 → (M1.1 78 0 0 c) = bI (isF C r c)), G κ nm ad M1 16 [some (.ref (ad 40 0)), some (.int (iI r)), some (.int (iI (gps C r p.toNat))), some (.int (iI (if gps C r p.toNat = -1 then -1 else faults C (gps C r p.toNat)))), some (.int (iI p)), none] [] 0 0 := by
    refine ind2 (fun p M1 => (12 - p).toNat) ?_
    intro p M1 ih16 p0 p1 hE1 hv1
    refine g_rm (fun hM16 => ?_)
    have m10 := hE1.i 40 10 0 0 rfl
    have gb := gps_b C r p.toNat
    have pm : rng (if gps C r p.toNat = -1 then -1 else faults C (gps C r p.toNat)) := by
      split
      · decide
      · have := faultsB (hR.rd (gps C r p.toNat) (by omega) (by omega)); constructor <;> omega
    refine g_iload X dX12_parentOf_16 rfl rfl ?_
    refine g_aload_n X dX12_parentOf_18 rfl rfl ?_
    refine g_getI X ci12 (n40 hN) (en40 _ _ _ _) (by decide) fl_X12_143 rfl dX12_parentOf_19 rfl (fun r19 => ?_)
    refine g_icmp_ge (tgt := 128) X dX12_parentOf_22 rfl rfl (by omega) (by omega) (fun h22 => ?_) (fun h22 => ?_)
    · skip
      refine g_iload_n X dX12_parentOf_128 rfl rfl ?_
      exact g_ret Y dX12_parentOf_129 ⟨_, rfl⟩ ⟨by rw [show p = (C.1 0 1 0 0) by omega], rfl, hE1⟩
    · skip
      refine g_aload_n X dX12_parentOf_25 rfl rfl ?_
      refine g_iload X dX12_parentOf_26 rfl rfl ?_
      refine g_aload_n X dX12_parentOf_28 rfl rfl ?_
      refine g_get X ci12 (n40 hN) (en40 _ _ _ _) (by decide) fl_X12_137 rfl dX12_parentOf_29 rfl ?_
      refine g_iV2_gn X w_X12_faulty ml_X12_186 dX12_parentOf_32 rfl (n40 hN) (en40 _ _ _ _) ⟨⟨Nat.le_of_ble_eq_true rfl, Nat.le_of_ble_eq_true rfl⟩, Nat.le_of_ble_eq_true rfl, Nat.le_of_ble_eq_true rfl⟩ (Nat.le_of_ble_eq_true rfl) (c_X12_faulty_79 hN (hR.mk hE1) p0 (by omega)) (fun Mc32 hc32 => ?_)
      refine g_rm (fun hMc32 => ?_)
      obtain ⟨hE32, hv32⟩ := hc32
      have hx : Ex (fun k => k == 78 || k == 79) M Mc32 := hE1.tr hE32.w2
      have hm32 : ∀ c, 0 ≤ c → c < 1000 → (Mc32.1 78 0 0 c) = bI (isF C r c) := fun c h0 h1 => (hE32.i 78 0 0 c rfl).trans (hv1 c h0 h1)
      have m1 := hx.i 42 0 0 p rfl
      have m2 := hx.i 42 0 0 r rfl
      have m3 := hx.i 40 10 0 0 rfl
      have my := hR.mi p p0 (by omega)
      refine g_cutB 84 (erl C p r) (fun ct35 cf35 => ?_) ?_
      · skip
        have my := hR.mi p p0 (by omega)
        refine g_iload X dX12_parentOf_35 rfl rfl ?_
        refine g_iload_n X dX12_parentOf_37 rfl rfl ?_
        refine g_icmp_eq (tgt := 83) X dX12_parentOf_38 rfl rfl (by omega) (by omega) (fun h38 => ?_) (fun h38 => ?_)
        · skip
          refine g_iconst X dX12_parentOf_83 rfl ?_
          exact cf35 (by first | (unfold erl; omega) | (subst h38; unfold erl; omega))
        · skip
          refine g_aload_n X dX12_parentOf_41 rfl rfl ?_
          refine g_get X ci12 (n40 hN) (en40 _ _ _ _) (by decide) fl_X12_13 rfl dX12_parentOf_42 rfl ?_
          refine g_iload X dX12_parentOf_45 rfl rfl ?_
          refine g_iald X dX12_parentOf_47 rfl (n42 hN) (en42 _ _ _ _) (t0 := 0) rfl (by omega) (by omega) (by decide) (fun r47 => ?_)
          refine g_aload_n X dX12_parentOf_48 rfl rfl ?_
          refine g_get X ci12 (n40 hN) (en40 _ _ _ _) (by decide) fl_X12_13 rfl dX12_parentOf_49 rfl ?_
          refine g_iload_n X dX12_parentOf_52 rfl rfl ?_
          refine g_iald X dX12_parentOf_53 rfl (n42 hN) (en42 _ _ _ _) (t0 := 0) rfl (by omega) (by omega) (by decide) (fun r53 => ?_)
          refine g_icmp_lt (tgt := 79) X dX12_parentOf_54 rfl rfl (by omega) (by omega) (fun h54 => ?_) (fun h54 => ?_)
          · skip
            refine g_iconst X dX12_parentOf_79 rfl ?_
            refine g_goto (pc' := 84) X dX12_parentOf_80 rfl ?_
            exact ct35 (by first | (unfold erl; omega) | (subst h38; unfold erl; omega))
          · skip
            refine g_aload_n X dX12_parentOf_57 rfl rfl ?_
            refine g_get X ci12 (n40 hN) (en40 _ _ _ _) (by decide) fl_X12_13 rfl dX12_parentOf_58 rfl ?_
            refine g_iload X dX12_parentOf_61 rfl rfl ?_
            refine g_iald X dX12_parentOf_63 rfl (n42 hN) (en42 _ _ _ _) (t0 := 0) rfl (by omega) (by omega) (by decide) (fun r63 => ?_)
            refine g_aload_n X dX12_parentOf_64 rfl rfl ?_
            refine g_get X ci12 (n40 hN) (en40 _ _ _ _) (by decide) fl_X12_13 rfl dX12_parentOf_65 rfl ?_
            refine g_iload_n X dX12_parentOf_68 rfl rfl ?_
            refine g_iald X dX12_parentOf_69 rfl (n42 hN) (en42 _ _ _ _) (t0 := 0) rfl (by omega) (by omega) (by decide) (fun r69 => ?_)
            refine g_icmp_ne (tgt := 83) X dX12_parentOf_70 rfl rfl (by omega) (by omega) (fun h70 => ?_) (fun h70 => ?_)
            · skip
              refine g_iconst X dX12_parentOf_83 rfl ?_
              exact cf35 (by first | (unfold erl; omega) | (subst h38; unfold erl; omega))
            · skip
              refine g_iload X dX12_parentOf_73 rfl rfl ?_
              refine g_iload_n X dX12_parentOf_75 rfl rfl ?_
              refine g_icmp_ge (tgt := 83) X dX12_parentOf_76 rfl rfl (by omega) (by omega) (fun h76 => ?_) (fun h76 => ?_)
              · skip
                refine g_iconst X dX12_parentOf_83 rfl ?_
                exact cf35 (by first | (unfold erl; omega) | (subst h38; unfold erl; omega))
              · skip
                refine g_iconst X dX12_parentOf_79 rfl ?_
                refine g_goto (pc' := 84) X dX12_parentOf_80 rfl ?_
                exact ct35 (by first | (unfold erl; omega) | (subst h38; unfold erl; omega))
      · skip
        refine g_istore_5 X dX12_parentOf_84 rfl (lt_kN hNL rfl) rfl ?_
        refine g_iload X dX12_parentOf_86 rfl rfl ?_
        refine g_ifB_eq (tgt := 122) X dX12_parentOf_88 rfl rfl (fun h88 => ?_) (fun h88 => ?_)
        · skip
          refine g_iinc_4 X dX12_parentOf_122 rfl (lt_kN hNL rfl) rfl ?_
          refine g_goto (pc' := 16) X dX12_parentOf_125 rfl ?_
          refine g_drop_5 ?_
          have es := gps_s C r p0
          first
                 | (have hc : erl C p r ∧ hasFs C r p ∧ (if gps C r p.toNat = -1 then -1 else faults C (gps C r p.toNat)) < faults C p := ⟨by assumption, hw1, by omega⟩
                    have f0 := faultsB (hR.rd p p0 (by omega))
                    have e1 : gps C r (p + 1).toNat = p := by rw [es, cif_t hc]
                    have e2 : (if gps C r (p + 1).toNat = -1 then -1 else faults C (gps C r (p + 1).toNat)) = faults C p := by rw [e1, if_neg (by omega)]
                    rw [cfp]
                    have ih2 := ih16 (p + 1) _ (by omega) (by omega) (by omega) hx hm32
                    rw [e2, e1] at ih2
                    exact ih2)
                 | (have hc : ¬ (erl C p r ∧ hasFs C r p ∧ (if gps C r p.toNat = -1 then -1 else faults C (gps C r p.toNat)) < faults C p) := by
                      intro q
                      first
                        | exact absurd q.1 (by assumption)
                        | exact absurd q.2.1 hw2
                        | (have := q.2.2; omega)
                    have e1 : gps C r (p + 1).toNat = gps C r p.toNat := by rw [es, cif_f hc]
                    have ih2 := ih16 (p + 1) _ (by omega) (by omega) (by omega) hx hm32
                    rw [e1] at ih2
                    exact ih2)
        · skip
          refine g_aload_n X dX12_parentOf_91 rfl rfl ?_
          refine g_iV0_v X w_X12_isWithin ml_X12_189 dX12_parentOf_92 rfl (n40 hN) (en40 _ _ _ _) ⟨⟨Nat.le_of_ble_eq_true rfl, Nat.le_of_ble_eq_true rfl⟩, Nat.le_of_ble_eq_true rfl, Nat.le_of_ble_eq_true rfl⟩ (Nat.le_of_ble_eq_true rfl) (c_X12_isWithin hN) ?_
          refine g_ifB_eq (tgt := 122) X dX12_parentOf_95 rfl rfl (fun h95 => ?_) (fun h95 => ?_)
          · skip
            have hw2 : ¬ hasFs C r p := fun q => absurd ((wi_has hd (hR.rd p p0 (by omega)) hm32 hv32).mpr q) (by assumption)
            refine g_iinc_4 X dX12_parentOf_122 rfl (lt_kN hNL rfl) rfl ?_
            refine g_goto (pc' := 16) X dX12_parentOf_125 rfl ?_
            refine g_drop_5 ?_
            have es := gps_s C r p0
            first
                   | (have hc : erl C p r ∧ hasFs C r p ∧ (if gps C r p.toNat = -1 then -1 else faults C (gps C r p.toNat)) < faults C p := ⟨by assumption, hw1, by omega⟩
                      have f0 := faultsB (hR.rd p p0 (by omega))
                      have e1 : gps C r (p + 1).toNat = p := by rw [es, cif_t hc]
                      have e2 : (if gps C r (p + 1).toNat = -1 then -1 else faults C (gps C r (p + 1).toNat)) = faults C p := by rw [e1, if_neg (by omega)]
                      rw [cfp]
                      have ih2 := ih16 (p + 1) _ (by omega) (by omega) (by omega) hx hm32
                      rw [e2, e1] at ih2
                      exact ih2)
                   | (have hc : ¬ (erl C p r ∧ hasFs C r p ∧ (if gps C r p.toNat = -1 then -1 else faults C (gps C r p.toNat)) < faults C p) := by
                        intro q
                        first
                          | exact absurd q.1 (by assumption)
                          | exact absurd q.2.1 hw2
                          | (have := q.2.2; omega)
                      have e1 : gps C r (p + 1).toNat = gps C r p.toNat := by rw [es, cif_f hc]
                      have ih2 := ih16 (p + 1) _ (by omega) (by omega) (by omega) hx hm32
                      rw [e1] at ih2
                      exact ih2)
          · skip
            have hw1 : hasFs C r p := (wi_has hd (hR.rd p p0 (by omega)) hm32 hv32).mp (by assumption)
            have cfp : cntA Mc32 79 = faults C p := cnt_faults (hR.rd p p0 (by omega)) hv32
            have f0 := faultsB (hR.rd p p0 (by omega))
            refine g_aload_n X dX12_parentOf_98 rfl rfl ?_
            refine g_aload_n X dX12_parentOf_99 rfl rfl ?_
            refine g_get X ci12 (n40 hN) (en40 _ _ _ _) (by decide) fl_X12_137 rfl dX12_parentOf_100 rfl ?_
            refine g_iV1_v X w_X12_count ml_X12_182 dX12_parentOf_103 rfl (n40 hN) (en40 _ _ _ _) ⟨⟨Nat.le_of_ble_eq_true rfl, Nat.le_of_ble_eq_true rfl⟩, Nat.le_of_ble_eq_true rfl, Nat.le_of_ble_eq_true rfl⟩ (Nat.le_of_ble_eq_true rfl) (c_X12_count_79 hN) ?_
            refine g_iload_n X dX12_parentOf_106 rfl rfl ?_
            refine g_icmp_le (tgt := 122) X dX12_parentOf_107 rfl rfl (by omega) (by omega) (fun h107 => ?_) (fun h107 => ?_)
            · skip
              refine g_iinc_4 X dX12_parentOf_122 rfl (lt_kN hNL rfl) rfl ?_
              refine g_goto (pc' := 16) X dX12_parentOf_125 rfl ?_
              refine g_drop_5 ?_
              have es := gps_s C r p0
              first
                     | (have hc : erl C p r ∧ hasFs C r p ∧ (if gps C r p.toNat = -1 then -1 else faults C (gps C r p.toNat)) < faults C p := ⟨by assumption, hw1, by omega⟩
                        have f0 := faultsB (hR.rd p p0 (by omega))
                        have e1 : gps C r (p + 1).toNat = p := by rw [es, cif_t hc]
                        have e2 : (if gps C r (p + 1).toNat = -1 then -1 else faults C (gps C r (p + 1).toNat)) = faults C p := by rw [e1, if_neg (by omega)]
                        rw [cfp]
                        have ih2 := ih16 (p + 1) _ (by omega) (by omega) (by omega) hx hm32
                        rw [e2, e1] at ih2
                        exact ih2)
                     | (have hc : ¬ (erl C p r ∧ hasFs C r p ∧ (if gps C r p.toNat = -1 then -1 else faults C (gps C r p.toNat)) < faults C p) := by
                          intro q
                          first
                            | exact absurd q.1 (by assumption)
                            | exact absurd q.2.1 hw2
                            | (have := q.2.2; omega)
                        have e1 : gps C r (p + 1).toNat = gps C r p.toNat := by rw [es, cif_f hc]
                        have ih2 := ih16 (p + 1) _ (by omega) (by omega) (by omega) hx hm32
                        rw [e1] at ih2
                        exact ih2)
            · skip
              refine g_iload X dX12_parentOf_110 rfl rfl ?_
              refine g_istore_2 X dX12_parentOf_112 rfl (lt_kN hNL rfl) rfl ?_
              refine g_aload_n X dX12_parentOf_113 rfl rfl ?_
              refine g_aload_n X dX12_parentOf_114 rfl rfl ?_
              refine g_get X ci12 (n40 hN) (en40 _ _ _ _) (by decide) fl_X12_137 rfl dX12_parentOf_115 rfl ?_
              refine g_iV1_v X w_X12_count ml_X12_182 dX12_parentOf_118 rfl (n40 hN) (en40 _ _ _ _) ⟨⟨Nat.le_of_ble_eq_true rfl, Nat.le_of_ble_eq_true rfl⟩, Nat.le_of_ble_eq_true rfl, Nat.le_of_ble_eq_true rfl⟩ (Nat.le_of_ble_eq_true rfl) (c_X12_count_79 hN) ?_
              refine g_istore_3 X dX12_parentOf_121 rfl (lt_kN hNL rfl) rfl ?_
              refine g_iinc_4 X dX12_parentOf_122 rfl (lt_kN hNL rfl) rfl ?_
              refine g_goto (pc' := 16) X dX12_parentOf_125 rfl ?_
              refine g_drop_5 ?_
              have es := gps_s C r p0
              first
                     | (have hc : erl C p r ∧ hasFs C r p ∧ (if gps C r p.toNat = -1 then -1 else faults C (gps C r p.toNat)) < faults C p := ⟨by assumption, hw1, by omega⟩
                        have f0 := faultsB (hR.rd p p0 (by omega))
                        have e1 : gps C r (p + 1).toNat = p := by rw [es, cif_t hc]
                        have e2 : (if gps C r (p + 1).toNat = -1 then -1 else faults C (gps C r (p + 1).toNat)) = faults C p := by rw [e1, if_neg (by omega)]
                        rw [cfp]
                        have ih2 := ih16 (p + 1) _ (by omega) (by omega) (by omega) hx hm32
                        rw [e2, e1] at ih2
                        exact ih2)
                     | (have hc : ¬ (erl C p r ∧ hasFs C r p ∧ (if gps C r p.toNat = -1 then -1 else faults C (gps C r p.toNat)) < faults C p) := by
                          intro q
                          first
                            | exact absurd q.1 (by assumption)
                            | exact absurd q.2.1 hw2
                            | (have := q.2.2; omega)
                        have e1 : gps C r (p + 1).toNat = gps C r p.toNat := by rw [es, cif_f hc]
                        have ih2 := ih16 (p + 1) _ (by omega) (by omega) (by omega) hx hm32
                        rw [e1] at ih2
                        exact ih2)
  exact lp16 0 _ (by omega) (by omega) hE.w1 hv
