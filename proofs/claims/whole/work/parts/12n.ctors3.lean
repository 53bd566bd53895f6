theorem wsl_last {ws A Wi R : va_W} {x : Nat × va_E} (h : Wi = x :: R) : (ws ++ (A ++ Wi))[ws.length + A.length]? = some x := by
  rw [h]
  exact wsl_get (by rw [List.getElem?_append_right (Nat.le_refl _), Nat.sub_self]; rfl)
/-- the names of the class's world, in the order in which they are made -/
def NMC : List (Nat × Int) := [(0, 0), (1, 0)] ++ ([(2, 0), (3, 0)] ++ nms [4] 61) ++ [(5, 0)] ++ [(6, 0), (7, 0), (8, 0), (9, 0)] ++ ([(10, 0), (11, 0), (12, 0), (13, 0), (14, 0), (15, 0)] ++ nms [31] 120) ++ nms [16, 17, 18, 19, 20, 21] 12 ++ nms [22, 23, 24, 25, 26, 27, 28, 29, 30] 6
set_option maxRecDepth 100000 in
set_option maxHeartbeats 2000000 in
theorem c_X3_init {δ : Dx} {ws : va_W} {a : Nat} : CtW δ md_X3_init 0 0 ws [.ref a] (fun v ws' => v = none ∧ ws' = ws) := by
  refine CtW_of (ins := .return_) (ok := okN) [some (.ref a)] (by decide +kernel) rfl (Nat.le_of_ble_eq_true rfl) (fun κ s hs X hr hQ hδ => endWN rfl hs X hr hQ hδ) (fun κ X hNL hδ hnm Y => ?_)
  refine h_aload_n X dX3_init_0 rfl rfl ?_
  refine h_oi X ml_X3_3 dX3_init_1 rfl ⟨Nat.le_of_ble_eq_true rfl, Nat.le_of_ble_eq_true rfl⟩ ?_
  exact Y none _ _ _ dX3_init_4 rfl ⟨rfl, rfl⟩
set_option maxRecDepth 100000 in
set_option maxHeartbeats 2000000 in
theorem c_X6_init {δ : Dx} {ws : va_W} {a : Nat} : CtW δ md_X6_init 62 3782 (ws ++ [(a, .inr (6, [.null]))]) [.ref a] (fun v ws' => v = none ∧ ∃ ad : Ad, ad 2 0 = a ∧ ws' = ws ++ wl δ.2.2.1 ([(2, 0), (3, 0)] ++ nms [4] 61) ad Mem0) := by
  refine CtW_of (ins := .return_) (ok := okN) [some (.ref a)] (by decide +kernel) rfl (Nat.le_of_ble_eq_true rfl) (fun κ s hs X hr hQ hδ => endWN rfl hs X hr hQ hδ) (fun κ X hNL hδ hnm Y => ?_)
  have ec : kC κ = δ.2.2.1 := by rw [← hδ]
  refine h_aload_n X dX6_init_0 rfl rfl ?_
  refine h_oi X ml_X6_3 dX6_init_1 rfl ⟨Nat.le_of_ble_eq_true rfl, Nat.le_of_ble_eq_true rfl⟩ ?_
  refine h_aload_n X dX6_init_4 rfl rfl ?_
  refine h_bipush X dX6_init_5 rfl (by decide) ?_
  refine h_bipush X dX6_init_7 rfl (by decide) ?_
  refine h_mna X kl_X6_9 ⟨Nat.le_of_ble_eq_true rfl, Nat.le_of_ble_eq_true rfl⟩ dX6_init_9 rfl (fun q r => ?_)
  refine h_eq (List.append_assoc _ _ _) ?_
  refine hp_putF X ci6 (j := 0) (f := 0) rfl (Nat.le_of_ble_eq_true rfl) rfl hnm rfl rfl rfl (Nat.le_of_ble_eq_true rfl) fl_X6_11 dX6_init_13 rfl ?_
  refine h_eq (ws' := (ws ++ [(a, .inr (6, [.ref q]))]) ++ (q, .inl (kC κ 7, 61, .inr (.inr (.inr (.inr (fun i : Nat => if i < 61 then some (r i) else none)))))) :: (List.range 61).map (fun i => (r i, .inl (kC κ 0, 61, .inl (fun _ => iI 0))))) (by rw [List.append_assoc]; rfl) ?_
  refine h_cell (e' := .inl (kC κ 7, 61, .inr (.inr (.inr (.inr (fun i : Nat => some (r i))))))) (fun D cl H => at_q (fun j hj => if_pos hj)) ?_
  refine Y none _ _ _ dX6_init_16 rfl ⟨rfl, (fun k j => if k = 2 then a else if k = 3 then q else r j.toNat), rfl, ?_⟩
  rw [← ec, wl_app, List.append_assoc]
  refine congrArg (fun z => ws ++ z) ?_
  show (a, _) :: (q, _) :: _ = (a, _) :: (q, _) :: _
  have e1 : wl (kC κ) (nms [4] 61) (fun k j => if k = 2 then a else if k = 3 then q else r j.toNat) Mem0 = (List.range 61).map (fun i => (r i, .inl (kC κ 0, 61, .inl (fun _ => iI 0)))) := by
    unfold wl nms
    rw [List.map_flatMap]
    show (List.range 61).flatMap (fun i : Nat => [(r ((i : Int)).toNat, ent (kC κ) _ Mem0 4 (i : Int))]) = _
    rw [← List.map_eq_flatMap]
    exact List.map_congr_left (fun i _ => by rw [Int.toNat_natCast]; rfl)
  rw [e1]
  rfl
set_option maxRecDepth 100000 in
set_option maxHeartbeats 2000000 in
theorem c_X2_init {δ : Dx} {ws : va_W} {a : Nat} : CtW δ md_X2_init 125 1444 (ws ++ [(a, .inr (2, [.int (iI 0), .int (iI 0), .null, .null]))]) [.ref a] (fun v ws' => v = none ∧ ∃ ad : Ad, ad 10 0 = a ∧ ws' = ws ++ wl δ.2.2.1 ([(10, 0), (11, 0), (12, 0), (13, 0), (14, 0), (15, 0)] ++ nms [31] 120) ad Mem0) := by
  refine CtW_of (ins := .return_) (ok := okN) [some (.ref a), none] (by decide +kernel) rfl (Nat.le_of_ble_eq_true rfl) (fun κ s hs X hr hQ hδ => endWN rfl hs X hr hQ hδ) (fun κ X hNL hδ hnm Y => ?_)
  have ec : kC κ = δ.2.2.1 := by rw [← hδ]
  refine h_aload_n X dX2_init_0 rfl rfl ?_
  refine h_oi X ml_X2_3 dX2_init_1 rfl ⟨Nat.le_of_ble_eq_true rfl, Nat.le_of_ble_eq_true rfl⟩ ?_
  refine h_aload_n X dX2_init_4 rfl rfl ?_
  refine h_iconst X dX2_init_5 rfl ?_
  refine hp_put X ci2 (j := 0) (f := 1) rfl (Nat.le_of_ble_eq_true rfl) rfl rfl rfl (Nat.le_of_ble_eq_true rfl) fl_X2_9 dX2_init_6 rfl ?_
  refine h_aload_n X dX2_init_9 rfl rfl ?_
  refine h_bipush X dX2_init_10 rfl (by decide) ?_
  refine h_newq X (t0 := 6) (N' := 120) kl_X2_15 ao_X3 rfl rfl (Nat.le_of_ble_eq_true rfl) ⟨Nat.le_of_ble_eq_true rfl, Nat.le_of_ble_eq_true rfl⟩ dX2_init_12 rfl (fun fr => ?_)
  refine hp_putF X ci2 (j := 0) (f := 2) rfl (Nat.le_of_ble_eq_true rfl) rfl hnm rfl rfl rfl (Nat.le_of_ble_eq_true rfl) fl_X2_17 dX2_init_15 rfl ?_
  refine h_aload_n X dX2_init_18 rfl rfl ?_
  refine hp_new X ci0 (fs := [.int (iI 0), .null, .null, .null]) kl_X2_21 it_X0 ini_X0 (fun j hj => by
    rcases (show j = 0 ∨ j = 1 ∨ j = 2 ∨ j = 3 by omega) with h | h | h | h <;> (subst h; rfl)) ⟨Nat.le_of_ble_eq_true rfl, Nat.le_of_ble_eq_true rfl⟩ dX2_init_19 rfl (fun ch => ?_)
  refine h_dup X dX2_init_22 rfl rfl ?_
  refine h_invIN X w_X0_init ml_X2_23 ⟨⟨Nat.le_of_ble_eq_true rfl, Nat.le_of_ble_eq_true rfl⟩, Nat.le_of_ble_eq_true rfl, Nat.le_of_ble_eq_true rfl⟩ dX2_init_23 rfl (As := []) (rest := [.ref ch, .ref a]) rfl rfl (Nat.le_of_ble_eq_true rfl) (c_X0_init (i := 0)) (fun v ws1 hv => ?_)
  obtain ⟨rfl, b, hch, rfl⟩ := hv
  rw [← hch]
  rw [show (kδ κ).2.2.1 = kC κ from rfl]
  refine h_eq (List.append_assoc _ _ _) ?_
  refine hp_putF X ci2 (j := 0) (f := 3) rfl (Nat.le_of_ble_eq_true rfl) rfl hnm rfl rfl rfl (Nat.le_of_ble_eq_true rfl) fl_X2_24 dX2_init_26 rfl ?_
  refine h_iconst X dX2_init_29 rfl ?_
  refine h_istore_n X dX2_init_30 rfl (lt_kN hNL rfl) (fun i2 hi2 u hu => by
    have e1 : i2 = 0 := by simpa using hi2
    subst e1
    cases hu; rfl) ?_
  have hobj : ∀ Z : va_W, ((ws ++ [(a, .inr (2, [.int (iI 0), .int (iI 4), .ref fr, .ref (b 12)]))]) ++ Z)[ws.length + 0]? = some (a, .inr (2, [.int (iI 0), .int (iI 4), .ref fr, .ref (b 12)])) := fun Z => by rw [List.append_assoc]; exact wsl_get rfl
  generalize hW0 : wl (kC κ) [(12, 0), (13, 0), (14, 0), (15, 0)] (fun k _ => b k) Mem0 = W0
  have lp : ∀ (d i : Nat) (adQ : Ad), i + d = 120 → (∀ adQ, GW κ ((ws ++ [(a, .inr (2, [.int (iI 0), .int (iI 4), .ref fr, .ref (b 12)]))]) ++ ((fr, .inl (kC κ 6, 120, .inr (.inr (.inr (.inr (fun j : Nat => if j < 120 then some (adQ 31 (j : Int)) else none)))))) :: (W0 ++ wl (kC κ) (nms [31] 120) adQ Mem0))) 56 [some (.ref a), some (.int (iI 120))] [] (5 + 1 * 120) (484 + 8 * 120)) → GW κ ((ws ++ [(a, .inr (2, [.int (iI 0), .int (iI 4), .ref fr, .ref (b 12)]))]) ++ ((fr, .inl (kC κ 6, 120, .inr (.inr (.inr (.inr (fun j : Nat => if j < i then some (adQ 31 (j : Int)) else none)))))) :: (W0 ++ wl (kC κ) (nms [31] i) adQ Mem0))) 31 [some (.ref a), some (.int (iI (i : Int)))] [] (5 + 1 * i) (484 + 8 * i) := by
    intro d
    induction d with
    | zero =>
      intro i adQ hd kk
      have hi : i = 120 := by omega
      subst hi
      refine h_iload_n X dX2_init_31 rfl rfl ?_
      refine h_bipush X dX2_init_32 rfl (by decide) ?_
      exact h_icmp_ge (tgt := 56) X dX2_init_34 rfl rfl ⟨by omega, by omega⟩ (by decide) (fun _ => kk adQ) (fun h => absurd h (by omega))
    | succ d ih =>
      intro i adQ hd kk
      refine h_iload_n X dX2_init_31 rfl rfl ?_
      refine h_bipush X dX2_init_32 rfl (by decide) ?_
      refine h_icmp_ge (tgt := 56) X dX2_init_34 rfl rfl ⟨by omega, by omega⟩ (by decide) (fun h => absurd h (by omega)) (fun _ => ?_)
      refine h_aload_n X dX2_init_37 rfl rfl ?_
      refine h_get X ci2 (hobj _) (f := 2) (Nat.le_of_ble_eq_true rfl) fl_X2_17 rfl dX2_init_38 rfl ?_
      refine h_iload_n X dX2_init_41 rfl rfl ?_
      refine hp_new X ci3 (fs := [.int (iI 0), .int (iI 0), .int (iI 0), .long 0, .long 0, .int (iI 0), .int (iI 0), .int (iI 0)]) kl_X2_15 it_X3 ini_X3 (fun j hj => by
    rcases (show j = 0 ∨ j = 1 ∨ j = 2 ∨ j = 3 ∨ j = 4 ∨ j = 5 ∨ j = 6 ∨ j = 7 by omega) with h | h | h | h | h | h | h | h <;> (subst h; rfl)) ⟨by show 5 + 1 * i + 1 ≤ 125; omega, by show 484 + 8 * i + 8 ≤ 1444; omega⟩ dX2_init_42 rfl (fun q => ?_)
      refine h_dup X dX2_init_45 rfl rfl ?_
      refine h_invIN X w_X3_init ml_X2_28 ⟨⟨Nat.le_of_ble_eq_true rfl, Nat.le_of_ble_eq_true rfl⟩, by show 5 + 1 * i + 1 + 0 ≤ 125; omega, by show 484 + 8 * i + 8 + 0 ≤ 1444; omega⟩ dX2_init_46 rfl (As := []) (rest := [.ref q, .int (iI (i : Int)), .ref fr]) rfl rfl (Nat.le_of_ble_eq_true rfl) c_X3_init (fun v ws1 hv => ?_)
      obtain ⟨rfl, rfl⟩ := hv
      obtain ⟨bb, hb⟩ : ∃ bb : Nat → Nat, bb = (fun _ => q) := ⟨_, rfl⟩
      have hq : q = bb 31 := by rw [hb]
      have hw : ([(q, .inr (3, [.int (iI 0), .int (iI 0), .int (iI 0), .long 0, .long 0, .int (iI 0), .int (iI 0), .int (iI 0)]))] : va_W) = wl (kC κ) ([31].map (fun k => (k, (i : Int)))) (fun k _ => bb k) Mem0 := by rw [hb]; rfl
      rw [hw, hq]
      generalize hWi : wl (kC κ) ([31].map (fun k => (k, (i : Int)))) (fun k _ => bb k) Mem0 = Wi
      obtain ⟨vs, RR, hW1⟩ : ∃ (vs : List Value) (RR : va_W), Wi = (bb 31, .inr (3, vs)) :: RR := ⟨_, _, by rw [← hWi]; rfl⟩
      refine h_eq (List.append_assoc _ _ _) ?_
      refine h_aast X (t0 := 6) (ci := 3) (n := 120) (wsl_get (j := 0) rfl) rfl (wsl_last hW1) rfl (by omega) (by omega) (by decide) dX2_init_49 rfl ?_
      refine h_iinc X dX2_init_50 rfl (lt_kN hNL rfl) rfl (fun i2 hi2 u hu => by
      have e1 : i2 = 0 := by omega
      subst e1
      cases hu; rfl) ?_
      refine h_goto (pc' := 31) X dX2_init_53 rfl ?_
      rw [wsl_set]
      have e2 : (ws ++ [(a, .inr (2, [.int (iI 0), .int (iI 4), .ref fr, .ref (b 12)]))]) ++ ((fr, .inl (kC κ 6, 120, .inr (.inr (.inr (.inr (fun j : Nat => if j < (i + 1) then some ((adN adQ i bb) 31 (j : Int)) else none)))))) :: (W0 ++ wl (kC κ) (nms [31] (i + 1)) (adN adQ i bb) Mem0)) = (ws ++ [(a, .inr (2, [.int (iI 0), .int (iI 4), .ref fr, .ref (b 12)]))]) ++ ((fr, .inl (kC κ 6, 120, .inr (.inr (.inr (.inr (va_up (fun j : Nat => if j < i then some (adQ 31 (j : Int)) else none) ((i : Int)).toNat (some (bb 31)))))))) :: ((W0 ++ wl (kC κ) (nms [31] i) adQ Mem0) ++ Wi)) := by
        rw [fe_fill, wl_fill (by decide), hWi, List.append_assoc W0 _ Wi]
      refine h_eq e2.symm ?_
      have e3 := ih (i + 1) (adN adQ i bb) (by omega) kk
      have e4 : 5 + 1 * (i + 1) = 5 + 1 * i + 1 + 0 := by omega
      have e5 : 484 + 8 * (i + 1) = 484 + 8 * i + 8 + 0 := by omega
      rw [e4, e5] at e3
      exact e3
  refine h_eq (ws' := (ws ++ [(a, .inr (2, [.int (iI 0), .int (iI 4), .ref fr, .ref (b 12)]))]) ++ ((fr, .inl (kC κ 6, 120, .inr (.inr (.inr (.inr (fun j : Nat => if j < 0 then some (((fun _ _ => 0) : Ad) 31 (j : Int)) else none)))))) :: (W0 ++ wl (kC κ) (nms [31] 0) (fun _ _ => 0) Mem0))) ?_ (lp 120 0 (fun _ _ => 0) rfl (fun adR => ?_))
  · rw [List.append_assoc]
    refine congrArg (fun z => ws ++ z) ?_
    rw [← hW0]
    rfl
  · refine h_cell (e' := .inl (kC κ 6, 120, .inr (.inr (.inr (.inr (fun j : Nat => some (adR 31 (j : Int)))))))) (fun D cl H => at_q (fun j hj => if_pos hj)) ?_
    refine Y none _ _ _ dX2_init_56 rfl ⟨rfl, (fun k j => if k = 10 then a else if k = 11 then fr else if k = 31 then adR k j else b k), rfl, ?_⟩
    rw [← ec, wl_app, List.append_assoc]
    refine congrArg (fun z => ws ++ z) ?_
    have e1 : wl (kC κ) (nms [31] 120) adR Mem0 = wl (kC κ) (nms [31] 120) (fun k j => if k = 10 then a else if k = 11 then fr else if k = 31 then adR k j else b k) Mem0 := wl_cg (fun z hz => by
      obtain ⟨k, j⟩ := z
      have hk := (mem_nms.mp hz).1
      simp only [List.mem_cons, List.not_mem_nil, or_false] at hk
      subst hk
      exact ⟨rfl, fun k' hk' => absurd hk' List.not_mem_nil⟩)
    rw [e1, ← hW0]
    rfl
set_option maxRecDepth 100000 in
set_option maxHeartbeats 2000000 in
theorem c_X11_init {δ : Dx} {ws : va_W} {a : Nat} : CtW δ md_X11_init 321 33087 (ws ++ [(a, .inr (11, [.null, .int (iI 0), .int (iI 0), .int (iI 0), .null, .null, .int (iI 0), .int (iI 0), .null, .null]))]) [.ref a] (fun v ws' => v = none ∧ ∃ ad : Ad, ad 0 0 = a ∧ ws' = ws ++ wl δ.2.2.1 NMC ad Mem0) := by
  refine CtW_of (ins := .return_) (ok := okN) [some (.ref a), none] (by decide +kernel) rfl (Nat.le_of_ble_eq_true rfl) (fun κ s hs X hr hQ hδ => endWN rfl hs X hr hQ hδ) (fun κ X hNL hδ hnm Y => ?_)
  have ec : kC κ = δ.2.2.1 := by rw [← hδ]
  refine h_aload_n X dX11_init_0 rfl rfl ?_
  refine h_oi X ml_X11_3 dX11_init_1 rfl ⟨Nat.le_of_ble_eq_true rfl, Nat.le_of_ble_eq_true rfl⟩ ?_
  refine h_aload_n X dX11_init_4 rfl rfl ?_
  refine h_bipush X dX11_init_5 rfl (by decide) ?_
  refine h_newq X (t0 := 4) (N' := 12) kl_X11_9 ao_X8 rfl rfl (Nat.le_of_ble_eq_true rfl) ⟨Nat.le_of_ble_eq_true rfl, Nat.le_of_ble_eq_true rfl⟩ dX11_init_7 rfl (fun r1 => ?_)
  refine hp_putF X ci11 (j := 0) (f := 0) rfl (Nat.le_of_ble_eq_true rfl) rfl hnm rfl rfl rfl (Nat.le_of_ble_eq_true rfl) fl_X11_11 dX11_init_10 rfl ?_
  refine h_aload_n X dX11_init_13 rfl rfl ?_
  refine h_iconst X dX11_init_14 rfl ?_
  refine hp_put X ci11 (j := 0) (f := 1) rfl (Nat.le_of_ble_eq_true rfl) rfl rfl rfl (Nat.le_of_ble_eq_true rfl) fl_X11_15 dX11_init_15 rfl ?_
  refine h_aload_n X dX11_init_18 rfl rfl ?_
  refine h_sipush X dX11_init_19 rfl (by decide) ?_
  refine hp_put X ci11 (j := 0) (f := 2) rfl (Nat.le_of_ble_eq_true rfl) rfl rfl rfl (Nat.le_of_ble_eq_true rfl) fl_X11_19 dX11_init_22 rfl ?_
  refine h_aload_n X dX11_init_25 rfl rfl ?_
  refine h_bipush X dX11_init_26 rfl (by decide) ?_
  refine hp_put X ci11 (j := 0) (f := 3) rfl (Nat.le_of_ble_eq_true rfl) rfl rfl rfl (Nat.le_of_ble_eq_true rfl) fl_X11_22 dX11_init_28 rfl ?_
  refine h_aload_n X dX11_init_31 rfl rfl ?_
  refine hp_new X ci6 (fs := [.null]) kl_X11_25 it_X6 ini_X6 (fun j hj => by
    have e1 : j = 0 := by omega
    subst e1; rfl) ⟨Nat.le_of_ble_eq_true rfl, Nat.le_of_ble_eq_true rfl⟩ dX11_init_32 rfl (fun pr => ?_)
  refine h_dup X dX11_init_35 rfl rfl ?_
  refine h_invIN X w_X6_init ml_X11_27 ⟨⟨Nat.le_of_ble_eq_true rfl, Nat.le_of_ble_eq_true rfl⟩, Nat.le_of_ble_eq_true rfl, Nat.le_of_ble_eq_true rfl⟩ dX11_init_36 rfl (As := []) (rest := [.ref pr, .ref a]) rfl rfl (Nat.le_of_ble_eq_true rfl) c_X6_init (fun v ws1 hv => ?_)
  obtain ⟨rfl, adP, hpr, rfl⟩ := hv
  rw [← hpr, show (kδ κ).2.2.1 = kC κ from rfl]
  refine h_eq (List.append_assoc _ _ _) ?_
  refine hp_putF X ci11 (j := 0) (f := 4) rfl (Nat.le_of_ble_eq_true rfl) rfl hnm rfl rfl rfl (Nat.le_of_ble_eq_true rfl) fl_X11_28 dX11_init_39 rfl ?_
  refine h_aload_n X dX11_init_42 rfl rfl ?_
  refine h_bipush X dX11_init_43 rfl (by decide) ?_
  refine h_newq X (t0 := 5) (N' := 6) kl_X11_32 ao_X10 rfl rfl (Nat.le_of_ble_eq_true rfl) ⟨Nat.le_of_ble_eq_true rfl, Nat.le_of_ble_eq_true rfl⟩ dX11_init_45 rfl (fun v1 => ?_)
  refine hp_putF X ci11 (j := 0) (f := 5) rfl (Nat.le_of_ble_eq_true rfl) rfl hnm rfl rfl rfl (Nat.le_of_ble_eq_true rfl) fl_X11_34 dX11_init_48 rfl ?_
  refine h_aload_n X dX11_init_51 rfl rfl ?_
  refine h_iconst X dX11_init_52 rfl ?_
  refine hp_put X ci11 (j := 0) (f := 6) rfl (Nat.le_of_ble_eq_true rfl) rfl rfl rfl (Nat.le_of_ble_eq_true rfl) fl_X11_38 dX11_init_53 rfl ?_
  refine h_aload_n X dX11_init_56 rfl rfl ?_
  refine h_iconst X dX11_init_57 rfl ?_
  refine hp_put X ci11 (j := 0) (f := 7) rfl (Nat.le_of_ble_eq_true rfl) rfl rfl rfl (Nat.le_of_ble_eq_true rfl) fl_X11_41 dX11_init_58 rfl ?_
  refine h_aload_n X dX11_init_61 rfl rfl ?_
  refine hp_new X ci9 (fs := [.int (iI 0), .null, .null, .null]) kl_X11_44 it_X9 ini_X9 (fun j hj => by
    rcases (show j = 0 ∨ j = 1 ∨ j = 2 ∨ j = 3 by omega) with h | h | h | h <;> (subst h; rfl)) ⟨Nat.le_of_ble_eq_true rfl, Nat.le_of_ble_eq_true rfl⟩ dX11_init_62 rfl (fun sc1 => ?_)
  refine h_dup X dX11_init_65 rfl rfl ?_
  refine h_invIN X w_X9_init ml_X11_46 ⟨⟨Nat.le_of_ble_eq_true rfl, Nat.le_of_ble_eq_true rfl⟩, Nat.le_of_ble_eq_true rfl, Nat.le_of_ble_eq_true rfl⟩ dX11_init_66 rfl (As := []) (rest := [.ref sc1, .ref a]) rfl rfl (Nat.le_of_ble_eq_true rfl) (c_X9_init (i := 0)) (fun v ws1 hv => ?_)
  obtain ⟨rfl, bZ, hsc, rfl⟩ := hv
  rw [← hsc, show (kδ κ).2.2.1 = kC κ from rfl]
  refine h_eq (List.append_assoc _ _ _) ?_
  refine hp_putF X ci11 (j := 0) (f := 8) rfl (Nat.le_of_ble_eq_true rfl) rfl hnm rfl rfl rfl (Nat.le_of_ble_eq_true rfl) fl_X11_47 dX11_init_69 rfl ?_
  refine h_aload_n X dX11_init_72 rfl rfl ?_
  refine hp_new X ci2 (fs := [.int (iI 0), .int (iI 0), .null, .null]) kl_X11_51 it_X2 ini_X2 (fun j hj => by
    rcases (show j = 0 ∨ j = 1 ∨ j = 2 ∨ j = 3 by omega) with h | h | h | h <;> (subst h; rfl)) ⟨Nat.le_of_ble_eq_true rfl, Nat.le_of_ble_eq_true rfl⟩ dX11_init_73 rfl (fun ed => ?_)
  refine h_dup X dX11_init_76 rfl rfl ?_
  refine h_invI X w_X2_init ml_X11_53 ⟨⟨Nat.le_of_ble_eq_true rfl, Nat.le_of_ble_eq_true rfl⟩, Nat.le_of_ble_eq_true rfl, Nat.le_of_ble_eq_true rfl⟩ dX11_init_77 rfl (As := []) (rest := [.ref ed, .ref a]) rfl rfl (Nat.le_of_ble_eq_true rfl) c_X2_init (fun v ws1 hv => ?_)
  obtain ⟨rfl, adE, hed, rfl⟩ := hv
  rw [← hed, show (kδ κ).2.2.1 = kC κ from rfl]
  refine h_eq (List.append_assoc _ _ _) ?_
  refine hp_putF X ci11 (j := 0) (f := 9) rfl (Nat.le_of_ble_eq_true rfl) rfl hnm rfl rfl rfl (Nat.le_of_ble_eq_true rfl) fl_X11_54 dX11_init_80 rfl ?_
  refine h_iconst X dX11_init_83 rfl ?_
  refine h_istore_n X dX11_init_84 rfl (lt_kN hNL rfl) (fun i2 hi2 u hu => by
    have e1 : i2 = 0 := by simpa using hi2
    subst e1
    cases hu; rfl) ?_
  generalize hWP : wl (kC κ) ([(2, 0), (3, 0)] ++ nms [4] 61) adP Mem0 = WP
  generalize hWZ : wl (kC κ) [(6, 0), (7, 0), (8, 0), (9, 0)] (fun k _ => bZ k) Mem0 = WZ
  generalize hWE : wl (kC κ) ([(10, 0), (11, 0), (12, 0), (13, 0), (14, 0), (15, 0)] ++ nms [31] 120) adE Mem0 = WE
  generalize hY1 : (((WP ++ [(v1, .inl (kC κ 5, 6, .inr (.inr (.inr (.inr (fun _ => none))))))]) ++ WZ) ++ WE : va_W) = Y1
  have hobj : ∀ Z : va_W, ((ws ++ [(a, .inr (11, [.ref r1, .int (iI 0), .int (iI 2000), .int (iI 40), .ref (adP 2 0), .ref v1, .int (iI 0), .int (iI 0), .ref (bZ 6), .ref (adE 10 0)]))]) ++ Z)[ws.length + 0]? = some (a, .inr (11, [.ref r1, .int (iI 0), .int (iI 2000), .int (iI 40), .ref (adP 2 0), .ref v1, .int (iI 0), .int (iI 0), .ref (bZ 6), .ref (adE 10 0)])) := fun Z => by rw [List.append_assoc]; exact wsl_get rfl
  have lp1 : ∀ (d i : Nat) (adQ : Ad), i + d = 12 → (∀ adQ, GW κ ((ws ++ [(a, .inr (11, [.ref r1, .int (iI 0), .int (iI 2000), .int (iI 40), .ref (adP 2 0), .ref v1, .int (iI 0), .int (iI 0), .ref (bZ 6), .ref (adE 10 0)]))]) ++ ((r1, .inl (kC κ 4, 12, .inr (.inr (.inr (.inr (fun j : Nat => if j < 12 then some (adQ 16 (j : Int)) else none)))))) :: (Y1 ++ wl (kC κ) (nms [16, 17, 18, 19, 20, 21] 12) adQ Mem0))) 110 [some (.ref a), some (.int (iI 12))] [] (195 + 6 * 12) (5463 + 2195 * 12)) → GW κ ((ws ++ [(a, .inr (11, [.ref r1, .int (iI 0), .int (iI 2000), .int (iI 40), .ref (adP 2 0), .ref v1, .int (iI 0), .int (iI 0), .ref (bZ 6), .ref (adE 10 0)]))]) ++ ((r1, .inl (kC κ 4, 12, .inr (.inr (.inr (.inr (fun j : Nat => if j < i then some (adQ 16 (j : Int)) else none)))))) :: (Y1 ++ wl (kC κ) (nms [16, 17, 18, 19, 20, 21] i) adQ Mem0))) 85 [some (.ref a), some (.int (iI (i : Int)))] [] (195 + 6 * i) (5463 + 2195 * i) := by
    intro d
    induction d with
    | zero =>
      intro i adQ hd kk
      have hi : i = 12 := by omega
      subst hi
      refine h_iload_n X dX11_init_85 rfl rfl ?_
      refine h_bipush X dX11_init_86 rfl (by decide) ?_
      exact h_icmp_ge (tgt := 110) X dX11_init_88 rfl rfl ⟨by omega, by omega⟩ (by decide) (fun _ => kk adQ) (fun h => absurd h (by omega))
    | succ d ih =>
      intro i adQ hd kk
      refine h_iload_n X dX11_init_85 rfl rfl ?_
      refine h_bipush X dX11_init_86 rfl (by decide) ?_
      refine h_icmp_ge (tgt := 110) X dX11_init_88 rfl rfl ⟨by omega, by omega⟩ (by decide) (fun h => absurd h (by omega)) (fun _ => ?_)
      refine h_aload_n X dX11_init_91 rfl rfl ?_
      refine h_get X ci11 (hobj _) (f := 0) (Nat.le_of_ble_eq_true rfl) fl_X11_11 rfl dX11_init_92 rfl ?_
      refine h_iload_n X dX11_init_95 rfl rfl ?_
      refine hp_new X ci8 (fs := [.int (iI 0), .int (iI 0), .int (iI 0), .int (iI 0), .int (iI 0), .int (iI 0), .int (iI 0), .int (iI 0), .int (iI 0), .int (iI 0), .null, .null, .null, .null, .null]) kl_X11_9 it_X8 ini_X8 (fun j hj => by
    rcases (show j = 0 ∨ j = 1 ∨ j = 2 ∨ j = 3 ∨ j = 4 ∨ j = 5 ∨ j = 6 ∨ j = 7 ∨ j = 8 ∨ j = 9 ∨ j = 10 ∨ j = 11 ∨ j = 12 ∨ j = 13 ∨ j = 14 by omega) with h | h | h | h | h | h | h | h | h | h | h | h | h | h | h <;> (subst h; rfl)) ⟨by show 195 + 6 * i + 1 ≤ 321; omega, by show 5463 + 2195 * i + 15 ≤ 33087; omega⟩ dX11_init_96 rfl (fun q => ?_)
      refine h_dup X dX11_init_99 rfl rfl ?_
      refine h_invIN X w_X8_init ml_X11_58 ⟨⟨Nat.le_of_ble_eq_true rfl, Nat.le_of_ble_eq_true rfl⟩, by show 195 + 6 * i + 1 + 5 ≤ 321; omega, by show 5463 + 2195 * i + 15 + 2180 ≤ 33087; omega⟩ dX11_init_100 rfl (As := []) (rest := [.ref q, .int (iI (i : Int)), .ref r1]) rfl rfl (Nat.le_of_ble_eq_true rfl) (c_X8_init (i := (i : Int))) (fun v ws1 hv => ?_)
      obtain ⟨rfl, bb, hq, rfl⟩ := hv
      rw [← hq]
      rw [show (kδ κ).2.2.1 = kC κ from rfl]
      have hw : wl (kC κ) [(16, (i : Int)), (17, (i : Int)), (18, (i : Int)), (19, (i : Int)), (20, (i : Int)), (21, (i : Int))] (fun k _ => bb k) Mem0 = wl (kC κ) ([16, 17, 18, 19, 20, 21].map (fun k => (k, (i : Int)))) (fun k _ => bb k) Mem0 := rfl
      rw [hw]
      generalize hWi : wl (kC κ) ([16, 17, 18, 19, 20, 21].map (fun k => (k, (i : Int)))) (fun k _ => bb k) Mem0 = Wi
      obtain ⟨vs, RR, hW1⟩ : ∃ (vs : List Value) (RR : va_W), Wi = (bb 16, .inr (8, vs)) :: RR := ⟨_, _, by rw [← hWi]; rfl⟩
      refine h_eq (List.append_assoc _ _ _) ?_
      refine h_aast X (t0 := 4) (ci := 8) (n := 12) (wsl_get (j := 0) rfl) rfl (wsl_last hW1) rfl (by omega) (by omega) (by decide) dX11_init_103 rfl ?_
      refine h_iinc X dX11_init_104 rfl (lt_kN hNL rfl) rfl (fun i2 hi2 u hu => by
      have e1 : i2 = 0 := by omega
      subst e1
      cases hu; rfl) ?_
      refine h_goto (pc' := 85) X dX11_init_107 rfl ?_
      rw [wsl_set]
      have e2 : (ws ++ [(a, .inr (11, [.ref r1, .int (iI 0), .int (iI 2000), .int (iI 40), .ref (adP 2 0), .ref v1, .int (iI 0), .int (iI 0), .ref (bZ 6), .ref (adE 10 0)]))]) ++ ((r1, .inl (kC κ 4, 12, .inr (.inr (.inr (.inr (fun j : Nat => if j < (i + 1) then some ((adN adQ i bb) 16 (j : Int)) else none)))))) :: (Y1 ++ wl (kC κ) (nms [16, 17, 18, 19, 20, 21] (i + 1)) (adN adQ i bb) Mem0)) = (ws ++ [(a, .inr (11, [.ref r1, .int (iI 0), .int (iI 2000), .int (iI 40), .ref (adP 2 0), .ref v1, .int (iI 0), .int (iI 0), .ref (bZ 6), .ref (adE 10 0)]))]) ++ ((r1, .inl (kC κ 4, 12, .inr (.inr (.inr (.inr (va_up (fun j : Nat => if j < i then some (adQ 16 (j : Int)) else none) ((i : Int)).toNat (some (bb 16)))))))) :: ((Y1 ++ wl (kC κ) (nms [16, 17, 18, 19, 20, 21] i) adQ Mem0) ++ Wi)) := by
        rw [fe_fill, wl_fill (by decide), hWi, List.append_assoc Y1 _ Wi]
      refine h_eq e2.symm ?_
      have e3 := ih (i + 1) (adN adQ i bb) (by omega) kk
      have e4 : 195 + 6 * (i + 1) = 195 + 6 * i + 1 + 5 := by omega
      have e5 : 5463 + 2195 * (i + 1) = 5463 + 2195 * i + 15 + 2180 := by omega
      rw [e4, e5] at e3
      exact e3
  refine h_eq (ws' := (ws ++ [(a, .inr (11, [.ref r1, .int (iI 0), .int (iI 2000), .int (iI 40), .ref (adP 2 0), .ref v1, .int (iI 0), .int (iI 0), .ref (bZ 6), .ref (adE 10 0)]))]) ++ ((r1, .inl (kC κ 4, 12, .inr (.inr (.inr (.inr (fun j : Nat => if j < 0 then some (((fun _ _ => 0) : Ad) 16 (j : Int)) else none)))))) :: (Y1 ++ wl (kC κ) (nms [16, 17, 18, 19, 20, 21] 0) (fun _ _ => 0) Mem0))) ?_ (lp1 12 0 (fun _ _ => 0) rfl (fun adR => ?_))
  · rw [List.append_assoc]
    refine congrArg (fun z => ws ++ z) ?_
    rw [← hY1]
    show _ = (a, _) :: (r1, _) :: (_ ++ [])
    rw [List.append_nil]
    rfl
  refine h_cell (e' := .inl (kC κ 4, 12, .inr (.inr (.inr (.inr (fun j : Nat => some (adR 16 (j : Int)))))))) (fun D cl H => at_q (fun j hj => if_pos hj)) ?_
  refine h_iconst X dX11_init_110 rfl ?_
  refine h_istore_n X dX11_init_111 rfl (lt_kN hNL rfl) (fun i2 hi2 u hu => by
    have e1 : i2 = 0 := by simpa using hi2
    subst e1
    cases hu; rfl) ?_
  clear hobj lp1
  generalize hWR : wl (kC κ) (nms [16, 17, 18, 19, 20, 21] 12) adR Mem0 = WR
  have hobj : ∀ Z : va_W, (((ws ++ [(a, .inr (11, [.ref r1, .int (iI 0), .int (iI 2000), .int (iI 40), .ref (adP 2 0), .ref v1, .int (iI 0), .int (iI 0), .ref (bZ 6), .ref (adE 10 0)]))]) ++ ((r1, .inl (kC κ 4, 12, .inr (.inr (.inr (.inr (fun j : Nat => some (adR 16 (j : Int)))))))) :: WP)) ++ Z)[ws.length + 0]? = some (a, .inr (11, [.ref r1, .int (iI 0), .int (iI 2000), .int (iI 40), .ref (adP 2 0), .ref v1, .int (iI 0), .int (iI 0), .ref (bZ 6), .ref (adE 10 0)])) := fun Z => by rw [List.append_assoc, List.append_assoc]; exact wsl_get rfl
  have lp2 : ∀ (d i : Nat) (adQ : Ad), i + d = 6 → (∀ adQ, GW κ (((ws ++ [(a, .inr (11, [.ref r1, .int (iI 0), .int (iI 2000), .int (iI 40), .ref (adP 2 0), .ref v1, .int (iI 0), .int (iI 0), .ref (bZ 6), .ref (adE 10 0)]))]) ++ ((r1, .inl (kC κ 4, 12, .inr (.inr (.inr (.inr (fun j : Nat => some (adR 16 (j : Int)))))))) :: WP)) ++ ((v1, .inl (kC κ 5, 6, .inr (.inr (.inr (.inr (fun j : Nat => if j < 6 then some (adQ 22 (j : Int)) else none)))))) :: ((WZ ++ (WE ++ WR)) ++ wl (kC κ) (nms [22, 23, 24, 25, 26, 27, 28, 29, 30] 6) adQ Mem0))) 137 [some (.ref a), some (.int (iI 6))] [] (267 + 9 * 6) (31803 + 214 * 6)) → GW κ (((ws ++ [(a, .inr (11, [.ref r1, .int (iI 0), .int (iI 2000), .int (iI 40), .ref (adP 2 0), .ref v1, .int (iI 0), .int (iI 0), .ref (bZ 6), .ref (adE 10 0)]))]) ++ ((r1, .inl (kC κ 4, 12, .inr (.inr (.inr (.inr (fun j : Nat => some (adR 16 (j : Int)))))))) :: WP)) ++ ((v1, .inl (kC κ 5, 6, .inr (.inr (.inr (.inr (fun j : Nat => if j < i then some (adQ 22 (j : Int)) else none)))))) :: ((WZ ++ (WE ++ WR)) ++ wl (kC κ) (nms [22, 23, 24, 25, 26, 27, 28, 29, 30] i) adQ Mem0))) 112 [some (.ref a), some (.int (iI (i : Int)))] [] (267 + 9 * i) (31803 + 214 * i) := by
    intro d
    induction d with
    | zero =>
      intro i adQ hd kk
      have hi : i = 6 := by omega
      subst hi
      refine h_iload_n X dX11_init_112 rfl rfl ?_
      refine h_bipush X dX11_init_113 rfl (by decide) ?_
      exact h_icmp_ge (tgt := 137) X dX11_init_115 rfl rfl ⟨by omega, by omega⟩ (by decide) (fun _ => kk adQ) (fun h => absurd h (by omega))
    | succ d ih =>
      intro i adQ hd kk
      refine h_iload_n X dX11_init_112 rfl rfl ?_
      refine h_bipush X dX11_init_113 rfl (by decide) ?_
      refine h_icmp_ge (tgt := 137) X dX11_init_115 rfl rfl ⟨by omega, by omega⟩ (by decide) (fun h => absurd h (by omega)) (fun _ => ?_)
      refine h_aload_n X dX11_init_118 rfl rfl ?_
      refine h_get X ci11 (hobj _) (f := 5) (Nat.le_of_ble_eq_true rfl) fl_X11_34 rfl dX11_init_119 rfl ?_
      refine h_iload_n X dX11_init_122 rfl rfl ?_
      refine hp_new X ci10 (fs := [.int (iI 0), .int (iI 0), .int (iI 0), .int (iI 0), .int (iI 0), .null, .null, .null, .int (iI 0), .null, .null, .null, .null, .null]) kl_X11_32 it_X10 ini_X10 (fun j hj => by
    rcases (show j = 0 ∨ j = 1 ∨ j = 2 ∨ j = 3 ∨ j = 4 ∨ j = 5 ∨ j = 6 ∨ j = 7 ∨ j = 8 ∨ j = 9 ∨ j = 10 ∨ j = 11 ∨ j = 12 ∨ j = 13 by omega) with h | h | h | h | h | h | h | h | h | h | h | h | h | h <;> (subst h; rfl)) ⟨by show 267 + 9 * i + 1 ≤ 321; omega, by show 31803 + 214 * i + 14 ≤ 33087; omega⟩ dX11_init_123 rfl (fun q => ?_)
      refine h_dup X dX11_init_126 rfl rfl ?_
      refine h_invIN X w_X10_init ml_X11_59 ⟨⟨Nat.le_of_ble_eq_true rfl, Nat.le_of_ble_eq_true rfl⟩, by show 267 + 9 * i + 1 + 8 ≤ 321; omega, by show 31803 + 214 * i + 14 + 200 ≤ 33087; omega⟩ dX11_init_127 rfl (As := []) (rest := [.ref q, .int (iI (i : Int)), .ref v1]) rfl rfl (Nat.le_of_ble_eq_true rfl) (c_X10_init (i := (i : Int))) (fun v ws1 hv => ?_)
      obtain ⟨rfl, bb, hq, rfl⟩ := hv
      rw [← hq]
      rw [show (kδ κ).2.2.1 = kC κ from rfl]
      have hw : wl (kC κ) [(22, (i : Int)), (23, (i : Int)), (24, (i : Int)), (25, (i : Int)), (26, (i : Int)), (27, (i : Int)), (28, (i : Int)), (29, (i : Int)), (30, (i : Int))] (fun k _ => bb k) Mem0 = wl (kC κ) ([22, 23, 24, 25, 26, 27, 28, 29, 30].map (fun k => (k, (i : Int)))) (fun k _ => bb k) Mem0 := rfl
      rw [hw]
      generalize hWi : wl (kC κ) ([22, 23, 24, 25, 26, 27, 28, 29, 30].map (fun k => (k, (i : Int)))) (fun k _ => bb k) Mem0 = Wi
      obtain ⟨vs, RR, hW1⟩ : ∃ (vs : List Value) (RR : va_W), Wi = (bb 22, .inr (10, vs)) :: RR := ⟨_, _, by rw [← hWi]; rfl⟩
      refine h_eq (List.append_assoc _ _ _) ?_
      refine h_aast X (t0 := 5) (ci := 10) (n := 6) (wsl_get (j := 0) rfl) rfl (wsl_last hW1) rfl (by omega) (by omega) (by decide) dX11_init_130 rfl ?_
      refine h_iinc X dX11_init_131 rfl (lt_kN hNL rfl) rfl (fun i2 hi2 u hu => by
      have e1 : i2 = 0 := by omega
      subst e1
      cases hu; rfl) ?_
      refine h_goto (pc' := 112) X dX11_init_134 rfl ?_
      rw [wsl_set]
      have e2 : ((ws ++ [(a, .inr (11, [.ref r1, .int (iI 0), .int (iI 2000), .int (iI 40), .ref (adP 2 0), .ref v1, .int (iI 0), .int (iI 0), .ref (bZ 6), .ref (adE 10 0)]))]) ++ ((r1, .inl (kC κ 4, 12, .inr (.inr (.inr (.inr (fun j : Nat => some (adR 16 (j : Int)))))))) :: WP)) ++ ((v1, .inl (kC κ 5, 6, .inr (.inr (.inr (.inr (fun j : Nat => if j < (i + 1) then some ((adN adQ i bb) 22 (j : Int)) else none)))))) :: ((WZ ++ (WE ++ WR)) ++ wl (kC κ) (nms [22, 23, 24, 25, 26, 27, 28, 29, 30] (i + 1)) (adN adQ i bb) Mem0)) = ((ws ++ [(a, .inr (11, [.ref r1, .int (iI 0), .int (iI 2000), .int (iI 40), .ref (adP 2 0), .ref v1, .int (iI 0), .int (iI 0), .ref (bZ 6), .ref (adE 10 0)]))]) ++ ((r1, .inl (kC κ 4, 12, .inr (.inr (.inr (.inr (fun j : Nat => some (adR 16 (j : Int)))))))) :: WP)) ++ ((v1, .inl (kC κ 5, 6, .inr (.inr (.inr (.inr (va_up (fun j : Nat => if j < i then some (adQ 22 (j : Int)) else none) ((i : Int)).toNat (some (bb 22)))))))) :: (((WZ ++ (WE ++ WR)) ++ wl (kC κ) (nms [22, 23, 24, 25, 26, 27, 28, 29, 30] i) adQ Mem0) ++ Wi)) := by
        rw [fe_fill, wl_fill (by decide), hWi, List.append_assoc (WZ ++ (WE ++ WR)) _ Wi]
      refine h_eq e2.symm ?_
      have e3 := ih (i + 1) (adN adQ i bb) (by omega) kk
      have e4 : 267 + 9 * (i + 1) = 267 + 9 * i + 1 + 8 := by omega
      have e5 : 31803 + 214 * (i + 1) = 31803 + 214 * i + 14 + 200 := by omega
      rw [e4, e5] at e3
      exact e3
  refine h_eq (ws' := ((ws ++ [(a, .inr (11, [.ref r1, .int (iI 0), .int (iI 2000), .int (iI 40), .ref (adP 2 0), .ref v1, .int (iI 0), .int (iI 0), .ref (bZ 6), .ref (adE 10 0)]))]) ++ ((r1, .inl (kC κ 4, 12, .inr (.inr (.inr (.inr (fun j : Nat => some (adR 16 (j : Int)))))))) :: WP)) ++ ((v1, .inl (kC κ 5, 6, .inr (.inr (.inr (.inr (fun j : Nat => if j < 0 then some (((fun _ _ => 0) : Ad) 22 (j : Int)) else none)))))) :: ((WZ ++ (WE ++ WR)) ++ wl (kC κ) (nms [22, 23, 24, 25, 26, 27, 28, 29, 30] 0) (fun _ _ => 0) Mem0))) ?_ (lp2 6 0 (fun _ _ => 0) rfl (fun adV => ?_))
  · rw [← hY1]
    show (ws ++ _) ++ ((r1, _) :: ((((WP ++ [(v1, _)]) ++ WZ) ++ WE) ++ WR)) = _ ++ ((v1, _) :: ((WZ ++ (WE ++ WR)) ++ []))
    simp only [List.append_assoc, List.cons_append, List.nil_append, List.append_nil]
    rfl
  refine h_cell (e' := .inl (kC κ 5, 6, .inr (.inr (.inr (.inr (fun j : Nat => some (adV 22 (j : Int)))))))) (fun D cl H => at_q (fun j hj => if_pos hj)) ?_
  have hA : ∃ adF : Ad, adF = (fun k j => if k = 0 then a else if k = 1 then r1 else if k = 5 then v1 else if k ≤ 4 then adP k j else if k ≤ 9 then bZ k else if k ≤ 15 then adE k j else if k ≤ 21 then adR k j else if k ≤ 30 then adV k j else adE k j) := ⟨_, rfl⟩
  obtain ⟨adF, hadF⟩ := hA
  have eP : WP = wl (kC κ) ([(2, 0), (3, 0)] ++ nms [4] 61) adF Mem0 := by
    rw [← hWP]
    refine wl_cg (fun z hz => ?_)
    obtain ⟨k, j⟩ := z
    have hk : k ∈ ([2, 3, 4] : List Nat) := by
      rcases List.mem_append.mp hz with hz | hz
      · simp only [List.mem_cons, List.not_mem_nil, or_false, Prod.mk.injEq] at hz
        simp only [List.mem_cons, List.not_mem_nil, or_false]
        omega
      · have := (mem_nms.mp hz).1
        simp only [List.mem_cons, List.not_mem_nil, or_false] at this ⊢
        omega
    have h1 : ∀ k ∈ ([2, 3, 4] : List Nat), ∀ j, adF k j = adP k j := by
      intro k hk j
      simp only [List.mem_cons, List.not_mem_nil, or_false] at hk
      rw [hadF]
      rcases hk with hk | hk | hk <;> subst hk <;> rfl
    have h2 : ∀ k ∈ ([2, 3, 4] : List Nat), ∀ k' ∈ refK k, k' ∈ ([2, 3, 4] : List Nat) := by decide
    exact ⟨h1 k hk j, fun k' hk' j' => h1 k' (h2 k hk k' hk') j'⟩
  have eZ : WZ = wl (kC κ) ([(6, 0), (7, 0), (8, 0), (9, 0)]) adF Mem0 := by
    rw [← hWZ]
    refine wl_cg (fun z hz => ?_)
    obtain ⟨k, j⟩ := z
    have hk : k ∈ ([6, 7, 8, 9] : List Nat) := by
      simp only [List.mem_cons, List.not_mem_nil, or_false, Prod.mk.injEq] at hz
      simp only [List.mem_cons, List.not_mem_nil, or_false]
      omega
    have h1 : ∀ k ∈ ([6, 7, 8, 9] : List Nat), ∀ j, adF k j = bZ k := by
      intro k hk j
      simp only [List.mem_cons, List.not_mem_nil, or_false] at hk
      rw [hadF]
      rcases hk with hk | hk | hk | hk <;> subst hk <;> rfl
    have h2 : ∀ k ∈ ([6, 7, 8, 9] : List Nat), ∀ k' ∈ refK k, k' ∈ ([6, 7, 8, 9] : List Nat) := by decide
    exact ⟨h1 k hk j, fun k' hk' j' => h1 k' (h2 k hk k' hk') j'⟩
  have eE : WE = wl (kC κ) ([(10, 0), (11, 0), (12, 0), (13, 0), (14, 0), (15, 0)] ++ nms [31] 120) adF Mem0 := by
    rw [← hWE]
    refine wl_cg (fun z hz => ?_)
    obtain ⟨k, j⟩ := z
    have hk : k ∈ ([10, 11, 12, 13, 14, 15, 31] : List Nat) := by
      rcases List.mem_append.mp hz with hz | hz
      · simp only [List.mem_cons, List.not_mem_nil, or_false, Prod.mk.injEq] at hz
        simp only [List.mem_cons, List.not_mem_nil, or_false]
        omega
      · have := (mem_nms.mp hz).1
        simp only [List.mem_cons, List.not_mem_nil, or_false] at this ⊢
        omega
    have h1 : ∀ k ∈ ([10, 11, 12, 13, 14, 15, 31] : List Nat), ∀ j, adF k j = adE k j := by
      intro k hk j
      simp only [List.mem_cons, List.not_mem_nil, or_false] at hk
      rw [hadF]
      rcases hk with hk | hk | hk | hk | hk | hk | hk <;> subst hk <;> rfl
    have h2 : ∀ k ∈ ([10, 11, 12, 13, 14, 15, 31] : List Nat), ∀ k' ∈ refK k, k' ∈ ([10, 11, 12, 13, 14, 15, 31] : List Nat) := by decide
    exact ⟨h1 k hk j, fun k' hk' j' => h1 k' (h2 k hk k' hk') j'⟩
  have eR : WR = wl (kC κ) (nms [16, 17, 18, 19, 20, 21] 12) adF Mem0 := by
    rw [← hWR]
    refine wl_cg (fun z hz => ?_)
    obtain ⟨k, j⟩ := z
    have hk : k ∈ ([16, 17, 18, 19, 20, 21] : List Nat) := by
      exact (mem_nms.mp hz).1
    have h1 : ∀ k ∈ ([16, 17, 18, 19, 20, 21] : List Nat), ∀ j, adF k j = adR k j := by
      intro k hk j
      simp only [List.mem_cons, List.not_mem_nil, or_false] at hk
      rw [hadF]
      rcases hk with hk | hk | hk | hk | hk | hk <;> subst hk <;> rfl
    have h2 : ∀ k ∈ ([16, 17, 18, 19, 20, 21] : List Nat), ∀ k' ∈ refK k, k' ∈ ([16, 17, 18, 19, 20, 21] : List Nat) := by decide
    exact ⟨h1 k hk j, fun k' hk' j' => h1 k' (h2 k hk k' hk') j'⟩
  generalize hWV : wl (kC κ) (nms [22, 23, 24, 25, 26, 27, 28, 29, 30] 6) adV Mem0 = WV
  have eV : WV = wl (kC κ) (nms [22, 23, 24, 25, 26, 27, 28, 29, 30] 6) adF Mem0 := by
    rw [← hWV]
    refine wl_cg (fun z hz => ?_)
    obtain ⟨k, j⟩ := z
    have hk : k ∈ ([22, 23, 24, 25, 26, 27, 28, 29, 30] : List Nat) := by
      exact (mem_nms.mp hz).1
    have h1 : ∀ k ∈ ([22, 23, 24, 25, 26, 27, 28, 29, 30] : List Nat), ∀ j, adF k j = adV k j := by
      intro k hk j
      simp only [List.mem_cons, List.not_mem_nil, or_false] at hk
      rw [hadF]
      rcases hk with hk | hk | hk | hk | hk | hk | hk | hk | hk <;> subst hk <;> rfl
    have h2 : ∀ k ∈ ([22, 23, 24, 25, 26, 27, 28, 29, 30] : List Nat), ∀ k' ∈ refK k, k' ∈ ([22, 23, 24, 25, 26, 27, 28, 29, 30] : List Nat) := by decide
    exact ⟨h1 k hk j, fun k' hk' j' => h1 k' (h2 k hk k' hk') j'⟩
  refine Y none _ _ _ dX11_init_137 rfl ⟨rfl, adF, by rw [hadF]; rfl, ?_⟩
  rw [← ec]
  have x1 : adF 0 0 = a := by rw [hadF]; rfl
  have x2 : adF 1 0 = r1 := by rw [hadF]; rfl
  have x3 : adF 5 0 = v1 := by rw [hadF]; rfl
  have x4 : adF 2 0 = adP 2 0 := by rw [hadF]; rfl
  have x5 : adF 6 0 = bZ 6 := by rw [hadF]; rfl
  have x6 : adF 10 0 = adE 10 0 := by rw [hadF]; rfl
  have y0 : (a, .inr (11, [.ref r1, .int (iI 0), .int (iI 2000), .int (iI 40), .ref (adP 2 0), .ref v1, .int (iI 0), .int (iI 0), .ref (bZ 6), .ref (adE 10 0)])) = (adF 0 0, ent (kC κ) adF Mem0 0 0) := by rw [en0, x1, x2, x3, x4, x5, x6]; rfl
  have y1 : (r1, .inl (kC κ 4, 12, .inr (.inr (.inr (.inr (fun j : Nat => some (adR 16 (j : Int)))))))) = (adF 1 0, ent (kC κ) adF Mem0 1 0) := by
    rw [en1, x2]
    have : ∀ j : Int, adF 16 j = adR 16 j := fun j => by rw [hadF]; rfl
    simp only [this]
  have y5 : (v1, .inl (kC κ 5, 6, .inr (.inr (.inr (.inr (fun j : Nat => some (adV 22 (j : Int)))))))) = (adF 5 0, ent (kC κ) adF Mem0 5 0) := by
    rw [en5, x3]
    have : ∀ j : Int, adF 22 j = adV 22 j := fun j => by rw [hadF]; rfl
    simp only [this]
  rw [eP, eZ, eE, eR, eV, y0, y1, y5]
  unfold NMC
  simp only [wl_app, List.append_assoc, List.cons_append, List.nil_append]
  rfl
