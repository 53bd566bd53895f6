def AdM (ad ad' : Ad) : Prop := ∀ (k : Nat) (i : Int), k ≠ 13 → k ≠ 14 → k ≠ 15 → k ≠ 95 → k ≠ 96 → ad' k i = ad k i
theorem c_X11_flicker {δ : Dx} {nm : List (Nat × Int)} {ad : Ad} {M : Mem} {mc ms : Nat} (hN : NmOk nm) (hm : NmM nm) (e0 : 0 ≤ (M.1 10 0 0 0) ∧ (M.1 10 0 0 0) ≤ 120) (hc : CapOk M) (cm : (M.1 12 0 0 0) + 120 ≤ 61440) (nb : ∀ k, 0 ≤ k → k < 120 → 0 ≤ (M.1 31 6 k 0) ∧ (M.1 31 6 k 0) ≤ 99000) (hmc : 1 ≤ mc) (hroom : (M.1 13 1 0 0) < (M.1 12 0 0 0) + sm (dI (decN M (fun a h b => mfF (flk a h b) h 8))) 1 (hiN M) → 4 ≤ mc ∧ 6 * (M.1 13 1 0 0) ≤ ms) : Ct δ md_X11_flicker mc ms nm ad M [.ref (ad 0 0)] (fun v ad' M' => v = some (.int (iI (sm (dI (decN M (fun a h b => mfF (flk a h b) h 8))) 1 (hiN M)))) ∧ AdM ad ad' ∧ MdR (decN M (fun a h b => mfF (flk a h b) h 8)) (mvN M (fun a h b => mfF (flk a h b) h 8)) 1 (hiN M) M M') := by
  refine Ct_of (ins := .ireturn) (ok := okI) [some (.ref (ad 0 0))] (by decide +kernel) rfl (Nat.le_of_ble_eq_true rfl) (fun κ s hs X hr hQ hδ => endI rfl hs X hr hQ hδ) (fun κ X hNL hδ Y => ?_)
  refine g_aload_n X dX11_flicker_0 rfl rfl ?_
  refine g_get X ci11 (n0 hN) (en0 _ _ _ _) (by decide) fl_X11_54 rfl dX11_flicker_1 rfl ?_
  refine g_new96 X hm ⟨by show 0 + 1 ≤ mc; omega, by show 0 + 0 ≤ ms; omega⟩ dX11_flicker_4 rfl (fun q => ?_)
  have hN2 : NmOk (nm ++ [(96, 0)]) := fun k i h0 h1 => List.mem_append_left _ (hN k i h0 h1)
  refine g_dup X dX11_flicker_7 rfl rfl ?_
  refine g_iIN X w_X4_init ml_X11_269 ⟨⟨Nat.le_of_ble_eq_true rfl, Nat.le_of_ble_eq_true rfl⟩, by show 0 + 1 + 0 ≤ mc; omega, by show 0 + 0 + 0 ≤ ms; omega⟩ dX11_flicker_8 rfl (As := []) (rest := [.ref (adU ad 96 q 96 0), .ref (ad 10 0)]) rfl rfl (Nat.le_of_ble_eq_true rfl) c_X4_init (fun v ad' M' h => ?_)
  obtain ⟨h1, h2, h3⟩ := h
  subst h1; subst h2; subst h3
  show G κ (nm ++ [(96, 0)]) (adU ad 96 q) M' 11 _ [.ref (adU ad 96 q 96 0), .ref (adU ad 96 q 10 0)] _ _
  refine g_iV1 (mc := mc - 1) (ms := ms) (k := 10) (i := 0) (rest := []) X w_X2_mendByNeighbours ml_X11_258 dX11_flicker_11 rfl (n10 hN2) (en10 _ _ _ _) ⟨⟨Nat.le_of_ble_eq_true rfl, Nat.le_of_ble_eq_true rfl⟩, by show 0 + 1 + 0 + (mc - 1) ≤ mc; omega, by show 0 + 0 + 0 + ms ≤ ms; omega⟩ (Nat.le_of_ble_eq_true rfl) (c_X2_mend96 hN2 e0 hc cm nb (fun z => by have := hroom z; omega) (by simp)) (fun v ad2 M2 h => ?_)
  obtain ⟨hv, hA, hR⟩ := h
  subst hv
  refine g_less ?_
  refine g_widen (cl' := mc) (sl' := ms) (by show 0 + 1 + 0 + (mc - 1) ≤ mc; omega) (by show 0 + 0 + 0 + ms ≤ ms; omega) ?_
  exact g_ret Y dX11_flicker_14 ⟨_, rfl⟩ ⟨rfl, fun k i a b c d e => (hA k i a b c).trans (by simp [adU, e]), hR⟩
theorem c_X11_dirt {δ : Dx} {nm : List (Nat × Int)} {ad : Ad} {M : Mem} {t : Int} {mc ms : Nat} (hN : NmOk nm) (hm : NmM nm) (rt : rng t) (e0 : 0 ≤ (M.1 10 0 0 0) ∧ (M.1 10 0 0 0) ≤ 120) (hc : CapOk M) (cm : (M.1 12 0 0 0) + 120 ≤ 61440) (nb : ∀ k, 0 ≤ k → k < 120 → 0 ≤ (M.1 31 6 k 0) ∧ (M.1 31 6 k 0) ≤ 99000) (hmc : 2 ≤ mc ∧ 7 ≤ ms) (hroom : 0 ≤ t ∧ t ≤ 255 → (M.1 13 1 0 0) < (M.1 12 0 0 0) + sm (dI (decN M (fun a h b => mdD t a h b 8))) 1 (hiN M) → 5 ≤ mc ∧ 7 + 6 * (M.1 13 1 0 0) ≤ ms) : CtX δ md_X11_dirt mc ms nm ad M [.ref (ad 0 0), .int (iI t)] (pC (0 ≤ t ∧ t ≤ 255) (fun v ad' M' => v = some (.int (iI (sm (dI (decN M (fun a h b => mdD t a h b 8))) 1 (hiN M)))) ∧ AdM ad ad' ∧ MdR (decN M (fun a h b => mdD t a h b 8)) (mvN M (fun a h b => mdD t a h b 8)) 1 (hiN M) (setI (setI M 95 0 0 0 0) 95 0 0 0 t) M')) (fun E => E = "java/lang/IllegalArgumentException" ∧ ¬ (0 ≤ t ∧ t ≤ 255)) := by
  refine CtX_of (ins := .ireturn) (ok := okI) [some (.ref (ad 0 0)), some (.int (iI t))] (by decide +kernel) rfl (Nat.le_of_ble_eq_true rfl) (fun κ X hr T => xendI rfl X hr T) (fun κ X hNL T Y => ?_)
  refine g_iload_n X dX11_dirt_0 rfl rfl ?_
  refine g_iconst X dX11_dirt_1 rfl ?_
  refine g_sipush X dX11_dirt_2 rfl (by decide) ?_
  refine g_iS3_v X w_X11_isWithin ml_X11_67 dX11_dirt_5 rfl ⟨⟨Nat.le_of_ble_eq_true rfl, Nat.le_of_ble_eq_true rfl⟩, Nat.zero_le _, Nat.zero_le _⟩ (Nat.le_of_ble_eq_true rfl) (c_X11_isWithin hN (by omega) (by omega) (by omega)) ?_
  refine g_xS1_n X T w_X11_needInRange ml_X11_71 dX11_dirt_8 rfl ⟨⟨Nat.le_of_ble_eq_true rfl, Nat.le_of_ble_eq_true rfl⟩, by show 0 + 1 ≤ mc; omega, by show 0 + 6 ≤ ms; omega⟩ (Nat.le_of_ble_eq_true rfl) (c_X11_needInRange hN) (by omega) (by omega) (fun E h => h) (fun hc8 => ?_)
  refine g_aload_n X dX11_dirt_11 rfl rfl ?_
  refine g_get X ci11 (n0 hN) (en0 _ _ _ _) (by decide) fl_X11_54 rfl dX11_dirt_12 rfl ?_
  refine g_new95 X hm ⟨by show 0 + 1 + 1 ≤ mc; omega, by show 0 + 6 + 1 ≤ ms; omega⟩ dX11_dirt_15 rfl (fun q => ?_)
  have hN2 : NmOk (nm ++ [(95, 0)]) := fun k i h0 h1 => List.mem_append_left _ (hN k i h0 h1)
  have h95 : ((95, 0) : Nat × Int) ∈ nm ++ [(95, 0)] := by simp
  refine g_dup X dX11_dirt_18 rfl rfl ?_
  refine g_iload_n X dX11_dirt_19 rfl rfl ?_
  refine g_iI X w_X1_init ml_X11_256 ⟨⟨Nat.le_of_ble_eq_true rfl, Nat.le_of_ble_eq_true rfl⟩, by show 0 + 1 + 1 + 0 ≤ mc; omega, by show 0 + 6 + 1 + 0 ≤ ms; omega⟩ dX11_dirt_20 rfl (As := [.int (iI t)]) (rest := [.ref (adU ad 95 q 95 0), .ref (ad 10 0)]) rfl rfl (Nat.le_of_ble_eq_true rfl) (c_X1_init h95 rt) (fun v ad' M' h => ?_)
  obtain ⟨h1, h2, h3⟩ := h
  subst h1; subst h2; subst h3
  show G κ (nm ++ [(95, 0)]) (adU ad 95 q) (setI (setI M 95 0 0 0 0) 95 0 0 0 t) 23 _ [.ref (adU ad 95 q 95 0), .ref (adU ad 95 q 10 0)] _ _
  refine g_iV1 (mc := mc - 2) (ms := ms - 7) (k := 10) (i := 0) (rest := []) X w_X2_mendByNeighbours ml_X11_258 dX11_dirt_23 rfl (n10 hN2) (en10 _ _ _ _) ⟨⟨Nat.le_of_ble_eq_true rfl, Nat.le_of_ble_eq_true rfl⟩, by show 0 + 1 + 1 + 0 + (mc - 2) ≤ mc; omega, by show 0 + 6 + 1 + 0 + (ms - 7) ≤ ms; omega⟩ (Nat.le_of_ble_eq_true rfl) (c_X2_mend95 (M := (setI (setI M 95 0 0 0 0) 95 0 0 0 t)) hN2 e0 hc cm nb (fun z => by have z2 := hroom hc8 z; show 3 ≤ mc - 2 ∧ 6 * (M.1 13 1 0 0) ≤ ((ms - 7 : Nat) : Int); omega) h95) (fun v ad2 M2 h => ?_)
  obtain ⟨hv, hA, hR⟩ := h
  subst hv
  refine g_less ?_
  refine g_widen (cl' := mc) (sl' := ms) (by show 0 + 1 + 1 + 0 + (mc - 2) ≤ mc; omega) (by show 0 + 6 + 1 + 0 + (ms - 7) ≤ ms; omega) ?_
  exact g_ret Y dX11_dirt_26 ⟨_, rfl⟩ ⟨hc8, rfl, fun k i a b c d e => (hA k i a b c).trans (by simp [adU, d]), hR⟩
