set_option maxRecDepth 100000 in
set_option maxHeartbeats 4000000 in
theorem k_scrap {κ : Kx} {nm : List (Nat × Int)} {ad : Ad} {M : Mem} {b L : Nat} {xs : Nat → Int32} {n : Int} {cl sl : Nat} (X : Cx κ cL_law RL room_1) (hNL : kN κ = 9) (S : Scr κ b L xs) (hN : NmOk nm) (hm : NmM nm) (hI : Inv n M M) (n0 : 0 ≤ n) (n1 : 6 * n + 6 ≤ (L : Int)) (hcl : cl ≤ 2000 + 8 * n.toNat) (hsl : sl ≤ 900000 + 32 * n.toNat + 6 * ((M.1 13 1 0 0)).toNat) (hk : Goon κ nm b n) : G κ nm ad M 1326 [some (.ref b), some (.ref (ad 0 0)), some (.ref (ad 40 0)), some (.ref (ad 90 0)), some (.ref (ad 91 0)), some (.int (iI (6 * n))), none, none, none] [] cl sl := by
  have hL := S.2.2.2
  have hR := hI.1
  have hV := hI.2.1
  have hZ := hI.2.2.1
  have hH := hI.2.2.2.1
  have hE := hI.2.2.2.2.1
  have hK := hI.2.2.2.2.2
  have hcap : 120 ≤ (M.1 13 1 0 0) ∧ (M.1 13 1 0 0) ≤ 61440 := by have := hK.cap.2.2.1; omega
  have hcc := hK.cc
  have hec := hE.ec
  have hn : n ≤ 511 := by omega
  have hrc := hR.rc
  have hvc := hV.vc
  have hrgc := hH.rc
  have hsc := hZ.sc
  refine g_rm (fun hM => ?_)
  refine g_aload_n X dL_law_1326 rfl rfl ?_
  refine g_arg X S dL_law_1327 dL_law_1328 dL_law_1330 dL_law_1331 dL_law_1332 rfl rfl rfl (by omega) (by omega) ?_
  refine g_arg X S dL_law_1333 dL_law_1334 dL_law_1336 dL_law_1337 dL_law_1338 rfl rfl rfl (by omega) (by omega) ?_
  refine g_aload_n X dL_law_1339 rfl rfl ?_
  refine g_invL (mc := 2) (ms := 12) X wl_L_scrap ml_L_175 ⟨⟨Nat.le_of_ble_eq_true rfl, Nat.le_of_ble_eq_true rfl⟩, by show cl + 2 ≤ 601024; omega, by show sl + 12 ≤ 7293034; omega⟩ dL_law_1340 rfl (As := [.ref (ad 0 0), .int (iI (sc xs (6 * n + 1))), .int (iI (sc xs (6 * n + 2))), .ref (ad 90 0)]) (rest := []) rfl rfl (Nat.le_of_ble_eq_true rfl) (c_L_scrap hN (c_X11_scrap hN (sc_rng _ _) (sc_rng _ _) hZ.sc) (fun v ad' M' h => ⟨by rw [h.2.2.1], _, h.2.1⟩) (fun E h => by rcases h with h | h <;> rw [h.1] <;> simp)) (fun v1 ad1 M1 h1 => ?_)
  have hcm : (∃ k : Int, 0 ≤ k ∧ k ≤ 3 ∧ v1 = some (.int (iI k))) ∧ (ad1 0 0 = ad 0 0 ∧ ad1 40 0 = ad 40 0 ∧ ad1 90 0 = ad 90 0 ∧ ad1 91 0 = ad 91 0) ∧ Inv n M M1 := by
    rcases h1 with ⟨x1, C1, ⟨hc, q1, q2, q3⟩, e1, eM⟩ | ⟨j, E, hj, hp, e1, e2, eM⟩
    · exact ⟨⟨0, by omega, by omega, e1⟩, by rw [q2]; exact ⟨rfl, rfl, rfl, rfl⟩, hI.ag (Ag.rf M) ((m_scrap q3).1.tr (by rw [eM]; exact cM9_kMo (wrI_ag _ _)))⟩
    · have hjl : j < 2 := (List.getElem?_eq_some_iff.mp hj).1
      rw [e2, eM]
      exact ⟨⟨(j : Int) + 1, by omega, by omega, e1⟩, ⟨rfl, rfl, rfl, rfl⟩, hI⟩
  obtain ⟨⟨k, k0, k3, ev⟩, ⟨ea0, ea40, ea90, ea91⟩, hI1⟩ := hcm
  subst ev
  rw [← ea0, ← ea40, ← ea90, ← ea91]
  show G κ nm ad1 M1 1343 [some (.ref b), some (.ref (ad1 0 0)), some (.ref (ad1 40 0)), some (.ref (ad1 90 0)), some (.ref (ad1 91 0)), some (.int (iI (6 * n))), none, none, none] [.int (iI k)] _ _
  refine g_istore_6 X dL_law_1343 rfl (lt_kN hNL rfl) rfl ?_
  refine g_aload_n X dL_law_1345 rfl rfl ?_
  refine g_arg X S dL_law_1346 dL_law_1347 dL_law_1349 dL_law_1350 dL_law_1351 rfl rfl rfl (by omega) (by omega) ?_
  refine g_arg X S dL_law_1352 dL_law_1353 dL_law_1355 dL_law_1356 dL_law_1357 rfl rfl rfl (by omega) (by omega) ?_
  refine g_iV2 X w_X12_scrap ml_L_177 dL_law_1358 rfl (n40 hN) (en40 _ _ _ _) ⟨⟨Nat.le_of_ble_eq_true rfl, Nat.le_of_ble_eq_true rfl⟩, by show cl + 2 + 0 ≤ 601024; omega, by show sl + 12 + 0 ≤ 7293034; omega⟩ (Nat.le_of_ble_eq_true rfl) (c_X12_scrap hN hI1.2.2.1 (sc_rng _ _) (sc_rng _ _)) (fun v2 ad2 M2 h2 => ?_)
  obtain ⟨ea2, h2⟩ := h2
  subst ea2
  have hv2 : ∃ z : Int, v2 = some (.int (iI z)) := by
    rcases h2 with ⟨-, e, -⟩ | ⟨-, e, -⟩ <;> exact ⟨_, e⟩
  obtain ⟨z, ez⟩ := hv2
  subst ez
  show G κ nm ad2 M2 1361 [some (.ref b), some (.ref (ad2 0 0)), some (.ref (ad2 40 0)), some (.ref (ad2 90 0)), some (.ref (ad2 91 0)), some (.int (iI (6 * n))), some (.int (iI k)), none, none] [.int (iI z)] _ _
  refine g_istore_7 X dL_law_1361 rfl (lt_kN hNL rfl) rfl ?_
  have F : (M2.1 40 46 0 0) = k ∧ (k = 0 → M2.2 90 0 0 0 = (iI z).toInt64) ∧ Inv (n + 1) M2 M2 ∧ (M2.1 13 1 0 0) = (M.1 13 1 0 0) := by
    rcases h1 with ⟨x1, C1, ⟨hc, q1, q2, q3⟩, e1, eM⟩ | ⟨j, E, hj, hp, e1, -, eM⟩
    · have ek : k = 0 := ik_eq ⟨by omega, by omega⟩ (by decide) e1
      rcases h2 with ⟨hw, -, -⟩ | ⟨-, e2, hP⟩
      · exfalso; revert hw; split <;> first | (intro hw; omega) | (split <;> first | (intro hw; omega) | (split <;> (intro hw; omega)))
      · have f1 : Ag (cM [90, 91] []) C1 M1 := by rw [eM]; exact wrI_ag _ _
        have Fs := s_scrap hI1 f1 hc.2 hc.1.2 q3 hP
        have ex := Option.some.inj q1
        refine ⟨by rw [ek]; exact Fs.2.1, fun _ => ?_, Fs.1, ?_⟩
        · rw [Fs.2.2.1, eM, ex, wrI_i, iv_eq e2]
        · rw [Fs.2.2.2.2, (m_scrap q3).2]
    · have hjl : j < 2 := (List.getElem?_eq_some_iff.mp hj).1
      have ek : k = (j : Int) + 1 := ik_eq ⟨by omega, by omega⟩ ⟨by omega, by omega⟩ e1
      rcases es2 hj with ⟨ej, eE⟩ | ⟨ej, eE⟩ <;> subst eE
      all_goals rcases hp with ⟨he, hp⟩ | ⟨he, hp⟩
      all_goals first | exact absurd he (by decide) | skip
      all_goals
        rcases h2 with ⟨hw, -, eM2⟩ | ⟨hw, -, -⟩
        · refine ⟨?_, fun hk0 => by omega, by rw [eM2, eM]; exact hI.refused, ?_⟩
          · rw [eM2, ref_46]
            split <;> first | omega | (split <;> first | omega | (split <;> omega))
          · rw [eM2, ref_cap, eM]
        · exfalso; revert hw; split <;> first | (intro hw; omega) | (split <;> first | (intro hw; omega) | (split <;> (intro hw; omega)))
  exact g_tailI X hNL hN (by show cl + 2 + 0 ≤ 601024; omega) (by show sl + 12 + 0 ≤ 7293034; omega) dL_law_1363 dL_law_1364 dL_law_1367 dL_law_1369 dL_law_1374 dL_law_1376 dL_law_1379 dL_law_1380 dL_law_1381 dL_law_1382 dL_law_1384 dL_law_1385 dL_law_1386 dL_law_1391 (by decide) ⟨by omega, by omega⟩ F.1 F.2.1 (hk ad2 M2 _ _ F.2.2.1 (by show cl + 2 + 0 ≤ _; omega) (by rw [F.2.2.2]; show sl + 12 + 0 ≤ _; omega))
set_option maxRecDepth 100000 in
set_option maxHeartbeats 4000000 in
theorem k_tint {κ : Kx} {nm : List (Nat × Int)} {ad : Ad} {M : Mem} {b L : Nat} {xs : Nat → Int32} {n : Int} {cl sl : Nat} (X : Cx κ cL_law RL room_1) (hNL : kN κ = 9) (S : Scr κ b L xs) (hN : NmOk nm) (hm : NmM nm) (hI : Inv n M M) (n0 : 0 ≤ n) (n1 : 6 * n + 6 ≤ (L : Int)) (hcl : cl ≤ 2000 + 8 * n.toNat) (hsl : sl ≤ 900000 + 32 * n.toNat + 6 * ((M.1 13 1 0 0)).toNat) (hk : Goon κ nm b n) : G κ nm ad M 1394 [some (.ref b), some (.ref (ad 0 0)), some (.ref (ad 40 0)), some (.ref (ad 90 0)), some (.ref (ad 91 0)), some (.int (iI (6 * n))), none, none, none] [] cl sl := by
  have hL := S.2.2.2
  have hR := hI.1
  have hV := hI.2.1
  have hZ := hI.2.2.1
  have hH := hI.2.2.2.1
  have hE := hI.2.2.2.2.1
  have hK := hI.2.2.2.2.2
  have hcap : 120 ≤ (M.1 13 1 0 0) ∧ (M.1 13 1 0 0) ≤ 61440 := by have := hK.cap.2.2.1; omega
  have hcc := hK.cc
  have hec := hE.ec
  have hn : n ≤ 511 := by omega
  have hrc := hR.rc
  have hvc := hV.vc
  have hrgc := hH.rc
  have hsc := hZ.sc
  refine g_rm (fun hM => ?_)
  refine g_aload_n X dL_law_1394 rfl rfl ?_
  refine g_arg X S dL_law_1395 dL_law_1396 dL_law_1398 dL_law_1399 dL_law_1400 rfl rfl rfl (by omega) (by omega) ?_
  refine g_arg X S dL_law_1401 dL_law_1402 dL_law_1404 dL_law_1405 dL_law_1406 rfl rfl rfl (by omega) (by omega) ?_
  refine g_aload_n X dL_law_1407 rfl rfl ?_
  refine g_invL (mc := 2) (ms := 12) X wl_L_tint ml_L_178 ⟨⟨Nat.le_of_ble_eq_true rfl, Nat.le_of_ble_eq_true rfl⟩, by show cl + 2 ≤ 601024; omega, by show sl + 12 ≤ 7293034; omega⟩ dL_law_1408 rfl (As := [.ref (ad 0 0), .int (iI (sc xs (6 * n + 1))), .int (iI (sc xs (6 * n + 2))), .ref (ad 90 0)]) (rest := []) rfl rfl (Nat.le_of_ble_eq_true rfl) (c_L_tint hN (c_X11_tint hN (sc_rng _ _) (sc_rng _ _) hV.vc hV.ok hZ.sc hZ.tn) (fun v ad' M' h => ⟨by rw [h.2.2.1], _, h.2.1⟩) (fun E h => by rcases h with h | h <;> rw [h.1] <;> simp)) (fun v1 ad1 M1 h1 => ?_)
  have hcm : (∃ k : Int, 0 ≤ k ∧ k ≤ 3 ∧ v1 = some (.int (iI k))) ∧ (ad1 0 0 = ad 0 0 ∧ ad1 40 0 = ad 40 0 ∧ ad1 90 0 = ad 90 0 ∧ ad1 91 0 = ad 91 0) ∧ Inv n M M1 := by
    rcases h1 with ⟨x1, C1, ⟨hc, q1, q2, q3⟩, e1, eM⟩ | ⟨j, E, hj, hp, e1, e2, eM⟩
    · exact ⟨⟨0, by omega, by omega, e1⟩, by rw [q2]; exact ⟨rfl, rfl, rfl, rfl⟩, hI.ag (Ag.rf M) ((m_tint q3).1.tr (by rw [eM]; exact cM9_kMo (wrI_ag _ _)))⟩
    · have hjl : j < 1 := (List.getElem?_eq_some_iff.mp hj).1
      rw [e2, eM]
      exact ⟨⟨(j : Int) + 1, by omega, by omega, e1⟩, ⟨rfl, rfl, rfl, rfl⟩, hI⟩
  obtain ⟨⟨k, k0, k3, ev⟩, ⟨ea0, ea40, ea90, ea91⟩, hI1⟩ := hcm
  subst ev
  rw [← ea0, ← ea40, ← ea90, ← ea91]
  show G κ nm ad1 M1 1411 [some (.ref b), some (.ref (ad1 0 0)), some (.ref (ad1 40 0)), some (.ref (ad1 90 0)), some (.ref (ad1 91 0)), some (.int (iI (6 * n))), none, none, none] [.int (iI k)] _ _
  refine g_istore_6 X dL_law_1411 rfl (lt_kN hNL rfl) rfl ?_
  refine g_aload_n X dL_law_1413 rfl rfl ?_
  refine g_arg X S dL_law_1414 dL_law_1415 dL_law_1417 dL_law_1418 dL_law_1419 rfl rfl rfl (by omega) (by omega) ?_
  refine g_arg X S dL_law_1420 dL_law_1421 dL_law_1423 dL_law_1424 dL_law_1425 rfl rfl rfl (by omega) (by omega) ?_
  refine g_iV2 X w_X12_tint ml_L_180 dL_law_1426 rfl (n40 hN) (en40 _ _ _ _) ⟨⟨Nat.le_of_ble_eq_true rfl, Nat.le_of_ble_eq_true rfl⟩, by show cl + 2 + 0 ≤ 601024; omega, by show sl + 12 + 0 ≤ 7293034; omega⟩ (Nat.le_of_ble_eq_true rfl) (c_X12_tint hN hI1.2.1 hI1.2.2.1 (sc_rng _ _) (sc_rng _ _)) (fun v2 ad2 M2 h2 => ?_)
  obtain ⟨ea2, h2⟩ := h2
  subst ea2
  have hv2 : ∃ z : Int, v2 = some (.int (iI z)) := by
    rcases h2 with ⟨-, e, -⟩ | ⟨-, e, -⟩ <;> exact ⟨_, e⟩
  obtain ⟨z, ez⟩ := hv2
  subst ez
  show G κ nm ad2 M2 1429 [some (.ref b), some (.ref (ad2 0 0)), some (.ref (ad2 40 0)), some (.ref (ad2 90 0)), some (.ref (ad2 91 0)), some (.int (iI (6 * n))), some (.int (iI k)), none, none] [.int (iI z)] _ _
  refine g_istore_7 X dL_law_1429 rfl (lt_kN hNL rfl) rfl ?_
  have F : (M2.1 40 46 0 0) = k ∧ (k = 0 → M2.2 90 0 0 0 = (iI z).toInt64) ∧ Inv (n + 1) M2 M2 ∧ (M2.1 13 1 0 0) = (M.1 13 1 0 0) := by
    rcases h1 with ⟨x1, C1, ⟨hc, q1, q2, q3⟩, e1, eM⟩ | ⟨j, E, hj, hp, e1, -, eM⟩
    · have ek : k = 0 := ik_eq ⟨by omega, by omega⟩ (by decide) e1
      rcases h2 with ⟨hw, -, -⟩ | ⟨-, e2, hP⟩
      · exfalso; revert hw; split <;> first | (intro hw; omega) | (split <;> first | (intro hw; omega) | (split <;> (intro hw; omega)))
      · have f1 : Ag (cM [90, 91] []) C1 M1 := by rw [eM]; exact wrI_ag _ _
        have Fs := s_tint hI1 f1 q3 hP
        have ex := Option.some.inj q1
        refine ⟨by rw [ek]; exact Fs.2.1, fun _ => ?_, Fs.1, ?_⟩
        · rw [Fs.2.2.1, eM, ex, wrI_i, iv_eq e2]
        · rw [Fs.2.2.2.2, (m_tint q3).2]
    · have hjl : j < 1 := (List.getElem?_eq_some_iff.mp hj).1
      have ek : k = (j : Int) + 1 := ik_eq ⟨by omega, by omega⟩ ⟨by omega, by omega⟩ e1
      obtain ⟨ej, eE⟩ := es1 hj
      subst eE
      all_goals rcases hp with ⟨he, hp⟩ | ⟨he, hp⟩
      all_goals first | exact absurd he (by decide) | skip
      all_goals
        rcases h2 with ⟨hw, -, eM2⟩ | ⟨hw, -, -⟩
        · refine ⟨?_, fun hk0 => by omega, by rw [eM2, eM]; exact hI.refused, ?_⟩
          · rw [eM2, ref_46]
            split <;> first | omega | (split <;> first | omega | (split <;> omega))
          · rw [eM2, ref_cap, eM]
        · exfalso; revert hw; split <;> first | (intro hw; omega) | (split <;> first | (intro hw; omega) | (split <;> (intro hw; omega)))
  exact g_tailI X hNL hN (by show cl + 2 + 0 ≤ 601024; omega) (by show sl + 12 + 0 ≤ 7293034; omega) dL_law_1431 dL_law_1432 dL_law_1435 dL_law_1437 dL_law_1442 dL_law_1444 dL_law_1447 dL_law_1448 dL_law_1449 dL_law_1450 dL_law_1452 dL_law_1453 dL_law_1454 dL_law_1459 (by decide) ⟨by omega, by omega⟩ F.1 F.2.1 (hk ad2 M2 _ _ F.2.2.1 (by show cl + 2 + 0 ≤ _; omega) (by rw [F.2.2.2]; show sl + 12 + 0 ≤ _; omega))
set_option maxRecDepth 100000 in
set_option maxHeartbeats 4000000 in
theorem k_right {κ : Kx} {nm : List (Nat × Int)} {ad : Ad} {M : Mem} {b L : Nat} {xs : Nat → Int32} {n : Int} {cl sl : Nat} (X : Cx κ cL_law RL room_1) (hNL : kN κ = 9) (S : Scr κ b L xs) (hN : NmOk nm) (hm : NmM nm) (hI : Inv n M M) (n0 : 0 ≤ n) (n1 : 6 * n + 6 ≤ (L : Int)) (hcl : cl ≤ 2000 + 8 * n.toNat) (hsl : sl ≤ 900000 + 32 * n.toNat + 6 * ((M.1 13 1 0 0)).toNat) (hk : Goon κ nm b n) : G κ nm ad M 1462 [some (.ref b), some (.ref (ad 0 0)), some (.ref (ad 40 0)), some (.ref (ad 90 0)), some (.ref (ad 91 0)), some (.int (iI (6 * n))), none, none, none] [] cl sl := by
  have hL := S.2.2.2
  have hR := hI.1
  have hV := hI.2.1
  have hZ := hI.2.2.1
  have hH := hI.2.2.2.1
  have hE := hI.2.2.2.2.1
  have hK := hI.2.2.2.2.2
  have hcap : 120 ≤ (M.1 13 1 0 0) ∧ (M.1 13 1 0 0) ≤ 61440 := by have := hK.cap.2.2.1; omega
  have hcc := hK.cc
  have hec := hE.ec
  have hn : n ≤ 511 := by omega
  have hrc := hR.rc
  have hvc := hV.vc
  have hrgc := hH.rc
  have hsc := hZ.sc
  refine g_rm (fun hM => ?_)
  refine g_aload_n X dL_law_1462 rfl rfl ?_
  refine g_arg X S dL_law_1463 dL_law_1464 dL_law_1466 dL_law_1467 dL_law_1468 rfl rfl rfl (by omega) (by omega) ?_
  refine g_arg X S dL_law_1469 dL_law_1470 dL_law_1472 dL_law_1473 dL_law_1474 rfl rfl rfl (by omega) (by omega) ?_
  refine g_arg X S dL_law_1475 dL_law_1476 dL_law_1478 dL_law_1479 dL_law_1480 rfl rfl rfl (by omega) (by omega) ?_
  refine g_arg X S dL_law_1481 dL_law_1482 dL_law_1484 dL_law_1485 dL_law_1486 rfl rfl rfl (by omega) (by omega) ?_
  refine g_arg X S dL_law_1487 dL_law_1488 dL_law_1490 dL_law_1491 dL_law_1492 rfl rfl rfl (by omega) (by omega) ?_
  refine g_aload_n X dL_law_1493 rfl rfl ?_
  refine g_invL (mc := 4) (ms := 24) X wl_L_right ml_L_181 ⟨⟨Nat.le_of_ble_eq_true rfl, Nat.le_of_ble_eq_true rfl⟩, by show cl + 4 ≤ 601024; omega, by show sl + 24 ≤ 7293034; omega⟩ dL_law_1494 rfl (As := [.ref (ad 0 0), .int (iI (sc xs (6 * n + 1))), .int (iI (sc xs (6 * n + 2))), .int (iI (sc xs (6 * n + 3))), .int (iI (sc xs (6 * n + 4))), .int (iI (sc xs (6 * n + 5))), .ref (ad 90 0)]) (rest := []) rfl rfl (Nat.le_of_ble_eq_true rfl) (c_L_right hN (c_X11_right hN (sc_rng _ _) (sc_rng _ _) (sc_rng _ _) (sc_rng _ _) (sc_rng _ _) hV.vc hV.ok hH.rc) (fun v ad' M' h => ⟨by rw [h.2.2.1], _, h.2.1⟩) (fun E h => by rcases h with h | h | h | h <;> rw [h.1] <;> simp)) (fun v1 ad1 M1 h1 => ?_)
  have hcm : (∃ k : Int, 0 ≤ k ∧ k ≤ 3 ∧ v1 = some (.int (iI k))) ∧ (ad1 0 0 = ad 0 0 ∧ ad1 40 0 = ad 40 0 ∧ ad1 90 0 = ad 90 0 ∧ ad1 91 0 = ad 91 0) ∧ Inv n M M1 := by
    rcases h1 with ⟨x1, C1, ⟨hc, q1, q2, q3⟩, e1, eM⟩ | ⟨j, E, hj, hp, e1, e2, eM⟩
    · exact ⟨⟨0, by omega, by omega, e1⟩, by rw [q2]; exact ⟨rfl, rfl, rfl, rfl⟩, hI.ag (Ag.rf M) ((m_right q3).1.tr (by rw [eM]; exact cM9_kMo (wrI_ag _ _)))⟩
    · have hjl : j < 3 := (List.getElem?_eq_some_iff.mp hj).1
      rw [e2, eM]
      exact ⟨⟨(j : Int) + 1, by omega, by omega, e1⟩, ⟨rfl, rfl, rfl, rfl⟩, hI⟩
  obtain ⟨⟨k, k0, k3, ev⟩, ⟨ea0, ea40, ea90, ea91⟩, hI1⟩ := hcm
  subst ev
  rw [← ea0, ← ea40, ← ea90, ← ea91]
  show G κ nm ad1 M1 1497 [some (.ref b), some (.ref (ad1 0 0)), some (.ref (ad1 40 0)), some (.ref (ad1 90 0)), some (.ref (ad1 91 0)), some (.int (iI (6 * n))), none, none, none] [.int (iI k)] _ _
  refine g_istore_6 X dL_law_1497 rfl (lt_kN hNL rfl) rfl ?_
  refine g_aload_n X dL_law_1499 rfl rfl ?_
  refine g_arg X S dL_law_1500 dL_law_1501 dL_law_1503 dL_law_1504 dL_law_1505 rfl rfl rfl (by omega) (by omega) ?_
  refine g_arg X S dL_law_1506 dL_law_1507 dL_law_1509 dL_law_1510 dL_law_1511 rfl rfl rfl (by omega) (by omega) ?_
  refine g_arg X S dL_law_1512 dL_law_1513 dL_law_1515 dL_law_1516 dL_law_1517 rfl rfl rfl (by omega) (by omega) ?_
  refine g_arg X S dL_law_1518 dL_law_1519 dL_law_1521 dL_law_1522 dL_law_1523 rfl rfl rfl (by omega) (by omega) ?_
  refine g_arg X S dL_law_1524 dL_law_1525 dL_law_1527 dL_law_1528 dL_law_1529 rfl rfl rfl (by omega) (by omega) ?_
  refine g_iV5 X w_X12_right ml_L_183 dL_law_1530 rfl (n40 hN) (en40 _ _ _ _) ⟨⟨Nat.le_of_ble_eq_true rfl, Nat.le_of_ble_eq_true rfl⟩, by show cl + 4 + 0 ≤ 601024; omega, by show sl + 24 + 0 ≤ 7293034; omega⟩ (Nat.le_of_ble_eq_true rfl) (c_X12_right hN hI1.2.1 hI1.2.2.2.1 (sc_rng _ _) (sc_rng _ _) (sc_rng _ _) (sc_rng _ _) (sc_rng _ _)) (fun v2 ad2 M2 h2 => ?_)
  obtain ⟨ea2, h2⟩ := h2
  subst ea2
  have hv2 : ∃ z : Int, v2 = some (.int (iI z)) := by
    rcases h2 with ⟨-, e, -⟩ | ⟨-, e, -⟩ <;> exact ⟨_, e⟩
  obtain ⟨z, ez⟩ := hv2
  subst ez
  show G κ nm ad2 M2 1533 [some (.ref b), some (.ref (ad2 0 0)), some (.ref (ad2 40 0)), some (.ref (ad2 90 0)), some (.ref (ad2 91 0)), some (.int (iI (6 * n))), some (.int (iI k)), none, none] [.int (iI z)] _ _
  refine g_istore_7 X dL_law_1533 rfl (lt_kN hNL rfl) rfl ?_
  have F : (M2.1 40 46 0 0) = k ∧ (k = 0 → M2.2 90 0 0 0 = (iI z).toInt64) ∧ Inv (n + 1) M2 M2 ∧ (M2.1 13 1 0 0) = (M.1 13 1 0 0) := by
    rcases h1 with ⟨x1, C1, ⟨hc, q1, q2, q3⟩, e1, eM⟩ | ⟨j, E, hj, hp, e1, -, eM⟩
    · have ek : k = 0 := ik_eq ⟨by omega, by omega⟩ (by decide) e1
      rcases h2 with ⟨hw, -, -⟩ | ⟨-, e2, hP⟩
      · exfalso; revert hw; split <;> first | (intro hw; omega) | (split <;> first | (intro hw; omega) | (split <;> (intro hw; omega)))
      · have f1 : Ag (cM [90, 91] []) C1 M1 := by rw [eM]; exact wrI_ag _ _
        have Fs := s_right hI1 f1 hc.1 hc.2.1 hc.2.2.2 q3 hP
        have ex := Option.some.inj q1
        refine ⟨by rw [ek]; exact Fs.2.1, fun _ => ?_, Fs.1, ?_⟩
        · rw [Fs.2.2.1, eM, ex, wrI_i, iv_eq e2]
        · rw [Fs.2.2.2.2, (m_right q3).2]
    · have hjl : j < 3 := (List.getElem?_eq_some_iff.mp hj).1
      have ek : k = (j : Int) + 1 := ik_eq ⟨by omega, by omega⟩ ⟨by omega, by omega⟩ e1
      rcases es3 hj with ⟨ej, eE⟩ | ⟨ej, eE⟩ | ⟨ej, eE⟩ <;> subst eE
      all_goals rcases hp with ⟨he, hp⟩ | ⟨he, hp⟩ | ⟨he, hp⟩ | ⟨he, hp⟩
      all_goals first | exact absurd he (by decide) | skip
      all_goals
        rcases h2 with ⟨hw, -, eM2⟩ | ⟨hw, -, -⟩
        · refine ⟨?_, fun hk0 => by omega, by rw [eM2, eM]; exact hI.refused, ?_⟩
          · rw [eM2, ref_46]
            split <;> first | omega | (split <;> first | omega | (split <;> omega))
          · rw [eM2, ref_cap, eM]
        · exfalso; revert hw; split <;> first | (intro hw; omega) | (split <;> first | (intro hw; omega) | (split <;> (intro hw; omega)))
  exact g_tailI X hNL hN (by show cl + 4 + 0 ≤ 601024; omega) (by show sl + 24 + 0 ≤ 7293034; omega) dL_law_1535 dL_law_1536 dL_law_1539 dL_law_1541 dL_law_1546 dL_law_1548 dL_law_1551 dL_law_1552 dL_law_1553 dL_law_1554 dL_law_1556 dL_law_1557 dL_law_1558 dL_law_1563 (by decide) ⟨by omega, by omega⟩ F.1 F.2.1 (hk ad2 M2 _ _ F.2.2.1 (by show cl + 4 + 0 ≤ _; omega) (by rw [F.2.2.2]; show sl + 24 + 0 ≤ _; omega))
set_option maxRecDepth 100000 in
set_option maxHeartbeats 4000000 in
theorem k_allow {κ : Kx} {nm : List (Nat × Int)} {ad : Ad} {M : Mem} {b L : Nat} {xs : Nat → Int32} {n : Int} {cl sl : Nat} (X : Cx κ cL_law RL room_1) (hNL : kN κ = 9) (S : Scr κ b L xs) (hN : NmOk nm) (hm : NmM nm) (hI : Inv n M M) (n0 : 0 ≤ n) (n1 : 6 * n + 6 ≤ (L : Int)) (hcl : cl ≤ 2000 + 8 * n.toNat) (hsl : sl ≤ 900000 + 32 * n.toNat + 6 * ((M.1 13 1 0 0)).toNat) (hk : Goon κ nm b n) : G κ nm ad M 1566 [some (.ref b), some (.ref (ad 0 0)), some (.ref (ad 40 0)), some (.ref (ad 90 0)), some (.ref (ad 91 0)), some (.int (iI (6 * n))), none, none, none] [] cl sl := by
  have hL := S.2.2.2
  have hR := hI.1
  have hV := hI.2.1
  have hZ := hI.2.2.1
  have hH := hI.2.2.2.1
  have hE := hI.2.2.2.2.1
  have hK := hI.2.2.2.2.2
  have hcap : 120 ≤ (M.1 13 1 0 0) ∧ (M.1 13 1 0 0) ≤ 61440 := by have := hK.cap.2.2.1; omega
  have hcc := hK.cc
  have hec := hE.ec
  have hn : n ≤ 511 := by omega
  have hrc := hR.rc
  have hvc := hV.vc
  have hrgc := hH.rc
  have hsc := hZ.sc
  refine g_rm (fun hM => ?_)
  refine g_aload_n X dL_law_1566 rfl rfl ?_
  refine g_arg X S dL_law_1567 dL_law_1568 dL_law_1570 dL_law_1571 dL_law_1572 rfl rfl rfl (by omega) (by omega) ?_
  refine g_arg X S dL_law_1573 dL_law_1574 dL_law_1576 dL_law_1577 dL_law_1578 rfl rfl rfl (by omega) (by omega) ?_
  refine g_argB X S dL_law_1579 dL_law_1580 dL_law_1582 dL_law_1583 dL_law_1584 dL_law_1585 dL_law_1588 dL_law_1589 dL_law_1592 rfl rfl rfl (by omega) (by omega) ?_
  refine g_aload_n X dL_law_1593 rfl rfl ?_
  refine g_invL (mc := 2) (ms := 12) X wl_L_allow ml_L_184 ⟨⟨Nat.le_of_ble_eq_true rfl, Nat.le_of_ble_eq_true rfl⟩, by show cl + 2 ≤ 601024; omega, by show sl + 12 ≤ 7293034; omega⟩ dL_law_1594 rfl (As := [.ref (ad 0 0), .int (iI (sc xs (6 * n + 1))), .int (iI (sc xs (6 * n + 2))), .int (iI (bI (sc xs (6 * n + 3) ≠ 0))), .ref (ad 90 0)]) (rest := []) rfl rfl (Nat.le_of_ble_eq_true rfl) (c_L_allow hN (c_X11_allow hN (sc_rng _ _) (sc_rng _ _) hV.vc hV.ok) (fun v ad' M' h => ⟨by rw [h.2.2.1], _, hM _ _ _ _, h.2.1⟩) (fun E h => by rcases h with h | h <;> rw [h.1] <;> simp)) (fun v1 ad1 M1 h1 => ?_)
  have hcm : (∃ k : Int, 0 ≤ k ∧ k ≤ 3 ∧ v1 = some (.int (iI k))) ∧ (ad1 0 0 = ad 0 0 ∧ ad1 40 0 = ad 40 0 ∧ ad1 90 0 = ad 90 0 ∧ ad1 91 0 = ad 91 0) ∧ Inv n M M1 := by
    rcases h1 with ⟨x1, C1, ⟨hc, q1, q2, q3⟩, e1, eM⟩ | ⟨j, E, hj, hp, e1, e2, eM⟩
    · exact ⟨⟨0, by omega, by omega, e1⟩, by rw [q2]; exact ⟨rfl, rfl, rfl, rfl⟩, hI.ag (Ag.rf M) ((m_allow q3).1.tr (by rw [eM]; exact cM9_kMo (wrZ_ag _ _)))⟩
    · have hjl : j < 1 := (List.getElem?_eq_some_iff.mp hj).1
      rw [e2, eM]
      exact ⟨⟨(j : Int) + 1, by omega, by omega, e1⟩, ⟨rfl, rfl, rfl, rfl⟩, hI⟩
  obtain ⟨⟨k, k0, k3, ev⟩, ⟨ea0, ea40, ea90, ea91⟩, hI1⟩ := hcm
  subst ev
  rw [← ea0, ← ea40, ← ea90, ← ea91]
  show G κ nm ad1 M1 1597 [some (.ref b), some (.ref (ad1 0 0)), some (.ref (ad1 40 0)), some (.ref (ad1 90 0)), some (.ref (ad1 91 0)), some (.int (iI (6 * n))), none, none, none] [.int (iI k)] _ _
  refine g_istore_6 X dL_law_1597 rfl (lt_kN hNL rfl) rfl ?_
  refine g_aload_n X dL_law_1599 rfl rfl ?_
  refine g_arg X S dL_law_1600 dL_law_1601 dL_law_1603 dL_law_1604 dL_law_1605 rfl rfl rfl (by omega) (by omega) ?_
  refine g_arg X S dL_law_1606 dL_law_1607 dL_law_1609 dL_law_1610 dL_law_1611 rfl rfl rfl (by omega) (by omega) ?_
  refine g_argB X S dL_law_1612 dL_law_1613 dL_law_1615 dL_law_1616 dL_law_1617 dL_law_1618 dL_law_1621 dL_law_1622 dL_law_1625 rfl rfl rfl (by omega) (by omega) ?_
  refine g_iV3 X w_X12_allow ml_L_187 dL_law_1626 rfl (n40 hN) (en40 _ _ _ _) ⟨⟨Nat.le_of_ble_eq_true rfl, Nat.le_of_ble_eq_true rfl⟩, by show cl + 2 + 0 ≤ 601024; omega, by show sl + 12 + 0 ≤ 7293034; omega⟩ (Nat.le_of_ble_eq_true rfl) (c_X12_allow hN hI1.2.1 (sc_rng _ _) (sc_rng _ _)) (fun v2 ad2 M2 h2 => ?_)
  obtain ⟨ea2, h2⟩ := h2
  subst ea2
  have hv2 : ∃ z : Int, rng z ∧ v2 = some (.int (iI z)) := by
    rcases h2 with ⟨-, e, -⟩ | ⟨-, e, -⟩
    · exact ⟨0, by decide, e⟩
    · exact ⟨_, hM _ _ _ _, e⟩
  obtain ⟨z, rz, ez⟩ := hv2
  subst ez
  show G κ nm ad2 M2 1629 [some (.ref b), some (.ref (ad2 0 0)), some (.ref (ad2 40 0)), some (.ref (ad2 90 0)), some (.ref (ad2 91 0)), some (.int (iI (6 * n))), some (.int (iI k)), none, none] [.int (iI z)] _ _
  refine g_istore_7 X dL_law_1629 rfl (lt_kN hNL rfl) rfl ?_
  have F : (M2.1 40 46 0 0) = k ∧ (k = 0 → M2.2 90 0 0 0 = (if iI z = iI 0 then 0 else 1)) ∧ Inv (n + 1) M2 M2 ∧ (M2.1 13 1 0 0) = (M.1 13 1 0 0) := by
    rcases h1 with ⟨x1, C1, ⟨hc, q1, q2, q3⟩, e1, eM⟩ | ⟨j, E, hj, hp, e1, -, eM⟩
    · have ek : k = 0 := ik_eq ⟨by omega, by omega⟩ (by decide) e1
      rcases h2 with ⟨hw, -, -⟩ | ⟨-, e2, hP⟩
      · exfalso; revert hw; split <;> first | (intro hw; omega) | (split <;> first | (intro hw; omega) | (split <;> (intro hw; omega)))
      · have f1 : Ag (cM [90, 91] []) C1 M1 := by rw [eM]; exact wrZ_ag _ _
        have Fs := s_allow hI1 f1 hc.1 hc.2 q3 hP
        have ex := Option.some.inj q1
        refine ⟨by rw [ek]; exact Fs.2.1, fun _ => ?_, Fs.1, ?_⟩
        · rw [Fs.2.2.1, eM, ex, wrZ_i, iv_eq e2]
        · rw [Fs.2.2.2.2, (m_allow q3).2]
    · have hjl : j < 1 := (List.getElem?_eq_some_iff.mp hj).1
      have ek : k = (j : Int) + 1 := ik_eq ⟨by omega, by omega⟩ ⟨by omega, by omega⟩ e1
      obtain ⟨ej, eE⟩ := es1 hj
      subst eE
      all_goals rcases hp with ⟨he, hp⟩ | ⟨he, hp⟩
      all_goals first | exact absurd he (by decide) | skip
      all_goals
        rcases h2 with ⟨hw, -, eM2⟩ | ⟨hw, -, -⟩
        · refine ⟨?_, fun hk0 => by omega, by rw [eM2, eM]; exact hI.refused, ?_⟩
          · rw [eM2, ref_46]
            split <;> first | omega | (split <;> first | omega | (split <;> omega))
          · rw [eM2, ref_cap, eM]
        · exfalso; revert hw; split <;> first | (intro hw; omega) | (split <;> first | (intro hw; omega) | (split <;> (intro hw; omega)))
  exact g_tailZ X hNL hN (by show cl + 2 + 0 ≤ 601024; omega) (by show sl + 12 + 0 ≤ 7293034; omega) dL_law_1631 dL_law_1632 dL_law_1635 dL_law_1637 dL_law_1642 dL_law_1644 dL_law_1647 dL_law_1648 dL_law_1649 dL_law_1650 dL_law_1652 dL_law_1655 dL_law_1656 dL_law_1659 dL_law_1660 dL_law_1661 dL_law_1666 (by decide) ⟨by omega, by omega⟩ F.1 rz F.2.1 (hk ad2 M2 _ _ F.2.2.1 (by show cl + 2 + 0 ≤ _; omega) (by rw [F.2.2.2]; show sl + 12 + 0 ≤ _; omega))
