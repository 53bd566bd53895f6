set_option maxRecDepth 100000 in
set_option maxHeartbeats 4000000 in
theorem k_seen {κ : Kx} {nm : List (Nat × Int)} {ad : Ad} {M : Mem} {b L : Nat} {xs : Nat → Int32} {n : Int} {cl sl : Nat} (X : Cx κ cL_law RL room_1) (hNL : kN κ = 9) (S : Scr κ b L xs) (hN : NmOk nm) (hm : NmM nm) (hI : Inv n M M) (n0 : 0 ≤ n) (n1 : 6 * n + 6 ≤ (L : Int)) (hcl : cl ≤ 2000 + 8 * n.toNat) (hsl : sl ≤ 900000 + 32 * n.toNat + 6 * ((M.1 13 1 0 0)).toNat) (hk : Goon κ nm b n) : G κ nm ad M 2244 [some (.ref b), some (.ref (ad 0 0)), some (.ref (ad 40 0)), some (.ref (ad 90 0)), some (.ref (ad 91 0)), some (.int (iI (6 * n))), none, none, none] [] cl sl := by
  have hL := S.2.2.2
  have hR := hI.1
  have hV := hI.2.1
  have hZ := hI.2.2.1
  have hH := hI.2.2.2.1
  have hE := hI.2.2.2.2.1
  have hK := hI.2.2.2.2.2
  have hcap : 120 ≤ (M.1 13 1 0 0) ∧ (M.1 13 1 0 0) ≤ 61440 := by have := hK.cap.2.2.1; omega
  have hcc := hK.cc
  have hec := hE.ec
  have hn : n ≤ 511 := by omega
  have hrc := hR.rc
  have hvc := hV.vc
  have hrgc := hH.rc
  have hsc := hZ.sc
  refine g_rm (fun hM => ?_)
  refine g_aload_n X dL_law_2244 rfl rfl ?_
  refine g_arg X S dL_law_2245 dL_law_2246 dL_law_2248 dL_law_2249 dL_law_2250 rfl rfl rfl (by omega) (by omega) ?_
  refine g_aload_n X dL_law_2251 rfl rfl ?_
  refine g_invL (mc := 1) (ms := 6) X wl_L_seen ml_L_216 ⟨⟨Nat.le_of_ble_eq_true rfl, Nat.le_of_ble_eq_true rfl⟩, by show cl + 1 ≤ 601024; omega, by show sl + 6 ≤ 7293034; omega⟩ dL_law_2252 rfl (As := [.ref (ad 0 0), .int (iI (sc xs (6 * n + 1))), .ref (ad 90 0)]) (rest := []) rfl rfl (Nat.le_of_ble_eq_true rfl) (c_L_seen hN (c_X11_seen hN (sc_rng _ _) hE.ec) (fun v ad' M' h => ⟨by rw [h.2.2.1], _, h.2.1⟩) (fun E h => by rw [h.1]; simp)) (fun v1 ad1 M1 h1 => ?_)
  have hcm : (∃ k : Int, 0 ≤ k ∧ k ≤ 3 ∧ v1 = some (.int (iI k))) ∧ (ad1 0 0 = ad 0 0 ∧ ad1 40 0 = ad 40 0 ∧ ad1 90 0 = ad 90 0 ∧ ad1 91 0 = ad 91 0) ∧ Inv n M M1 := by
    rcases h1 with ⟨x1, C1, ⟨hc, q1, q2, q3⟩, e1, eM⟩ | ⟨j, E, hj, hp, e1, e2, eM⟩
    · exact ⟨⟨0, by omega, by omega, e1⟩, by rw [q2]; exact ⟨rfl, rfl, rfl, rfl⟩, hI.ag (Ag.rf M) ((m_none q3).1.tr (by rw [eM]; exact cM9_kMo (wrI_ag _ _)))⟩
    · have hjl : j < 1 := (List.getElem?_eq_some_iff.mp hj).1
      rw [e2, eM]
      exact ⟨⟨(j : Int) + 1, by omega, by omega, e1⟩, ⟨rfl, rfl, rfl, rfl⟩, hI⟩
  obtain ⟨⟨k, k0, k3, ev⟩, ⟨ea0, ea40, ea90, ea91⟩, hI1⟩ := hcm
  subst ev
  rw [← ea0, ← ea40, ← ea90, ← ea91]
  show G κ nm ad1 M1 2255 [some (.ref b), some (.ref (ad1 0 0)), some (.ref (ad1 40 0)), some (.ref (ad1 90 0)), some (.ref (ad1 91 0)), some (.int (iI (6 * n))), none, none, none] [.int (iI k)] _ _
  refine g_istore_6 X dL_law_2255 rfl (lt_kN hNL rfl) rfl ?_
  refine g_aload_n X dL_law_2257 rfl rfl ?_
  refine g_arg X S dL_law_2258 dL_law_2259 dL_law_2261 dL_law_2262 dL_law_2263 rfl rfl rfl (by omega) (by omega) ?_
  refine g_iV1 X w_X12_seen ml_L_218 dL_law_2264 rfl (n40 hN) (en40 _ _ _ _) ⟨⟨Nat.le_of_ble_eq_true rfl, Nat.le_of_ble_eq_true rfl⟩, by show cl + 1 + 0 ≤ 601024; omega, by show sl + 6 + 0 ≤ 7293034; omega⟩ (Nat.le_of_ble_eq_true rfl) (c_X12_seen hN hI1.2.2.2.2.1 (sc_rng _ _)) (fun v2 ad2 M2 h2 => ?_)
  obtain ⟨ea2, h2⟩ := h2
  subst ea2
  have hv2 : ∃ z : Int64, v2 = some (.long z) := by
    rcases h2 with ⟨-, e, -⟩ | ⟨-, e, -⟩ <;> exact ⟨_, e⟩
  obtain ⟨z, ez⟩ := hv2
  subst ez
  show G κ nm ad2 M2 2267 [some (.ref b), some (.ref (ad2 0 0)), some (.ref (ad2 40 0)), some (.ref (ad2 90 0)), some (.ref (ad2 91 0)), some (.int (iI (6 * n))), some (.int (iI k)), none, none] [.long z] _ _
  refine g_lstore_7 X dL_law_2267 rfl (lt_kN hNL rfl) rfl ?_
  have F : (M2.1 40 46 0 0) = k ∧ (k = 0 → M2.2 90 0 0 0 = z) ∧ Inv (n + 1) M2 M2 ∧ (M2.1 13 1 0 0) = (M.1 13 1 0 0) := by
    rcases h1 with ⟨x1, C1, ⟨hc, q1, q2, q3⟩, e1, eM⟩ | ⟨j, E, hj, hp, e1, -, eM⟩
    · have ek : k = 0 := ik_eq ⟨by omega, by omega⟩ (by decide) e1
      rcases h2 with ⟨hw, -, -⟩ | ⟨-, e2, hP⟩
      · exfalso; revert hw; split <;> first | (intro hw; omega) | (split <;> first | (intro hw; omega) | (split <;> (intro hw; omega)))
      · have f1 : Ag (cM [90, 91] []) C1 M1 := by rw [eM]; exact wrI_ag _ _
        have Fs := s_none hI1 f1 q3 hP
        have ex := Option.some.inj q1
        refine ⟨by rw [ek]; exact Fs.2.1, fun _ => ?_, Fs.1, ?_⟩
        · rw [Fs.2.2.1, eM, ex, wrI_l, lv_eq e2]
        · rw [Fs.2.2.2.2, (m_none q3).2]
    · have hjl : j < 1 := (List.getElem?_eq_some_iff.mp hj).1
      have ek : k = (j : Int) + 1 := ik_eq ⟨by omega, by omega⟩ ⟨by omega, by omega⟩ e1
      obtain ⟨ej, eE⟩ := es1 hj
      subst eE
      all_goals obtain ⟨he, hp⟩ := hp
      all_goals first | exact absurd he (by decide) | skip
      all_goals
        rcases h2 with ⟨hw, -, eM2⟩ | ⟨hw, -, -⟩
        · refine ⟨?_, fun hk0 => by omega, by rw [eM2, eM]; exact hI.refused, ?_⟩
          · rw [eM2, ref_46]
            split <;> first | omega | (split <;> first | omega | (split <;> omega))
          · rw [eM2, ref_cap, eM]
        · exfalso; revert hw; split <;> first | (intro hw; omega) | (split <;> first | (intro hw; omega) | (split <;> (intro hw; omega)))
  exact g_tailJ X hNL hN (by show cl + 1 + 0 ≤ 601024; omega) (by show sl + 6 + 0 ≤ 7293034; omega) dL_law_2269 dL_law_2270 dL_law_2273 dL_law_2275 dL_law_2280 dL_law_2282 dL_law_2285 dL_law_2286 dL_law_2287 dL_law_2288 dL_law_2290 dL_law_2291 dL_law_2296 (by decide) ⟨by omega, by omega⟩ F.1 F.2.1 (hk ad2 M2 _ _ F.2.2.1 (by show cl + 1 + 0 ≤ _; omega) (by rw [F.2.2.2]; show sl + 6 + 0 ≤ _; omega))
set_option maxRecDepth 100000 in
set_option maxHeartbeats 4000000 in
theorem k_sum {κ : Kx} {nm : List (Nat × Int)} {ad : Ad} {M : Mem} {b L : Nat} {xs : Nat → Int32} {n : Int} {cl sl : Nat} (X : Cx κ cL_law RL room_1) (hNL : kN κ = 9) (S : Scr κ b L xs) (hN : NmOk nm) (hm : NmM nm) (hI : Inv n M M) (n0 : 0 ≤ n) (n1 : 6 * n + 6 ≤ (L : Int)) (hcl : cl ≤ 2000 + 8 * n.toNat) (hsl : sl ≤ 900000 + 32 * n.toNat + 6 * ((M.1 13 1 0 0)).toNat) (hk : Goon κ nm b n) : G κ nm ad M 2299 [some (.ref b), some (.ref (ad 0 0)), some (.ref (ad 40 0)), some (.ref (ad 90 0)), some (.ref (ad 91 0)), some (.int (iI (6 * n))), none, none, none] [] cl sl := by
  have hL := S.2.2.2
  have hR := hI.1
  have hV := hI.2.1
  have hZ := hI.2.2.1
  have hH := hI.2.2.2.1
  have hE := hI.2.2.2.2.1
  have hK := hI.2.2.2.2.2
  have hcap : 120 ≤ (M.1 13 1 0 0) ∧ (M.1 13 1 0 0) ≤ 61440 := by have := hK.cap.2.2.1; omega
  have hcc := hK.cc
  have hec := hE.ec
  have hn : n ≤ 511 := by omega
  have hrc := hR.rc
  have hvc := hV.vc
  have hrgc := hH.rc
  have hsc := hZ.sc
  refine g_aload_n X dL_law_2299 rfl rfl ?_
  refine g_argB X S dL_law_2300 dL_law_2301 dL_law_2303 dL_law_2304 dL_law_2305 dL_law_2306 dL_law_2309 dL_law_2310 dL_law_2313 rfl rfl rfl (by omega) (by omega) ?_
  refine g_iV1_v X w_X11_sum ml_L_219 dL_law_2314 rfl (hN 0 0 (by decide) (by decide)) (en0 _ _ _ _) ⟨⟨Nat.le_of_ble_eq_true rfl, Nat.le_of_ble_eq_true rfl⟩, by show cl + 0 ≤ 601024; omega, by show sl + 0 ≤ 7293034; omega⟩ (Nat.le_of_ble_eq_true rfl) (c_X11_sum hN hE.ec (bI_rng _)) ?_
  refine g_aload_n X dL_law_2317 rfl rfl ?_
  refine g_argB X S dL_law_2318 dL_law_2319 dL_law_2321 dL_law_2322 dL_law_2323 dL_law_2324 dL_law_2327 dL_law_2328 dL_law_2331 rfl rfl rfl (by omega) (by omega) ?_
  refine g_iV1 X w_X12_sum ml_L_223 dL_law_2332 rfl (n40 hN) (en40 _ _ _ _) ⟨⟨Nat.le_of_ble_eq_true rfl, Nat.le_of_ble_eq_true rfl⟩, by show cl + 0 ≤ 601024; omega, by show sl + 0 ≤ 7293034; omega⟩ (Nat.le_of_ble_eq_true rfl) (c_X12_sum hN hE (bI_rng _)) (fun v2 ad2 M2 h2 => ?_)
  obtain ⟨ea2, h2⟩ := h2
  subst ea2
  rcases h2 with ⟨hw, -, -⟩ | ⟨-, e2, hP⟩
  · exact absurd hw (by decide)
  subst e2
  have Fs := s_none hI (Ag.rf M) rfl hP
  show G κ nm ad2 M2 2335 [some (.ref b), some (.ref (ad2 0 0)), some (.ref (ad2 40 0)), some (.ref (ad2 90 0)), some (.ref (ad2 91 0)), some (.int (iI (6 * n))), none, none, none] [.long (csm M (bI (sc xs (6 * n + 1) ≠ 0)) ((M.1 10 0 0 0)).toNat), .long (csm M (bI (sc xs (6 * n + 1) ≠ 0)) ((M.1 10 0 0 0)).toNat)] _ _
  refine g_lcmp X dL_law_2335 rfl ?_
  refine g_ifL_eq (tgt := 2397) X dL_law_2336 rfl rfl (fun _ => ?_) (fun h => absurd rfl h)
  exact hk ad2 M2 _ _ Fs.1 (by show cl + 0 ≤ _; omega) (by rw [Fs.2.2.2.2]; show sl + 0 ≤ _; omega)
set_option maxRecDepth 100000 in
set_option maxHeartbeats 4000000 in
theorem k_pass {κ : Kx} {nm : List (Nat × Int)} {ad : Ad} {M : Mem} {b L : Nat} {xs : Nat → Int32} {n : Int} {cl sl : Nat} (X : Cx κ cL_law RL room_1) (hNL : kN κ = 9) (S : Scr κ b L xs) (hN : NmOk nm) (hm : NmM nm) (hI : Inv n M M) (n0 : 0 ≤ n) (n1 : 6 * n + 6 ≤ (L : Int)) (hcl : cl ≤ 2000 + 8 * n.toNat) (hsl : sl ≤ 900000 + 32 * n.toNat + 6 * ((M.1 13 1 0 0)).toNat) (hk : Goon κ nm b n) : G κ nm ad M 2341 [some (.ref b), some (.ref (ad 0 0)), some (.ref (ad 40 0)), some (.ref (ad 90 0)), some (.ref (ad 91 0)), some (.int (iI (6 * n))), none, none, none] [] cl sl := by
  have hL := S.2.2.2
  have hR := hI.1
  have hV := hI.2.1
  have hZ := hI.2.2.1
  have hH := hI.2.2.2.1
  have hE := hI.2.2.2.2.1
  have hK := hI.2.2.2.2.2
  have hcap : 120 ≤ (M.1 13 1 0 0) ∧ (M.1 13 1 0 0) ≤ 61440 := by have := hK.cap.2.2.1; omega
  have hcc := hK.cc
  have hec := hE.ec
  have hn : n ≤ 511 := by omega
  have hrc := hR.rc
  have hvc := hV.vc
  have hrgc := hH.rc
  have hsc := hZ.sc
  refine g_rm (fun hM => ?_)
  refine g_aload_n X dL_law_2341 rfl rfl ?_
  refine g_arg X S dL_law_2342 dL_law_2343 dL_law_2345 dL_law_2346 dL_law_2347 rfl rfl rfl (by omega) (by omega) ?_
  refine g_aload_n X dL_law_2348 rfl rfl ?_
  refine g_invL (mc := 2) (ms := 12) X wl_L_pass ml_L_224 ⟨⟨Nat.le_of_ble_eq_true rfl, Nat.le_of_ble_eq_true rfl⟩, by show cl + 2 ≤ 601024; omega, by show sl + 12 ≤ 7293034; omega⟩ dL_law_2349 rfl (As := [.ref (ad 0 0), .int (iI (sc xs (6 * n + 1))), .ref (ad 90 0)]) (rest := []) rfl rfl (Nat.le_of_ble_eq_true rfl) (c_L_pass hN (c_X11_pass hN (sc_rng _ _) hR.rc hR.hg hR.yr) (fun v ad' M' h => ⟨by rw [h.2.2.1], _, h.2.1⟩) (fun E h => by rcases h with h | h <;> rw [h.1] <;> simp)) (fun v1 ad1 M1 h1 => ?_)
  have hcm : (∃ k : Int, 0 ≤ k ∧ k ≤ 3 ∧ v1 = some (.int (iI k))) ∧ (ad1 0 0 = ad 0 0 ∧ ad1 40 0 = ad 40 0 ∧ ad1 90 0 = ad 90 0 ∧ ad1 91 0 = ad 91 0) ∧ Inv n M M1 := by
    rcases h1 with ⟨x1, C1, ⟨hc, q1, q2, q3⟩, e1, eM⟩ | ⟨j, E, hj, hp, e1, e2, eM⟩
    · exact ⟨⟨0, by omega, by omega, e1⟩, by rw [q2]; exact ⟨rfl, rfl, rfl, rfl⟩, hI.ag (Ag.rf M) ((m_pass q3).1.tr (by rw [eM]; exact cM9_kMo (wrI_ag _ _)))⟩
    · have hjl : j < 2 := (List.getElem?_eq_some_iff.mp hj).1
      rw [e2, eM]
      exact ⟨⟨(j : Int) + 1, by omega, by omega, e1⟩, ⟨rfl, rfl, rfl, rfl⟩, hI⟩
  obtain ⟨⟨k, k0, k3, ev⟩, ⟨ea0, ea40, ea90, ea91⟩, hI1⟩ := hcm
  subst ev
  rw [← ea0, ← ea40, ← ea90, ← ea91]
  show G κ nm ad1 M1 2352 [some (.ref b), some (.ref (ad1 0 0)), some (.ref (ad1 40 0)), some (.ref (ad1 90 0)), some (.ref (ad1 91 0)), some (.int (iI (6 * n))), none, none, none] [.int (iI k)] _ _
  refine g_istore_6 X dL_law_2352 rfl (lt_kN hNL rfl) rfl ?_
  refine g_aload_n X dL_law_2354 rfl rfl ?_
  refine g_arg X S dL_law_2355 dL_law_2356 dL_law_2358 dL_law_2359 dL_law_2360 rfl rfl rfl (by omega) (by omega) ?_
  refine g_iV1 X w_X12_pass ml_L_226 dL_law_2361 rfl (n40 hN) (en40 _ _ _ _) ⟨⟨Nat.le_of_ble_eq_true rfl, Nat.le_of_ble_eq_true rfl⟩, by show cl + 2 + 0 ≤ 601024; omega, by show sl + 12 + 0 ≤ 7293034; omega⟩ (Nat.le_of_ble_eq_true rfl) (c_X12_pass hN hI1.1 (sc_rng _ _)) (fun v2 ad2 M2 h2 => ?_)
  obtain ⟨ea2, h2⟩ := h2
  subst ea2
  have hv2 : ∃ z : Int, v2 = some (.int (iI z)) := by
    rcases h2 with ⟨-, e, -⟩ | ⟨-, e, -⟩ <;> exact ⟨_, e⟩
  obtain ⟨z, ez⟩ := hv2
  subst ez
  show G κ nm ad2 M2 2364 [some (.ref b), some (.ref (ad2 0 0)), some (.ref (ad2 40 0)), some (.ref (ad2 90 0)), some (.ref (ad2 91 0)), some (.int (iI (6 * n))), some (.int (iI k)), none, none] [.int (iI z)] _ _
  refine g_istore_7 X dL_law_2364 rfl (lt_kN hNL rfl) rfl ?_
  have F : (M2.1 40 46 0 0) = k ∧ (k = 0 → M2.2 90 0 0 0 = (iI z).toInt64) ∧ Inv (n + 1) M2 M2 ∧ (M2.1 13 1 0 0) = (M.1 13 1 0 0) := by
    rcases h1 with ⟨x1, C1, ⟨hc, q1, q2, q3⟩, e1, eM⟩ | ⟨j, E, hj, hp, e1, -, eM⟩
    · have ek : k = 0 := ik_eq ⟨by omega, by omega⟩ (by decide) e1
      rcases h2 with ⟨hw, -, -⟩ | ⟨-, e2, hP⟩
      · exfalso; revert hw; split <;> first | (intro hw; omega) | (split <;> first | (intro hw; omega) | (split <;> (intro hw; omega)))
      · have f1 : Ag (cM [90, 91] []) C1 M1 := by rw [eM]; exact wrI_ag _ _
        have Fs := s_pass hI1 f1 hc.1 hc.2 q3 hP
        have ex := Option.some.inj q1
        refine ⟨by rw [ek]; exact Fs.2.1, fun _ => ?_, Fs.1, ?_⟩
        · rw [Fs.2.2.1, eM, ex, wrI_i, iv_eq e2]
        · rw [Fs.2.2.2.2, (m_pass q3).2]
    · have hjl : j < 2 := (List.getElem?_eq_some_iff.mp hj).1
      have ek : k = (j : Int) + 1 := ik_eq ⟨by omega, by omega⟩ ⟨by omega, by omega⟩ e1
      rcases es2 hj with ⟨ej, eE⟩ | ⟨ej, eE⟩ <;> subst eE
      all_goals rcases hp with ⟨he, hp⟩ | ⟨he, hp⟩
      all_goals first | exact absurd he (by decide) | skip
      all_goals
        rcases h2 with ⟨hw, -, eM2⟩ | ⟨hw, -, -⟩
        · refine ⟨?_, fun hk0 => by omega, by rw [eM2, eM]; exact hI.refused, ?_⟩
          · rw [eM2, ref_46]
            split <;> first | omega | (split <;> first | omega | (split <;> omega))
          · rw [eM2, ref_cap, eM]
        · exfalso; revert hw; split <;> first | (intro hw; omega) | (split <;> first | (intro hw; omega) | (split <;> (intro hw; omega)))
  exact g_tailI X hNL hN (by show cl + 2 + 0 ≤ 601024; omega) (by show sl + 12 + 0 ≤ 7293034; omega) dL_law_2366 dL_law_2367 dL_law_2370 dL_law_2372 dL_law_2377 dL_law_2379 dL_law_2382 dL_law_2383 dL_law_2384 dL_law_2385 dL_law_2387 dL_law_2388 dL_law_2389 dL_law_2394 (by decide) ⟨by omega, by omega⟩ F.1 F.2.1 (hk ad2 M2 _ _ F.2.2.1 (by show cl + 2 + 0 ≤ _; omega) (by rw [F.2.2.2]; show sl + 12 + 0 ≤ _; omega))
