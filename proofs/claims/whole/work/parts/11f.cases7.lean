set_option maxRecDepth 100000 in
set_option maxHeartbeats 4000000 in
theorem k_scratch {κ : Kx} {nm : List (Nat × Int)} {ad : Ad} {M : Mem} {b L : Nat} {xs : Nat → Int32} {n : Int} {cl sl : Nat} (X : Cx κ cL_law RL room_1) (hNL : kN κ = 9) (S : Scr κ b L xs) (hN : NmOk nm) (hm : NmM nm) (hI : Inv n M M) (n0 : 0 ≤ n) (n1 : 6 * n + 6 ≤ (L : Int)) (hcl : cl ≤ 2000 + 8 * n.toNat) (hsl : sl ≤ 900000 + 32 * n.toNat + 6 * ((M.1 13 1 0 0)).toNat) (hk : Goon κ nm b n) : G κ nm ad M 2015 [some (.ref b), some (.ref (ad 0 0)), some (.ref (ad 40 0)), some (.ref (ad 90 0)), some (.ref (ad 91 0)), some (.int (iI (6 * n))), none, none, none] [] cl sl := by
  have hL := S.2.2.2
  have hR := hI.1
  have hV := hI.2.1
  have hZ := hI.2.2.1
  have hH := hI.2.2.2.1
  have hE := hI.2.2.2.2.1
  have hK := hI.2.2.2.2.2
  have hcap : 120 ≤ (M.1 13 1 0 0) ∧ (M.1 13 1 0 0) ≤ 61440 := by have := hK.cap.2.2.1; omega
  have hcc := hK.cc
  have hec := hE.ec
  have hn : n ≤ 511 := by omega
  have hrc := hR.rc
  have hvc := hV.vc
  have hrgc := hH.rc
  have hsc := hZ.sc
  refine g_rm (fun hM => ?_)
  refine g_aload_n X dL_law_2015 rfl rfl ?_
  refine g_arg X S dL_law_2016 dL_law_2017 dL_law_2019 dL_law_2020 dL_law_2021 rfl rfl rfl (by omega) (by omega) ?_
  refine g_arg X S dL_law_2022 dL_law_2023 dL_law_2025 dL_law_2026 dL_law_2027 rfl rfl rfl (by omega) (by omega) ?_
  refine g_arg X S dL_law_2028 dL_law_2029 dL_law_2031 dL_law_2032 dL_law_2033 rfl rfl rfl (by omega) (by omega) ?_
  refine g_arg X S dL_law_2034 dL_law_2035 dL_law_2037 dL_law_2038 dL_law_2039 rfl rfl rfl (by omega) (by omega) ?_
  refine g_aload_n X dL_law_2040 rfl rfl ?_
  obtain ⟨ms, hms⟩ := MsOk.ex (b := 18) (cap := (M.1 13 1 0 0)) (by decide) (by omega) (((0 ≤ sc xs (6 * n + 2) ∧ sc xs (6 * n + 2) < (M.1 10 0 0 0)) ∧ (0 ≤ sc xs (6 * n + 3) ∧ sc xs (6 * n + 3) < (M.1 10 0 0 0)) ∧ ((1 ≤ sc xs (6 * n + 1) ∧ sc xs (6 * n + 1) ≤ 6) ∧ (0 ≤ sc xs (6 * n + 4) ∧ sc xs (6 * n + 4) ≤ 255) ∧ sc xs (6 * n + 2) ≤ sc xs (6 * n + 3))) ∧ (M.1 13 1 0 0) < (M.1 12 0 0 0) + sm (dI (decS M (sc xs (6 * n + 1)) (sc xs (6 * n + 2)) (sc xs (6 * n + 3)) (sc xs (6 * n + 4)))) (sc xs (6 * n + 2)) (sc xs (6 * n + 3) + 1))
  have hmsb := hms.le (by omega)
  refine g_invL (mc := 6) (ms := ms) X wl_L_scratch ml_L_203 ⟨⟨Nat.le_of_ble_eq_true rfl, Nat.le_of_ble_eq_true rfl⟩, by show cl + 6 ≤ 601024; omega, by show sl + ms ≤ 7293034; omega⟩ dL_law_2041 rfl (As := [.ref (ad 0 0), .int (iI (sc xs (6 * n + 1))), .int (iI (sc xs (6 * n + 2))), .int (iI (sc xs (6 * n + 3))), .int (iI (sc xs (6 * n + 4))), .ref (ad 90 0)]) (rest := []) rfl rfl (Nat.le_of_ble_eq_true rfl) (c_L_scratch hN (c_X11_scratch hN (sc_rng _ _) (sc_rng _ _) (sc_rng _ _) (sc_rng _ _) hE.ec hK.cap (by omega) (fun k a b => by have := hK.nb k a b; omega) ⟨by omega, by omega⟩ (fun v g => ⟨by omega, by have := hms.1 ⟨v, g⟩; omega⟩)) (fun v ad' M' h => ⟨h.2.2.1 90 0 (by decide) (by decide) (by decide), _, h.2.1⟩) (fun E h => by rcases h with h | h | h <;> rw [h.1] <;> simp)) (fun v1 ad1 M1 h1 => ?_)
  have hcm : (∃ k : Int, 0 ≤ k ∧ k ≤ 3 ∧ v1 = some (.int (iI k))) ∧ (ad1 0 0 = ad 0 0 ∧ ad1 40 0 = ad 40 0 ∧ ad1 90 0 = ad 90 0 ∧ ad1 91 0 = ad 91 0) ∧ Inv n M M1 := by
    rcases h1 with ⟨x1, C1, ⟨hc, q1, q2, q3⟩, e1, eM⟩ | ⟨j, E, hj, hp, e1, e2, eM⟩
    · exact ⟨⟨0, by omega, by omega, e1⟩, ⟨q2 0 0 (by decide) (by decide) (by decide), q2 40 0 (by decide) (by decide) (by decide), q2 90 0 (by decide) (by decide) (by decide), q2 91 0 (by decide) (by decide) (by decide)⟩, hI.ag (Ag.rf M) ((m_mend (Ag.rf M) q3).1.tr (by rw [eM]; exact cM9_kMo (wrI_ag _ _)))⟩
    · have hjl : j < 2 := (List.getElem?_eq_some_iff.mp hj).1
      rw [e2, eM]
      exact ⟨⟨(j : Int) + 1, by omega, by omega, e1⟩, ⟨rfl, rfl, rfl, rfl⟩, hI⟩
  obtain ⟨⟨k, k0, k3, ev⟩, ⟨ea0, ea40, ea90, ea91⟩, hI1⟩ := hcm
  subst ev
  rw [← ea0, ← ea40, ← ea90, ← ea91]
  show G κ nm ad1 M1 2044 [some (.ref b), some (.ref (ad1 0 0)), some (.ref (ad1 40 0)), some (.ref (ad1 90 0)), some (.ref (ad1 91 0)), some (.int (iI (6 * n))), none, none, none] [.int (iI k)] _ _
  refine g_istore_6 X dL_law_2044 rfl (lt_kN hNL rfl) rfl ?_
  refine g_aload_n X dL_law_2046 rfl rfl ?_
  refine g_arg X S dL_law_2047 dL_law_2048 dL_law_2050 dL_law_2051 dL_law_2052 rfl rfl rfl (by omega) (by omega) ?_
  refine g_arg X S dL_law_2053 dL_law_2054 dL_law_2056 dL_law_2057 dL_law_2058 rfl rfl rfl (by omega) (by omega) ?_
  refine g_arg X S dL_law_2059 dL_law_2060 dL_law_2062 dL_law_2063 dL_law_2064 rfl rfl rfl (by omega) (by omega) ?_
  refine g_arg X S dL_law_2065 dL_law_2066 dL_law_2068 dL_law_2069 dL_law_2070 rfl rfl rfl (by omega) (by omega) ?_
  refine g_iV4 X w_X12_scratch ml_L_205 dL_law_2071 rfl (n40 hN) (en40 _ _ _ _) ⟨⟨Nat.le_of_ble_eq_true rfl, Nat.le_of_ble_eq_true rfl⟩, by show cl + 6 + 0 ≤ 601024; omega, by show sl + ms + 0 ≤ 7293034; omega⟩ (Nat.le_of_ble_eq_true rfl) (c_X12_scratch hN hI1.2.2.2.2.1 hI1.2.2.2.2.2 ⟨n0, by omega⟩ (sc_rng _ _) (sc_rng _ _) (sc_rng _ _) (sc_rng _ _)) (fun v2 ad2 M2 h2 => ?_)
  obtain ⟨ea2, h2⟩ := h2
  subst ea2
  have hv2 : ∃ z : Int, v2 = some (.int (iI z)) := by
    rcases h2 with ⟨-, e, -⟩ | ⟨-, e, -⟩ <;> exact ⟨_, e⟩
  obtain ⟨z, ez⟩ := hv2
  subst ez
  show G κ nm ad2 M2 2074 [some (.ref b), some (.ref (ad2 0 0)), some (.ref (ad2 40 0)), some (.ref (ad2 90 0)), some (.ref (ad2 91 0)), some (.int (iI (6 * n))), some (.int (iI k)), none, none] [.int (iI z)] _ _
  refine g_istore_7 X dL_law_2074 rfl (lt_kN hNL rfl) rfl ?_
  have F : (M2.1 40 46 0 0) = k ∧ (k = 0 → M2.2 90 0 0 0 = (iI z).toInt64) ∧ Inv (n + 1) M2 M2 ∧ sl + ms + 0 ≤ 900000 + 32 * (n + 1).toNat + 6 * ((M2.1 13 1 0 0)).toNat := by
    rcases h1 with ⟨x1, C1, ⟨hc, q1, q2, q3⟩, e1, eM⟩ | ⟨j, E, hj, hp, e1, -, eM⟩
    · have ek : k = 0 := ik_eq ⟨by omega, by omega⟩ (by decide) e1
      rcases h2 with ⟨hw, -, -⟩ | ⟨-, e2, hP⟩
      · exfalso; revert hw; split <;> first | (intro hw; omega) | (split <;> first | (intro hw; omega) | (split <;> (intro hw; omega)))
      · have f1 : Ag (cM [90, 91] []) C1 M1 := by rw [eM]; exact wrI_ag _ _
        have Fs := s_mend hI1 f1 (Ag.rf M) hc.1.1 (Or.inl (by omega)) (Or.inl (Int.le_refl _)) (by omega) (by omega) q3 hP
        have ex := Option.some.inj q1
        refine ⟨by rw [ek]; exact Fs.2.1, fun _ => ?_, Fs.1, ?_⟩
        · rw [Fs.2.2.1, eM, ex, wrI_i, iv_eq e2]
        · have g1 := (m_mend (Ag.rf M) q3).2
          rw [Fs.2.2.2.2]
          by_cases g : (M.1 13 1 0 0) < (M.1 12 0 0 0) + sm (dI (decS M (sc xs (6 * n + 1)) (sc xs (6 * n + 2)) (sc xs (6 * n + 3)) (sc xs (6 * n + 4)))) (sc xs (6 * n + 2)) (sc xs (6 * n + 3) + 1)
          · have e3 := g1.2 g
            have e4 := hms.1 ⟨hc, g⟩
            omega
          · have e3 := g1.1 (by omega)
            have e4 := hms.2 (fun q => g q.2)
            omega
    · have hjl : j < 2 := (List.getElem?_eq_some_iff.mp hj).1
      have ek : k = (j : Int) + 1 := ik_eq ⟨by omega, by omega⟩ ⟨by omega, by omega⟩ e1
      rcases es2 hj with ⟨ej, eE⟩ | ⟨ej, eE⟩ <;> subst eE
      all_goals rcases hp with ⟨he, hp⟩ | ⟨he, hp⟩ | ⟨he, hp⟩
      all_goals first | exact absurd he (by decide) | skip
      all_goals
        rcases h2 with ⟨hw, -, eM2⟩ | ⟨hw, -, -⟩
        · refine ⟨?_, fun hk0 => by omega, by rw [eM2, eM]; exact hI.refused, ?_⟩
          · rw [eM2, ref_46]
            split <;> first | omega | (split <;> first | omega | (split <;> omega))
          · have e4 := hms.2 (fun q => by have q1 := q.1; omega)
            rw [eM2, ref_cap, eM]
            omega
        · exfalso; revert hw; split <;> first | (intro hw; omega) | (split <;> first | (intro hw; omega) | (split <;> (intro hw; omega)))
  exact g_tailI X hNL hN (by show cl + 6 + 0 ≤ 601024; omega) (by show sl + ms + 0 ≤ 7293034; omega) dL_law_2076 dL_law_2077 dL_law_2080 dL_law_2082 dL_law_2087 dL_law_2089 dL_law_2092 dL_law_2093 dL_law_2094 dL_law_2095 dL_law_2097 dL_law_2098 dL_law_2099 dL_law_2104 (by decide) ⟨by omega, by omega⟩ F.1 F.2.1 (hk ad2 M2 _ _ F.2.2.1 (by show cl + 6 + 0 ≤ _; omega) (by exact F.2.2.2))
