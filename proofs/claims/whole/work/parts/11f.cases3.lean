set_option maxRecDepth 100000 in
set_option maxHeartbeats 4000000 in
theorem k_version {κ : Kx} {nm : List (Nat × Int)} {ad : Ad} {M : Mem} {b L : Nat} {xs : Nat → Int32} {n : Int} {cl sl : Nat} (X : Cx κ cL_law RL room_1) (hNL : kN κ = 9) (S : Scr κ b L xs) (hN : NmOk nm) (hm : NmM nm) (hI : Inv n M M) (n0 : 0 ≤ n) (n1 : 6 * n + 6 ≤ (L : Int)) (hcl : cl ≤ 2000 + 8 * n.toNat) (hsl : sl ≤ 900000 + 32 * n.toNat + 6 * ((M.1 13 1 0 0)).toNat) (hk : Goon κ nm b n) : G κ nm ad M 974 [some (.ref b), some (.ref (ad 0 0)), some (.ref (ad 40 0)), some (.ref (ad 90 0)), some (.ref (ad 91 0)), some (.int (iI (6 * n))), none, none, none] [] cl sl := by
  have hL := S.2.2.2
  have hR := hI.1
  have hV := hI.2.1
  have hZ := hI.2.2.1
  have hH := hI.2.2.2.1
  have hE := hI.2.2.2.2.1
  have hK := hI.2.2.2.2.2
  have hcap : 120 ≤ (M.1 13 1 0 0) ∧ (M.1 13 1 0 0) ≤ 61440 := by have := hK.cap.2.2.1; omega
  have hcc := hK.cc
  have hec := hE.ec
  have hn : n ≤ 511 := by omega
  have hrc := hR.rc
  have hvc := hV.vc
  have hrgc := hH.rc
  have hsc := hZ.sc
  refine g_rm (fun hM => ?_)
  refine g_aload_n X dL_law_974 rfl rfl ?_
  refine g_arg X S dL_law_975 dL_law_976 dL_law_978 dL_law_979 dL_law_980 rfl rfl rfl (by omega) (by omega) ?_
  refine g_arg X S dL_law_981 dL_law_982 dL_law_984 dL_law_985 dL_law_986 rfl rfl rfl (by omega) (by omega) ?_
  refine g_aload_n X dL_law_987 rfl rfl ?_
  refine g_invL (mc := 2) (ms := 12) X wl_L_version ml_L_160 ⟨⟨Nat.le_of_ble_eq_true rfl, Nat.le_of_ble_eq_true rfl⟩, by show cl + 2 ≤ 601024; omega, by show sl + 12 ≤ 7293034; omega⟩ dL_law_988 rfl (As := [.ref (ad 0 0), .int (iI (sc xs (6 * n + 1))), .int (iI (sc xs (6 * n + 2))), .ref (ad 90 0)]) (rest := []) rfl rfl (Nat.le_of_ble_eq_true rfl) (c_L_version hN (c_X11_version hN (sc_rng _ _) (sc_rng _ _) hV.vc) (fun v ad' M' h => ⟨by rw [h.2.2.1], _, h.2.1⟩) (fun E h => by rcases h with h | h <;> rw [h.1] <;> simp)) (fun v1 ad1 M1 h1 => ?_)
  have hcm : (∃ k : Int, 0 ≤ k ∧ k ≤ 3 ∧ v1 = some (.int (iI k))) ∧ (ad1 0 0 = ad 0 0 ∧ ad1 40 0 = ad 40 0 ∧ ad1 90 0 = ad 90 0 ∧ ad1 91 0 = ad 91 0) ∧ Inv n M M1 := by
    rcases h1 with ⟨x1, C1, ⟨hc, q1, q2, q3⟩, e1, eM⟩ | ⟨j, E, hj, hp, e1, e2, eM⟩
    · exact ⟨⟨0, by omega, by omega, e1⟩, by rw [q2]; exact ⟨rfl, rfl, rfl, rfl⟩, hI.ag (Ag.rf M) ((m_version q3).1.tr (by rw [eM]; exact cM9_kMo (wrI_ag _ _)))⟩
    · have hjl : j < 2 := (List.getElem?_eq_some_iff.mp hj).1
      rw [e2, eM]
      exact ⟨⟨(j : Int) + 1, by omega, by omega, e1⟩, ⟨rfl, rfl, rfl, rfl⟩, hI⟩
  obtain ⟨⟨k, k0, k3, ev⟩, ⟨ea0, ea40, ea90, ea91⟩, hI1⟩ := hcm
  subst ev
  rw [← ea0, ← ea40, ← ea90, ← ea91]
  show G κ nm ad1 M1 991 [some (.ref b), some (.ref (ad1 0 0)), some (.ref (ad1 40 0)), some (.ref (ad1 90 0)), some (.ref (ad1 91 0)), some (.int (iI (6 * n))), none, none, none] [.int (iI k)] _ _
  refine g_istore_6 X dL_law_991 rfl (lt_kN hNL rfl) rfl ?_
  refine g_aload_n X dL_law_993 rfl rfl ?_
  refine g_arg X S dL_law_994 dL_law_995 dL_law_997 dL_law_998 dL_law_999 rfl rfl rfl (by omega) (by omega) ?_
  refine g_arg X S dL_law_1000 dL_law_1001 dL_law_1003 dL_law_1004 dL_law_1005 rfl rfl rfl (by omega) (by omega) ?_
  refine g_iV2 X w_X12_version ml_L_162 dL_law_1006 rfl (n40 hN) (en40 _ _ _ _) ⟨⟨Nat.le_of_ble_eq_true rfl, Nat.le_of_ble_eq_true rfl⟩, by show cl + 2 + 0 ≤ 601024; omega, by show sl + 12 + 0 ≤ 7293034; omega⟩ (Nat.le_of_ble_eq_true rfl) (c_X12_version hN hI1.2.1 (sc_rng _ _) (sc_rng _ _)) (fun v2 ad2 M2 h2 => ?_)
  obtain ⟨ea2, h2⟩ := h2
  subst ea2
  have hv2 : ∃ z : Int, v2 = some (.int (iI z)) := by
    rcases h2 with ⟨-, e, -⟩ | ⟨-, e, -⟩ <;> exact ⟨_, e⟩
  obtain ⟨z, ez⟩ := hv2
  subst ez
  show G κ nm ad2 M2 1009 [some (.ref b), some (.ref (ad2 0 0)), some (.ref (ad2 40 0)), some (.ref (ad2 90 0)), some (.ref (ad2 91 0)), some (.int (iI (6 * n))), some (.int (iI k)), none, none] [.int (iI z)] _ _
  refine g_istore_7 X dL_law_1009 rfl (lt_kN hNL rfl) rfl ?_
  have F : (M2.1 40 46 0 0) = k ∧ (k = 0 → M2.2 90 0 0 0 = (iI z).toInt64) ∧ Inv (n + 1) M2 M2 ∧ (M2.1 13 1 0 0) = (M.1 13 1 0 0) := by
    rcases h1 with ⟨x1, C1, ⟨hc, q1, q2, q3⟩, e1, eM⟩ | ⟨j, E, hj, hp, e1, -, eM⟩
    · have ek : k = 0 := ik_eq ⟨by omega, by omega⟩ (by decide) e1
      rcases h2 with ⟨hw, -, -⟩ | ⟨-, e2, hP⟩
      · exfalso; revert hw; split <;> first | (intro hw; omega) | (split <;> first | (intro hw; omega) | (split <;> (intro hw; omega)))
      · have f1 : Ag (cM [90, 91] []) C1 M1 := by rw [eM]; exact wrI_ag _ _
        have Fs := s_version hI1 f1 hc.2 q3 hP
        have ex := Option.some.inj q1
        refine ⟨by rw [ek]; exact Fs.2.1, fun _ => ?_, Fs.1, ?_⟩
        · rw [Fs.2.2.1, eM, ex, wrI_i, iv_eq e2]
        · rw [Fs.2.2.2.2, (m_version q3).2]
    · have hjl : j < 2 := (List.getElem?_eq_some_iff.mp hj).1
      have ek : k = (j : Int) + 1 := ik_eq ⟨by omega, by omega⟩ ⟨by omega, by omega⟩ e1
      rcases es2 hj with ⟨ej, eE⟩ | ⟨ej, eE⟩ <;> subst eE
      all_goals rcases hp with ⟨he, hp⟩ | ⟨he, hp⟩
      all_goals first | exact absurd he (by decide) | skip
      all_goals
        rcases h2 with ⟨hw, -, eM2⟩ | ⟨hw, -, -⟩
        · refine ⟨?_, fun hk0 => by omega, by rw [eM2, eM]; exact hI.refused, ?_⟩
          · rw [eM2, ref_46]
            split <;> first | omega | (split <;> first | omega | (split <;> omega))
          · rw [eM2, ref_cap, eM]
        · exfalso; revert hw; split <;> first | (intro hw; omega) | (split <;> first | (intro hw; omega) | (split <;> (intro hw; omega)))
  exact g_tailI X hNL hN (by show cl + 2 + 0 ≤ 601024; omega) (by show sl + 12 + 0 ≤ 7293034; omega) dL_law_1011 dL_law_1012 dL_law_1015 dL_law_1017 dL_law_1022 dL_law_1024 dL_law_1027 dL_law_1028 dL_law_1029 dL_law_1030 dL_law_1032 dL_law_1033 dL_law_1034 dL_law_1039 (by decide) ⟨by omega, by omega⟩ F.1 F.2.1 (hk ad2 M2 _ _ F.2.2.1 (by show cl + 2 + 0 ≤ _; omega) (by rw [F.2.2.2]; show sl + 12 + 0 ≤ _; omega))
set_option maxRecDepth 100000 in
set_option maxHeartbeats 4000000 in
theorem k_shot {κ : Kx} {nm : List (Nat × Int)} {ad : Ad} {M : Mem} {b L : Nat} {xs : Nat → Int32} {n : Int} {cl sl : Nat} (X : Cx κ cL_law RL room_1) (hNL : kN κ = 9) (S : Scr κ b L xs) (hN : NmOk nm) (hm : NmM nm) (hI : Inv n M M) (n0 : 0 ≤ n) (n1 : 6 * n + 6 ≤ (L : Int)) (hcl : cl ≤ 2000 + 8 * n.toNat) (hsl : sl ≤ 900000 + 32 * n.toNat + 6 * ((M.1 13 1 0 0)).toNat) (hk : Goon κ nm b n) : G κ nm ad M 1042 [some (.ref b), some (.ref (ad 0 0)), some (.ref (ad 40 0)), some (.ref (ad 90 0)), some (.ref (ad 91 0)), some (.int (iI (6 * n))), none, none, none] [] cl sl := by
  have hL := S.2.2.2
  have hR := hI.1
  have hV := hI.2.1
  have hZ := hI.2.2.1
  have hH := hI.2.2.2.1
  have hE := hI.2.2.2.2.1
  have hK := hI.2.2.2.2.2
  have hcap : 120 ≤ (M.1 13 1 0 0) ∧ (M.1 13 1 0 0) ≤ 61440 := by have := hK.cap.2.2.1; omega
  have hcc := hK.cc
  have hec := hE.ec
  have hn : n ≤ 511 := by omega
  have hrc := hR.rc
  have hvc := hV.vc
  have hrgc := hH.rc
  have hsc := hZ.sc
  have x1 : ¬ (0 ≤ sc xs (6 * n + 1) ∧ sc xs (6 * n + 1) < (M.1 0 6 0 0)) ∨ (0 ≤ (M.1 22 3 (sc xs (6 * n + 1)) 0) ∧ (M.1 22 3 (sc xs (6 * n + 1)) 0) ≤ 10) := by
    by_cases g : 0 ≤ sc xs (6 * n + 1) ∧ sc xs (6 * n + 1) < (M.1 0 6 0 0)
    · exact Or.inr (hV.ok _ g.1 g.2).1
    · exact Or.inl g
  refine g_rm (fun hM => ?_)
  refine g_aload_n X dL_law_1042 rfl rfl ?_
  refine g_arg X S dL_law_1043 dL_law_1044 dL_law_1046 dL_law_1047 dL_law_1048 rfl rfl rfl (by omega) (by omega) ?_
  refine g_arg X S dL_law_1049 dL_law_1050 dL_law_1052 dL_law_1053 dL_law_1054 rfl rfl rfl (by omega) (by omega) ?_
  refine g_arg X S dL_law_1055 dL_law_1056 dL_law_1058 dL_law_1059 dL_law_1060 rfl rfl rfl (by omega) (by omega) ?_
  refine g_aload_n X dL_law_1061 rfl rfl ?_
  refine g_invL (mc := 3) (ms := 18) X wl_L_shot ml_L_163 ⟨⟨Nat.le_of_ble_eq_true rfl, Nat.le_of_ble_eq_true rfl⟩, by show cl + 3 ≤ 601024; omega, by show sl + 18 ≤ 7293034; omega⟩ dL_law_1062 rfl (As := [.ref (ad 0 0), .int (iI (sc xs (6 * n + 1))), .int (iI (sc xs (6 * n + 2))), .int (iI (sc xs (6 * n + 3))), .ref (ad 90 0)]) (rest := []) rfl rfl (Nat.le_of_ble_eq_true rfl) (c_L_shot hN (c_X11_shot hN (sc_rng _ _) (sc_rng _ _) (sc_rng _ _) hV.vc hV.ok) (fun v ad' M' h => ⟨by rw [h.2.2.1], _, h.2.1⟩) (fun E h => by rcases h with h | h | h <;> rw [h.1] <;> simp)) (fun v1 ad1 M1 h1 => ?_)
  have hcm : (∃ k : Int, 0 ≤ k ∧ k ≤ 3 ∧ v1 = some (.int (iI k))) ∧ (ad1 0 0 = ad 0 0 ∧ ad1 40 0 = ad 40 0 ∧ ad1 90 0 = ad 90 0 ∧ ad1 91 0 = ad 91 0) ∧ Inv n M M1 := by
    rcases h1 with ⟨x1, C1, ⟨hc, q1, q2, q3⟩, e1, eM⟩ | ⟨j, E, hj, hp, e1, e2, eM⟩
    · exact ⟨⟨0, by omega, by omega, e1⟩, by rw [q2]; exact ⟨rfl, rfl, rfl, rfl⟩, hI.ag (Ag.rf M) ((m_shot q3).1.tr (by rw [eM]; exact cM9_kMo (wrI_ag _ _)))⟩
    · have hjl : j < 3 := (List.getElem?_eq_some_iff.mp hj).1
      rw [e2, eM]
      exact ⟨⟨(j : Int) + 1, by omega, by omega, e1⟩, ⟨rfl, rfl, rfl, rfl⟩, hI⟩
  obtain ⟨⟨k, k0, k3, ev⟩, ⟨ea0, ea40, ea90, ea91⟩, hI1⟩ := hcm
  subst ev
  rw [← ea0, ← ea40, ← ea90, ← ea91]
  show G κ nm ad1 M1 1065 [some (.ref b), some (.ref (ad1 0 0)), some (.ref (ad1 40 0)), some (.ref (ad1 90 0)), some (.ref (ad1 91 0)), some (.int (iI (6 * n))), none, none, none] [.int (iI k)] _ _
  refine g_istore_6 X dL_law_1065 rfl (lt_kN hNL rfl) rfl ?_
  refine g_aload_n X dL_law_1067 rfl rfl ?_
  refine g_arg X S dL_law_1068 dL_law_1069 dL_law_1071 dL_law_1072 dL_law_1073 rfl rfl rfl (by omega) (by omega) ?_
  refine g_arg X S dL_law_1074 dL_law_1075 dL_law_1077 dL_law_1078 dL_law_1079 rfl rfl rfl (by omega) (by omega) ?_
  refine g_arg X S dL_law_1080 dL_law_1081 dL_law_1083 dL_law_1084 dL_law_1085 rfl rfl rfl (by omega) (by omega) ?_
  refine g_iV3 X w_X12_shot ml_L_165 dL_law_1086 rfl (n40 hN) (en40 _ _ _ _) ⟨⟨Nat.le_of_ble_eq_true rfl, Nat.le_of_ble_eq_true rfl⟩, by show cl + 3 + 0 ≤ 601024; omega, by show sl + 18 + 0 ≤ 7293034; omega⟩ (Nat.le_of_ble_eq_true rfl) (c_X12_shot hN hI1.2.1 (sc_rng _ _) (sc_rng _ _) (sc_rng _ _)) (fun v2 ad2 M2 h2 => ?_)
  obtain ⟨ea2, h2⟩ := h2
  subst ea2
  have hv2 : ∃ z : Int, v2 = some (.int (iI z)) := by
    rcases h2 with ⟨-, e, -⟩ | ⟨-, e, -⟩ <;> exact ⟨_, e⟩
  obtain ⟨z, ez⟩ := hv2
  subst ez
  show G κ nm ad2 M2 1089 [some (.ref b), some (.ref (ad2 0 0)), some (.ref (ad2 40 0)), some (.ref (ad2 90 0)), some (.ref (ad2 91 0)), some (.int (iI (6 * n))), some (.int (iI k)), none, none] [.int (iI z)] _ _
  refine g_istore_7 X dL_law_1089 rfl (lt_kN hNL rfl) rfl ?_
  have F : (M2.1 40 46 0 0) = k ∧ (k = 0 → M2.2 90 0 0 0 = (iI z).toInt64) ∧ Inv (n + 1) M2 M2 ∧ (M2.1 13 1 0 0) = (M.1 13 1 0 0) := by
    rcases h1 with ⟨x1, C1, ⟨hc, q1, q2, q3⟩, e1, eM⟩ | ⟨j, E, hj, hp, e1, -, eM⟩
    · have ek : k = 0 := ik_eq ⟨by omega, by omega⟩ (by decide) e1
      rcases h2 with ⟨hw, -, -⟩ | ⟨-, e2, hP⟩
      · exfalso; revert hw; split <;> first | (intro hw; omega) | (split <;> first | (intro hw; omega) | (split <;> (intro hw; omega)))
      · have f1 : Ag (cM [90, 91] []) C1 M1 := by rw [eM]; exact wrI_ag _ _
        have Fs := s_shot hI1 f1 hc.1 ⟨hc.2.1.1.1, hc.2.1.2.1, hc.2.1.2.2⟩ hc.2.2.1 hc.2.2.2 q3 hP
        have ex := Option.some.inj q1
        refine ⟨by rw [ek]; exact Fs.2.1, fun _ => ?_, Fs.1, ?_⟩
        · rw [Fs.2.2.1, eM, ex, wrI_i, iv_eq e2]
        · rw [Fs.2.2.2.2, (m_shot q3).2]
    · have hjl : j < 3 := (List.getElem?_eq_some_iff.mp hj).1
      have ek : k = (j : Int) + 1 := ik_eq ⟨by omega, by omega⟩ ⟨by omega, by omega⟩ e1
      rcases es3 hj with ⟨ej, eE⟩ | ⟨ej, eE⟩ | ⟨ej, eE⟩ <;> subst eE
      all_goals rcases hp with ⟨he, hp⟩ | ⟨he, hp⟩ | ⟨he, hp⟩
      all_goals first | exact absurd he (by decide) | skip
      all_goals
        rcases h2 with ⟨hw, -, eM2⟩ | ⟨hw, -, -⟩
        · refine ⟨?_, fun hk0 => by omega, by rw [eM2, eM]; exact hI.refused, ?_⟩
          · rw [eM2, ref_46]
            split <;> first | omega | (split <;> first | omega | (split <;> omega))
          · rw [eM2, ref_cap, eM]
        · exfalso; revert hw; split <;> first | (intro hw; omega) | (split <;> first | (intro hw; omega) | (split <;> (intro hw; omega)))
  exact g_tailI X hNL hN (by show cl + 3 + 0 ≤ 601024; omega) (by show sl + 18 + 0 ≤ 7293034; omega) dL_law_1091 dL_law_1092 dL_law_1095 dL_law_1097 dL_law_1102 dL_law_1104 dL_law_1107 dL_law_1108 dL_law_1109 dL_law_1110 dL_law_1112 dL_law_1113 dL_law_1114 dL_law_1119 (by decide) ⟨by omega, by omega⟩ F.1 F.2.1 (hk ad2 M2 _ _ F.2.2.1 (by show cl + 3 + 0 ≤ _; omega) (by rw [F.2.2.2]; show sl + 18 + 0 ≤ _; omega))
set_option maxRecDepth 100000 in
set_option maxHeartbeats 4000000 in
theorem k_proof {κ : Kx} {nm : List (Nat × Int)} {ad : Ad} {M : Mem} {b L : Nat} {xs : Nat → Int32} {n : Int} {cl sl : Nat} (X : Cx κ cL_law RL room_1) (hNL : kN κ = 9) (S : Scr κ b L xs) (hN : NmOk nm) (hm : NmM nm) (hI : Inv n M M) (n0 : 0 ≤ n) (n1 : 6 * n + 6 ≤ (L : Int)) (hcl : cl ≤ 2000 + 8 * n.toNat) (hsl : sl ≤ 900000 + 32 * n.toNat + 6 * ((M.1 13 1 0 0)).toNat) (hk : Goon κ nm b n) : G κ nm ad M 1122 [some (.ref b), some (.ref (ad 0 0)), some (.ref (ad 40 0)), some (.ref (ad 90 0)), some (.ref (ad 91 0)), some (.int (iI (6 * n))), none, none, none] [] cl sl := by
  have hL := S.2.2.2
  have hR := hI.1
  have hV := hI.2.1
  have hZ := hI.2.2.1
  have hH := hI.2.2.2.1
  have hE := hI.2.2.2.2.1
  have hK := hI.2.2.2.2.2
  have hcap : 120 ≤ (M.1 13 1 0 0) ∧ (M.1 13 1 0 0) ≤ 61440 := by have := hK.cap.2.2.1; omega
  have hcc := hK.cc
  have hec := hE.ec
  have hn : n ≤ 511 := by omega
  have hrc := hR.rc
  have hvc := hV.vc
  have hrgc := hH.rc
  have hsc := hZ.sc
  refine g_rm (fun hM => ?_)
  refine g_aload_n X dL_law_1122 rfl rfl ?_
  refine g_arg X S dL_law_1123 dL_law_1124 dL_law_1126 dL_law_1127 dL_law_1128 rfl rfl rfl (by omega) (by omega) ?_
  refine g_aload_n X dL_law_1129 rfl rfl ?_
  refine g_invL (mc := 1) (ms := 6) X wl_L_proof ml_L_166 ⟨⟨Nat.le_of_ble_eq_true rfl, Nat.le_of_ble_eq_true rfl⟩, by show cl + 1 ≤ 601024; omega, by show sl + 6 ≤ 7293034; omega⟩ dL_law_1130 rfl (As := [.ref (ad 0 0), .int (iI (sc xs (6 * n + 1))), .ref (ad 90 0)]) (rest := []) rfl rfl (Nat.le_of_ble_eq_true rfl) (c_L_proof hN (c_X11_proof hN (sc_rng _ _) hV.vc hV.ok) (fun v ad' M' h => ⟨by rw [h.2.2.1], _, h.2.1⟩) (fun E h => by rw [h.1]; simp)) (fun v1 ad1 M1 h1 => ?_)
  have hcm : (∃ k : Int, 0 ≤ k ∧ k ≤ 3 ∧ v1 = some (.int (iI k))) ∧ (ad1 0 0 = ad 0 0 ∧ ad1 40 0 = ad 40 0 ∧ ad1 90 0 = ad 90 0 ∧ ad1 91 0 = ad 91 0) ∧ Inv n M M1 := by
    rcases h1 with ⟨x1, C1, ⟨hc, q1, q2, q3⟩, e1, eM⟩ | ⟨j, E, hj, hp, e1, e2, eM⟩
    · exact ⟨⟨0, by omega, by omega, e1⟩, by rw [q2]; exact ⟨rfl, rfl, rfl, rfl⟩, hI.ag (Ag.rf M) ((m_proof q3).1.tr (by rw [eM]; exact cM9_kMo (wrI_ag _ _)))⟩
    · have hjl : j < 1 := (List.getElem?_eq_some_iff.mp hj).1
      rw [e2, eM]
      exact ⟨⟨(j : Int) + 1, by omega, by omega, e1⟩, ⟨rfl, rfl, rfl, rfl⟩, hI⟩
  obtain ⟨⟨k, k0, k3, ev⟩, ⟨ea0, ea40, ea90, ea91⟩, hI1⟩ := hcm
  subst ev
  rw [← ea0, ← ea40, ← ea90, ← ea91]
  show G κ nm ad1 M1 1133 [some (.ref b), some (.ref (ad1 0 0)), some (.ref (ad1 40 0)), some (.ref (ad1 90 0)), some (.ref (ad1 91 0)), some (.int (iI (6 * n))), none, none, none] [.int (iI k)] _ _
  refine g_istore_6 X dL_law_1133 rfl (lt_kN hNL rfl) rfl ?_
  refine g_aload_n X dL_law_1135 rfl rfl ?_
  refine g_arg X S dL_law_1136 dL_law_1137 dL_law_1139 dL_law_1140 dL_law_1141 rfl rfl rfl (by omega) (by omega) ?_
  refine g_iV1 X w_X12_proof ml_L_168 dL_law_1142 rfl (n40 hN) (en40 _ _ _ _) ⟨⟨Nat.le_of_ble_eq_true rfl, Nat.le_of_ble_eq_true rfl⟩, by show cl + 1 + 0 ≤ 601024; omega, by show sl + 6 + 0 ≤ 7293034; omega⟩ (Nat.le_of_ble_eq_true rfl) (c_X12_proof hN hI1.2.1 (by omega) (sc_rng _ _)) (fun v2 ad2 M2 h2 => ?_)
  obtain ⟨ea2, h2⟩ := h2
  subst ea2
  have hv2 : ∃ z : Int, v2 = some (.int (iI z)) := by
    rcases h2 with ⟨-, e, -⟩ | ⟨-, e, -⟩ <;> exact ⟨_, e⟩
  obtain ⟨z, ez⟩ := hv2
  subst ez
  show G κ nm ad2 M2 1145 [some (.ref b), some (.ref (ad2 0 0)), some (.ref (ad2 40 0)), some (.ref (ad2 90 0)), some (.ref (ad2 91 0)), some (.int (iI (6 * n))), some (.int (iI k)), none, none] [.int (iI z)] _ _
  refine g_istore_7 X dL_law_1145 rfl (lt_kN hNL rfl) rfl ?_
  have F : (M2.1 40 46 0 0) = k ∧ (k = 0 → M2.2 90 0 0 0 = (iI z).toInt64) ∧ Inv (n + 1) M2 M2 ∧ (M2.1 13 1 0 0) = (M.1 13 1 0 0) := by
    rcases h1 with ⟨x1, C1, ⟨hc, q1, q2, q3⟩, e1, eM⟩ | ⟨j, E, hj, hp, e1, -, eM⟩
    · have ek : k = 0 := ik_eq ⟨by omega, by omega⟩ (by decide) e1
      rcases h2 with ⟨hw, -, -⟩ | ⟨-, e2, hP⟩
      · exfalso; revert hw; split <;> first | (intro hw; omega) | (split <;> first | (intro hw; omega) | (split <;> (intro hw; omega)))
      · have f1 : Ag (cM [90, 91] []) C1 M1 := by rw [eM]; exact wrI_ag _ _
        have Fs := s_proof hI1 f1 (by omega) hc q3 hP
        have ex := Option.some.inj q1
        refine ⟨by rw [ek]; exact Fs.2.1, fun _ => ?_, Fs.1, ?_⟩
        · rw [Fs.2.2.1, eM, ex, wrI_i, iv_eq e2]
        · rw [Fs.2.2.2.2, (m_proof q3).2]
    · have hjl : j < 1 := (List.getElem?_eq_some_iff.mp hj).1
      have ek : k = (j : Int) + 1 := ik_eq ⟨by omega, by omega⟩ ⟨by omega, by omega⟩ e1
      obtain ⟨ej, eE⟩ := es1 hj
      subst eE
      all_goals obtain ⟨he, hp⟩ := hp
      all_goals first | exact absurd he (by decide) | skip
      all_goals
        rcases h2 with ⟨hw, -, eM2⟩ | ⟨hw, -, -⟩
        · refine ⟨?_, fun hk0 => by omega, by rw [eM2, eM]; exact hI.refused, ?_⟩
          · rw [eM2, ref_46]
            split <;> first | omega | (split <;> first | omega | (split <;> omega))
          · rw [eM2, ref_cap, eM]
        · exfalso; revert hw; split <;> first | (intro hw; omega) | (split <;> first | (intro hw; omega) | (split <;> (intro hw; omega)))
  exact g_tailI X hNL hN (by show cl + 1 + 0 ≤ 601024; omega) (by show sl + 6 + 0 ≤ 7293034; omega) dL_law_1147 dL_law_1148 dL_law_1151 dL_law_1153 dL_law_1158 dL_law_1160 dL_law_1163 dL_law_1164 dL_law_1165 dL_law_1166 dL_law_1168 dL_law_1169 dL_law_1170 dL_law_1175 (by decide) ⟨by omega, by omega⟩ F.1 F.2.1 (hk ad2 M2 _ _ F.2.2.1 (by show cl + 1 + 0 ≤ _; omega) (by rw [F.2.2.2]; show sl + 6 + 0 ≤ _; omega))
set_option maxRecDepth 100000 in
set_option maxHeartbeats 4000000 in
theorem k_speed {κ : Kx} {nm : List (Nat × Int)} {ad : Ad} {M : Mem} {b L : Nat} {xs : Nat → Int32} {n : Int} {cl sl : Nat} (X : Cx κ cL_law RL room_1) (hNL : kN κ = 9) (S : Scr κ b L xs) (hN : NmOk nm) (hm : NmM nm) (hI : Inv n M M) (n0 : 0 ≤ n) (n1 : 6 * n + 6 ≤ (L : Int)) (hcl : cl ≤ 2000 + 8 * n.toNat) (hsl : sl ≤ 900000 + 32 * n.toNat + 6 * ((M.1 13 1 0 0)).toNat) (hk : Goon κ nm b n) : G κ nm ad M 1178 [some (.ref b), some (.ref (ad 0 0)), some (.ref (ad 40 0)), some (.ref (ad 90 0)), some (.ref (ad 91 0)), some (.int (iI (6 * n))), none, none, none] [] cl sl := by
  have hL := S.2.2.2
  have hR := hI.1
  have hV := hI.2.1
  have hZ := hI.2.2.1
  have hH := hI.2.2.2.1
  have hE := hI.2.2.2.2.1
  have hK := hI.2.2.2.2.2
  have hcap : 120 ≤ (M.1 13 1 0 0) ∧ (M.1 13 1 0 0) ≤ 61440 := by have := hK.cap.2.2.1; omega
  have hcc := hK.cc
  have hec := hE.ec
  have hn : n ≤ 511 := by omega
  have hrc := hR.rc
  have hvc := hV.vc
  have hrgc := hH.rc
  have hsc := hZ.sc
  refine g_rm (fun hM => ?_)
  refine g_aload_n X dL_law_1178 rfl rfl ?_
  refine g_arg X S dL_law_1179 dL_law_1180 dL_law_1182 dL_law_1183 dL_law_1184 rfl rfl rfl (by omega) (by omega) ?_
  refine g_arg X S dL_law_1185 dL_law_1186 dL_law_1188 dL_law_1189 dL_law_1190 rfl rfl rfl (by omega) (by omega) ?_
  refine g_arg X S dL_law_1191 dL_law_1192 dL_law_1194 dL_law_1195 dL_law_1196 rfl rfl rfl (by omega) (by omega) ?_
  refine g_aload_n X dL_law_1197 rfl rfl ?_
  refine g_invL (mc := 3) (ms := 18) X wl_L_speed ml_L_169 ⟨⟨Nat.le_of_ble_eq_true rfl, Nat.le_of_ble_eq_true rfl⟩, by show cl + 3 ≤ 601024; omega, by show sl + 18 ≤ 7293034; omega⟩ dL_law_1198 rfl (As := [.ref (ad 0 0), .int (iI (sc xs (6 * n + 1))), .int (iI (sc xs (6 * n + 2))), .int (iI (sc xs (6 * n + 3))), .ref (ad 90 0)]) (rest := []) rfl rfl (Nat.le_of_ble_eq_true rfl) (c_L_speed hN (c_X11_speed hN (sc_rng _ _) (sc_rng _ _) (sc_rng _ _) hV.vc hV.ok) (fun v ad' M' h => ⟨by rw [h.2.2.1], _, h.2.1⟩) (fun E h => by rcases h with h | h | h <;> rw [h.1] <;> simp)) (fun v1 ad1 M1 h1 => ?_)
  have hcm : (∃ k : Int, 0 ≤ k ∧ k ≤ 3 ∧ v1 = some (.int (iI k))) ∧ (ad1 0 0 = ad 0 0 ∧ ad1 40 0 = ad 40 0 ∧ ad1 90 0 = ad 90 0 ∧ ad1 91 0 = ad 91 0) ∧ Inv n M M1 := by
    rcases h1 with ⟨x1, C1, ⟨hc, q1, q2, q3⟩, e1, eM⟩ | ⟨j, E, hj, hp, e1, e2, eM⟩
    · exact ⟨⟨0, by omega, by omega, e1⟩, by rw [q2]; exact ⟨rfl, rfl, rfl, rfl⟩, hI.ag (Ag.rf M) ((m_speed q3).1.tr (by rw [eM]; exact cM9_kMo (wrI_ag _ _)))⟩
    · have hjl : j < 2 := (List.getElem?_eq_some_iff.mp hj).1
      rw [e2, eM]
      exact ⟨⟨(j : Int) + 1, by omega, by omega, e1⟩, ⟨rfl, rfl, rfl, rfl⟩, hI⟩
  obtain ⟨⟨k, k0, k3, ev⟩, ⟨ea0, ea40, ea90, ea91⟩, hI1⟩ := hcm
  subst ev
  rw [← ea0, ← ea40, ← ea90, ← ea91]
  show G κ nm ad1 M1 1201 [some (.ref b), some (.ref (ad1 0 0)), some (.ref (ad1 40 0)), some (.ref (ad1 90 0)), some (.ref (ad1 91 0)), some (.int (iI (6 * n))), none, none, none] [.int (iI k)] _ _
  refine g_istore_6 X dL_law_1201 rfl (lt_kN hNL rfl) rfl ?_
  refine g_aload_n X dL_law_1203 rfl rfl ?_
  refine g_arg X S dL_law_1204 dL_law_1205 dL_law_1207 dL_law_1208 dL_law_1209 rfl rfl rfl (by omega) (by omega) ?_
  refine g_arg X S dL_law_1210 dL_law_1211 dL_law_1213 dL_law_1214 dL_law_1215 rfl rfl rfl (by omega) (by omega) ?_
  refine g_arg X S dL_law_1216 dL_law_1217 dL_law_1219 dL_law_1220 dL_law_1221 rfl rfl rfl (by omega) (by omega) ?_
  refine g_iV3 X w_X12_speed ml_L_171 dL_law_1222 rfl (n40 hN) (en40 _ _ _ _) ⟨⟨Nat.le_of_ble_eq_true rfl, Nat.le_of_ble_eq_true rfl⟩, by show cl + 3 + 0 ≤ 601024; omega, by show sl + 18 + 0 ≤ 7293034; omega⟩ (Nat.le_of_ble_eq_true rfl) (c_X12_speed hN hI1.2.1 (sc_rng _ _) (sc_rng _ _) (sc_rng _ _)) (fun v2 ad2 M2 h2 => ?_)
  obtain ⟨ea2, h2⟩ := h2
  subst ea2
  have hv2 : ∃ z : Int, v2 = some (.int (iI z)) := by
    rcases h2 with ⟨-, e, -⟩ | ⟨-, e, -⟩ <;> exact ⟨_, e⟩
  obtain ⟨z, ez⟩ := hv2
  subst ez
  show G κ nm ad2 M2 1225 [some (.ref b), some (.ref (ad2 0 0)), some (.ref (ad2 40 0)), some (.ref (ad2 90 0)), some (.ref (ad2 91 0)), some (.int (iI (6 * n))), some (.int (iI k)), none, none] [.int (iI z)] _ _
  refine g_istore_7 X dL_law_1225 rfl (lt_kN hNL rfl) rfl ?_
  have F : (M2.1 40 46 0 0) = k ∧ (k = 0 → M2.2 90 0 0 0 = (iI z).toInt64) ∧ Inv (n + 1) M2 M2 ∧ (M2.1 13 1 0 0) = (M.1 13 1 0 0) := by
    rcases h1 with ⟨x1, C1, ⟨hc, q1, q2, q3⟩, e1, eM⟩ | ⟨j, E, hj, hp, e1, -, eM⟩
    · have ek : k = 0 := ik_eq ⟨by omega, by omega⟩ (by decide) e1
      rcases h2 with ⟨hw, -, -⟩ | ⟨-, e2, hP⟩
      · exfalso; revert hw; split <;> first | (intro hw; omega) | (split <;> first | (intro hw; omega) | (split <;> (intro hw; omega)))
      · have f1 : Ag (cM [90, 91] []) C1 M1 := by rw [eM]; exact wrI_ag _ _
        have Fs := s_speed hI1 f1 hc.1 hc.2.1 hc.2.2 q3 hP
        have ex := Option.some.inj q1
        refine ⟨by rw [ek]; exact Fs.2.1, fun _ => ?_, Fs.1, ?_⟩
        · rw [Fs.2.2.1, eM, ex, wrI_i, iv_eq e2]
        · rw [Fs.2.2.2.2, (m_speed q3).2]
    · have hjl : j < 2 := (List.getElem?_eq_some_iff.mp hj).1
      have ek : k = (j : Int) + 1 := ik_eq ⟨by omega, by omega⟩ ⟨by omega, by omega⟩ e1
      rcases es2 hj with ⟨ej, eE⟩ | ⟨ej, eE⟩ <;> subst eE
      all_goals rcases hp with ⟨he, hp⟩ | ⟨he, hp⟩ | ⟨he, hp⟩
      all_goals first | exact absurd he (by decide) | skip
      all_goals
        rcases h2 with ⟨hw, -, eM2⟩ | ⟨hw, -, -⟩
        · refine ⟨?_, fun hk0 => by omega, by rw [eM2, eM]; exact hI.refused, ?_⟩
          · rw [eM2, ref_46]
            split <;> first | omega | (split <;> first | omega | (split <;> omega))
          · rw [eM2, ref_cap, eM]
        · exfalso; revert hw; split <;> first | (intro hw; omega) | (split <;> first | (intro hw; omega) | (split <;> (intro hw; omega)))
  exact g_tailI X hNL hN (by show cl + 3 + 0 ≤ 601024; omega) (by show sl + 18 + 0 ≤ 7293034; omega) dL_law_1227 dL_law_1228 dL_law_1231 dL_law_1233 dL_law_1238 dL_law_1240 dL_law_1243 dL_law_1244 dL_law_1245 dL_law_1246 dL_law_1248 dL_law_1249 dL_law_1250 dL_law_1255 (by decide) ⟨by omega, by omega⟩ F.1 F.2.1 (hk ad2 M2 _ _ F.2.2.1 (by show cl + 3 + 0 ≤ _; omega) (by rw [F.2.2.2]; show sl + 18 + 0 ≤ _; omega))
set_option maxRecDepth 100000 in
set_option maxHeartbeats 4000000 in
theorem k_ofVersion {κ : Kx} {nm : List (Nat × Int)} {ad : Ad} {M : Mem} {b L : Nat} {xs : Nat → Int32} {n : Int} {cl sl : Nat} (X : Cx κ cL_law RL room_1) (hNL : kN κ = 9) (S : Scr κ b L xs) (hN : NmOk nm) (hm : NmM nm) (hI : Inv n M M) (n0 : 0 ≤ n) (n1 : 6 * n + 6 ≤ (L : Int)) (hcl : cl ≤ 2000 + 8 * n.toNat) (hsl : sl ≤ 900000 + 32 * n.toNat + 6 * ((M.1 13 1 0 0)).toNat) (hk : Goon κ nm b n) : G κ nm ad M 1258 [some (.ref b), some (.ref (ad 0 0)), some (.ref (ad 40 0)), some (.ref (ad 90 0)), some (.ref (ad 91 0)), some (.int (iI (6 * n))), none, none, none] [] cl sl := by
  have hL := S.2.2.2
  have hR := hI.1
  have hV := hI.2.1
  have hZ := hI.2.2.1
  have hH := hI.2.2.2.1
  have hE := hI.2.2.2.2.1
  have hK := hI.2.2.2.2.2
  have hcap : 120 ≤ (M.1 13 1 0 0) ∧ (M.1 13 1 0 0) ≤ 61440 := by have := hK.cap.2.2.1; omega
  have hcc := hK.cc
  have hec := hE.ec
  have hn : n ≤ 511 := by omega
  have hrc := hR.rc
  have hvc := hV.vc
  have hrgc := hH.rc
  have hsc := hZ.sc
  refine g_rm (fun hM => ?_)
  refine g_aload_n X dL_law_1258 rfl rfl ?_
  refine g_arg X S dL_law_1259 dL_law_1260 dL_law_1262 dL_law_1263 dL_law_1264 rfl rfl rfl (by omega) (by omega) ?_
  refine g_arg X S dL_law_1265 dL_law_1266 dL_law_1268 dL_law_1269 dL_law_1270 rfl rfl rfl (by omega) (by omega) ?_
  refine g_aload_n X dL_law_1271 rfl rfl ?_
  refine g_invL (mc := 2) (ms := 12) X wl_L_ofVersion ml_L_172 ⟨⟨Nat.le_of_ble_eq_true rfl, Nat.le_of_ble_eq_true rfl⟩, by show cl + 2 ≤ 601024; omega, by show sl + 12 ≤ 7293034; omega⟩ dL_law_1272 rfl (As := [.ref (ad 0 0), .int (iI (sc xs (6 * n + 1))), .int (iI (sc xs (6 * n + 2))), .ref (ad 90 0)]) (rest := []) rfl rfl (Nat.le_of_ble_eq_true rfl) (c_L_ofVersion hN (c_X11_ofVersion hN (sc_rng _ _) (sc_rng _ _) hR.rc hV.vc hV.ok) (fun v ad' M' h => ⟨by rw [h.2.2.1], _, h.2.1⟩) (fun E h => by rcases h with h | h <;> rw [h.1] <;> simp)) (fun v1 ad1 M1 h1 => ?_)
  have hcm : (∃ k : Int, 0 ≤ k ∧ k ≤ 3 ∧ v1 = some (.int (iI k))) ∧ (ad1 0 0 = ad 0 0 ∧ ad1 40 0 = ad 40 0 ∧ ad1 90 0 = ad 90 0 ∧ ad1 91 0 = ad 91 0) ∧ Inv n M M1 := by
    rcases h1 with ⟨x1, C1, ⟨hc, q1, q2, q3⟩, e1, eM⟩ | ⟨j, E, hj, hp, e1, e2, eM⟩
    · exact ⟨⟨0, by omega, by omega, e1⟩, by rw [q2]; exact ⟨rfl, rfl, rfl, rfl⟩, hI.ag (Ag.rf M) ((m_none q3).1.tr (by rw [eM]; exact cM9_kMo (wrI_ag _ _)))⟩
    · have hjl : j < 2 := (List.getElem?_eq_some_iff.mp hj).1
      rw [e2, eM]
      exact ⟨⟨(j : Int) + 1, by omega, by omega, e1⟩, ⟨rfl, rfl, rfl, rfl⟩, hI⟩
  obtain ⟨⟨k, k0, k3, ev⟩, ⟨ea0, ea40, ea90, ea91⟩, hI1⟩ := hcm
  subst ev
  rw [← ea0, ← ea40, ← ea90, ← ea91]
  show G κ nm ad1 M1 1275 [some (.ref b), some (.ref (ad1 0 0)), some (.ref (ad1 40 0)), some (.ref (ad1 90 0)), some (.ref (ad1 91 0)), some (.int (iI (6 * n))), none, none, none] [.int (iI k)] _ _
  refine g_istore_6 X dL_law_1275 rfl (lt_kN hNL rfl) rfl ?_
  refine g_aload_n X dL_law_1277 rfl rfl ?_
  refine g_arg X S dL_law_1278 dL_law_1279 dL_law_1281 dL_law_1282 dL_law_1283 rfl rfl rfl (by omega) (by omega) ?_
  refine g_arg X S dL_law_1284 dL_law_1285 dL_law_1287 dL_law_1288 dL_law_1289 rfl rfl rfl (by omega) (by omega) ?_
  refine g_iV2 X w_X12_ofVersion ml_L_174 dL_law_1290 rfl (n40 hN) (en40 _ _ _ _) ⟨⟨Nat.le_of_ble_eq_true rfl, Nat.le_of_ble_eq_true rfl⟩, by show cl + 2 + 0 ≤ 601024; omega, by show sl + 12 + 0 ≤ 7293034; omega⟩ (Nat.le_of_ble_eq_true rfl) (c_X12_ofVersion hN hI1.1 hI1.2.1 (sc_rng _ _) (sc_rng _ _)) (fun v2 ad2 M2 h2 => ?_)
  obtain ⟨ea2, h2⟩ := h2
  subst ea2
  have hv2 : ∃ z : Int, v2 = some (.int (iI z)) := by
    rcases h2 with ⟨-, e, -⟩ | ⟨-, e, -⟩ <;> exact ⟨_, e⟩
  obtain ⟨z, ez⟩ := hv2
  subst ez
  show G κ nm ad2 M2 1293 [some (.ref b), some (.ref (ad2 0 0)), some (.ref (ad2 40 0)), some (.ref (ad2 90 0)), some (.ref (ad2 91 0)), some (.int (iI (6 * n))), some (.int (iI k)), none, none] [.int (iI z)] _ _
  refine g_istore_7 X dL_law_1293 rfl (lt_kN hNL rfl) rfl ?_
  have F : (M2.1 40 46 0 0) = k ∧ (k = 0 → M2.2 90 0 0 0 = (iI z).toInt64) ∧ Inv (n + 1) M2 M2 ∧ (M2.1 13 1 0 0) = (M.1 13 1 0 0) := by
    rcases h1 with ⟨x1, C1, ⟨hc, q1, q2, q3⟩, e1, eM⟩ | ⟨j, E, hj, hp, e1, -, eM⟩
    · have ek : k = 0 := ik_eq ⟨by omega, by omega⟩ (by decide) e1
      rcases h2 with ⟨hw, -, -⟩ | ⟨-, e2, hP⟩
      · exfalso; revert hw; split <;> first | (intro hw; omega) | (split <;> first | (intro hw; omega) | (split <;> (intro hw; omega)))
      · have f1 : Ag (cM [90, 91] []) C1 M1 := by rw [eM]; exact wrI_ag _ _
        have Fs := s_none hI1 f1 q3 hP
        have ex := Option.some.inj q1
        refine ⟨by rw [ek]; exact Fs.2.1, fun _ => ?_, Fs.1, ?_⟩
        · rw [Fs.2.2.1, eM, ex, wrI_i, iv_eq e2]
        · rw [Fs.2.2.2.2, (m_none q3).2]
    · have hjl : j < 2 := (List.getElem?_eq_some_iff.mp hj).1
      have ek : k = (j : Int) + 1 := ik_eq ⟨by omega, by omega⟩ ⟨by omega, by omega⟩ e1
      rcases es2 hj with ⟨ej, eE⟩ | ⟨ej, eE⟩ <;> subst eE
      all_goals rcases hp with ⟨he, hp⟩ | ⟨he, hp⟩
      all_goals first | exact absurd he (by decide) | skip
      all_goals
        rcases h2 with ⟨hw, -, eM2⟩ | ⟨hw, -, -⟩
        · refine ⟨?_, fun hk0 => by omega, by rw [eM2, eM]; exact hI.refused, ?_⟩
          · rw [eM2, ref_46]
            split <;> first | omega | (split <;> first | omega | (split <;> omega))
          · rw [eM2, ref_cap, eM]
        · exfalso; revert hw; split <;> first | (intro hw; omega) | (split <;> first | (intro hw; omega) | (split <;> (intro hw; omega)))
  exact g_tailI X hNL hN (by show cl + 2 + 0 ≤ 601024; omega) (by show sl + 12 + 0 ≤ 7293034; omega) dL_law_1295 dL_law_1296 dL_law_1299 dL_law_1301 dL_law_1306 dL_law_1308 dL_law_1311 dL_law_1312 dL_law_1313 dL_law_1314 dL_law_1316 dL_law_1317 dL_law_1318 dL_law_1323 (by decide) ⟨by omega, by omega⟩ F.1 F.2.1 (hk ad2 M2 _ _ F.2.2.1 (by show cl + 2 + 0 ≤ _; omega) (by rw [F.2.2.2]; show sl + 12 + 0 ≤ _; omega))
