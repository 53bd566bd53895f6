set_option maxRecDepth 100000 in
set_option maxHeartbeats 4000000 in
theorem k_flicker {κ : Kx} {nm : List (Nat × Int)} {ad : Ad} {M : Mem} {b L : Nat} {xs : Nat → Int32} {n : Int} {cl sl : Nat} (X : Cx κ cL_law RL room_1) (hNL : kN κ = 9) (S : Scr κ b L xs) (hN : NmOk nm) (hm : NmM nm) (hI : Inv n M M) (n0 : 0 ≤ n) (n1 : 6 * n + 6 ≤ (L : Int)) (hcl : cl ≤ 2000 + 8 * n.toNat) (hsl : sl ≤ 900000 + 32 * n.toNat + 6 * ((M.1 13 1 0 0)).toNat) (hk : Goon κ nm b n) : G κ nm ad M 2107 [some (.ref b), some (.ref (ad 0 0)), some (.ref (ad 40 0)), some (.ref (ad 90 0)), some (.ref (ad 91 0)), some (.int (iI (6 * n))), none, none, none] [] cl sl := by
  have hL := S.2.2.2
  have hR := hI.1
  have hV := hI.2.1
  have hZ := hI.2.2.1
  have hH := hI.2.2.2.1
  have hE := hI.2.2.2.2.1
  have hK := hI.2.2.2.2.2
  have hcap : 120 ≤ (M.1 13 1 0 0) ∧ (M.1 13 1 0 0) ≤ 61440 := by have := hK.cap.2.2.1; omega
  have hcc := hK.cc
  have hec := hE.ec
  have hn : n ≤ 511 := by omega
  have hrc := hR.rc
  have hvc := hV.vc
  have hrgc := hH.rc
  have hsc := hZ.sc
  have hhi : 1 ≤ hiN M ∧ (hiN M ≤ (M.1 10 0 0 0) ∨ hiN M ≤ 1) := by unfold hiN; split <;> omega
  have sb := sm_b1 (f := dI (decN M (fun a h b => mfF (flk a h b) h 8))) (lo := 1) (hi := hiN M) hhi.1 (fun _ _ _ => bI_b _)
  obtain ⟨ms, hms⟩ := MsOk.ex (b := 0) (cap := (M.1 13 1 0 0)) (by decide) (by omega) ((M.1 13 1 0 0) < (M.1 12 0 0 0) + sm (dI (decN M (fun a h b => mfF (flk a h b) h 8))) 1 (hiN M))
  have hmsb := hms.le (by omega)
  refine g_aload_n X dL_law_2107 rfl rfl ?_
  refine g_iV0 (mc := 4) (ms := ms) X w_X11_flicker ml_L_206 dL_law_2108 rfl (hN 0 0 (by decide) (by decide)) (en0 _ _ _ _) ⟨⟨Nat.le_of_ble_eq_true rfl, Nat.le_of_ble_eq_true rfl⟩, by show cl + 4 ≤ 601024; omega, by show sl + ms ≤ 7293034; omega⟩ (Nat.le_of_ble_eq_true rfl) (c_X11_flicker hN hm hE.ec hK.cap (by omega) (fun k a b => by have := hK.nb k a b; omega) (by omega) (fun g => ⟨by omega, by have := hms.1 g; omega⟩)) (fun v1 ad1 M1 h1 => ?_)
  obtain ⟨e1, q2, q3⟩ := h1
  subst e1
  have hI1 : Inv n M M1 := hI.ag (Ag.rf M) (m_mend (Ag.rf M) q3).1
  rw [← q2 0 0 (by decide) (by decide) (by decide) (by decide) (by decide), ← q2 40 0 (by decide) (by decide) (by decide) (by decide) (by decide), ← q2 90 0 (by decide) (by decide) (by decide) (by decide) (by decide), ← q2 91 0 (by decide) (by decide) (by decide) (by decide) (by decide)]
  show G κ nm ad1 M1 2111 [some (.ref b), some (.ref (ad1 0 0)), some (.ref (ad1 40 0)), some (.ref (ad1 90 0)), some (.ref (ad1 91 0)), some (.int (iI (6 * n))), none, none, none] [.int (iI (sm (dI (decN M (fun a h b => mfF (flk a h b) h 8))) 1 (hiN M)))] _ _
  refine g_aload_n X dL_law_2111 rfl rfl ?_
  refine g_iV0 X w_X12_flicker ml_L_209 dL_law_2112 rfl (n40 hN) (en40 _ _ _ _) ⟨⟨Nat.le_of_ble_eq_true rfl, Nat.le_of_ble_eq_true rfl⟩, by show cl + 4 + 0 ≤ 601024; omega, by show sl + ms + 0 ≤ 7293034; omega⟩ (Nat.le_of_ble_eq_true rfl) (c_X12_flicker hN hI1.2.2.2.2.1 hI1.2.2.2.2.2 ⟨n0, by omega⟩) (fun v2 ad2 M2 h2 => ?_)
  obtain ⟨ea2, h2⟩ := h2
  subst ea2
  rcases h2 with ⟨hw, -, -⟩ | ⟨-, e2, hP⟩
  · exact absurd hw (by decide)
  subst e2
  have Fs := s_mend hI1 (Ag.rf M1) (Ag.rf M) (by decide) (Or.inl hhi.1) hhi.2 hE.ec.1 (Int.le_refl _) q3 hP
  have g1 := (m_mend (Ag.rf M) q3).2
  show G κ nm ad2 M2 2115 [some (.ref b), some (.ref (ad2 0 0)), some (.ref (ad2 40 0)), some (.ref (ad2 90 0)), some (.ref (ad2 91 0)), some (.int (iI (6 * n))), none, none, none] [.int (iI (sm (dI (decN M (fun a h b => mfF (flk a h b) h 8))) 1 (hiN M))), .int (iI (sm (dI (decN M (fun a h b => mfF (flk a h b) h 8))) 1 (hiN M)))] _ _
  refine g_icmp_eq (tgt := 2397) X dL_law_2115 rfl rfl ⟨by omega, by omega⟩ ⟨by omega, by omega⟩ (fun _ => ?_) (fun h => absurd rfl h)
  refine hk ad2 M2 _ _ Fs.1 (by show cl + 4 + 0 ≤ _; omega) ?_
  rw [Fs.2.2.2.2]
  show sl + ms + 0 ≤ _
  by_cases g : (M.1 13 1 0 0) < (M.1 12 0 0 0) + sm (dI (decN M (fun a h b => mfF (flk a h b) h 8))) 1 (hiN M)
  · have e3 := g1.2 g
    have e4 := hms.1 g
    omega
  · have e3 := g1.1 (by omega)
    have e4 := hms.2 g
    omega
set_option maxRecDepth 100000 in
set_option maxHeartbeats 4000000 in
theorem k_takeBack {κ : Kx} {nm : List (Nat × Int)} {ad : Ad} {M : Mem} {b L : Nat} {xs : Nat → Int32} {n : Int} {cl sl : Nat} (X : Cx κ cL_law RL room_1) (hNL : kN κ = 9) (S : Scr κ b L xs) (hN : NmOk nm) (hm : NmM nm) (hI : Inv n M M) (n0 : 0 ≤ n) (n1 : 6 * n + 6 ≤ (L : Int)) (hcl : cl ≤ 2000 + 8 * n.toNat) (hsl : sl ≤ 900000 + 32 * n.toNat + 6 * ((M.1 13 1 0 0)).toNat) (hk : Goon κ nm b n) : G κ nm ad M 2120 [some (.ref b), some (.ref (ad 0 0)), some (.ref (ad 40 0)), some (.ref (ad 90 0)), some (.ref (ad 91 0)), some (.int (iI (6 * n))), none, none, none] [] cl sl := by
  have hL := S.2.2.2
  have hR := hI.1
  have hV := hI.2.1
  have hZ := hI.2.2.1
  have hH := hI.2.2.2.1
  have hE := hI.2.2.2.2.1
  have hK := hI.2.2.2.2.2
  have hcap : 120 ≤ (M.1 13 1 0 0) ∧ (M.1 13 1 0 0) ≤ 61440 := by have := hK.cap.2.2.1; omega
  have hcc := hK.cc
  have hec := hE.ec
  have hn : n ≤ 511 := by omega
  have hrc := hR.rc
  have hvc := hV.vc
  have hrgc := hH.rc
  have hsc := hZ.sc
  refine g_rm (fun hM => ?_)
  refine g_aload_n X dL_law_2120 rfl rfl ?_
  refine g_arg X S dL_law_2121 dL_law_2122 dL_law_2124 dL_law_2125 dL_law_2126 rfl rfl rfl (by omega) (by omega) ?_
  refine g_aload_n X dL_law_2127 rfl rfl ?_
  refine g_invL (mc := 2) (ms := 12) X wl_L_takeBack ml_L_210 ⟨⟨Nat.le_of_ble_eq_true rfl, Nat.le_of_ble_eq_true rfl⟩, by show cl + 2 ≤ 601024; omega, by show sl + 12 ≤ 7293034; omega⟩ dL_law_2128 rfl (As := [.ref (ad 0 0), .int (iI (sc xs (6 * n + 1))), .ref (ad 90 0)]) (rest := []) rfl rfl (Nat.le_of_ble_eq_true rfl) (c_L_takeBack hN (c_X11_takeBack hN (sc_rng _ _) hK.cap (by omega) (fun j a b => by have := hK.mj j a b; omega) (fun k a b => by have := hK.nb k a b; omega)) (fun v ad' M' h => ⟨by rw [h.2.2.1], _, h.2.1⟩) (fun E h => by rcases h with h | h <;> rw [h.1] <;> simp)) (fun v1 ad1 M1 h1 => ?_)
  have hcm : (∃ k : Int, 0 ≤ k ∧ k ≤ 3 ∧ v1 = some (.int (iI k))) ∧ (ad1 0 0 = ad 0 0 ∧ ad1 40 0 = ad 40 0 ∧ ad1 90 0 = ad 90 0 ∧ ad1 91 0 = ad 91 0) ∧ Inv n M M1 := by
    rcases h1 with ⟨x1, C1, ⟨hc, q1, q2, q3⟩, e1, eM⟩ | ⟨j, E, hj, hp, e1, e2, eM⟩
    · exact ⟨⟨0, by omega, by omega, e1⟩, by rw [q2]; exact ⟨rfl, rfl, rfl, rfl⟩, hI.ag (Ag.rf M) ((m_takeBack q3).1.tr (by rw [eM]; exact cM9_kMo (wrI_ag _ _)))⟩
    · have hjl : j < 2 := (List.getElem?_eq_some_iff.mp hj).1
      rw [e2, eM]
      exact ⟨⟨(j : Int) + 1, by omega, by omega, e1⟩, ⟨rfl, rfl, rfl, rfl⟩, hI⟩
  obtain ⟨⟨k, k0, k3, ev⟩, ⟨ea0, ea40, ea90, ea91⟩, hI1⟩ := hcm
  subst ev
  rw [← ea0, ← ea40, ← ea90, ← ea91]
  show G κ nm ad1 M1 2131 [some (.ref b), some (.ref (ad1 0 0)), some (.ref (ad1 40 0)), some (.ref (ad1 90 0)), some (.ref (ad1 91 0)), some (.int (iI (6 * n))), none, none, none] [.int (iI k)] _ _
  refine g_istore_6 X dL_law_2131 rfl (lt_kN hNL rfl) rfl ?_
  refine g_aload_n X dL_law_2133 rfl rfl ?_
  refine g_arg X S dL_law_2134 dL_law_2135 dL_law_2137 dL_law_2138 dL_law_2139 rfl rfl rfl (by omega) (by omega) ?_
  refine g_iV1 X w_X12_takeBack ml_L_212 dL_law_2140 rfl (n40 hN) (en40 _ _ _ _) ⟨⟨Nat.le_of_ble_eq_true rfl, Nat.le_of_ble_eq_true rfl⟩, by show cl + 2 + 0 ≤ 601024; omega, by show sl + 12 + 0 ≤ 7293034; omega⟩ (Nat.le_of_ble_eq_true rfl) (c_X12_takeBack hN hI1.2.2.2.2.1 hI1.2.2.2.2.2 ⟨n0, by omega⟩ (sc_rng _ _)) (fun v2 ad2 M2 h2 => ?_)
  obtain ⟨ea2, h2⟩ := h2
  subst ea2
  have hv2 : ∃ z : Int, v2 = some (.int (iI z)) := by
    rcases h2 with ⟨-, e, -⟩ | ⟨-, e, -⟩ <;> exact ⟨_, e⟩
  obtain ⟨z, ez⟩ := hv2
  subst ez
  show G κ nm ad2 M2 2143 [some (.ref b), some (.ref (ad2 0 0)), some (.ref (ad2 40 0)), some (.ref (ad2 90 0)), some (.ref (ad2 91 0)), some (.int (iI (6 * n))), some (.int (iI k)), none, none] [.int (iI z)] _ _
  refine g_istore_7 X dL_law_2143 rfl (lt_kN hNL rfl) rfl ?_
  have F : (M2.1 40 46 0 0) = k ∧ (k = 0 → M2.2 90 0 0 0 = (iI z).toInt64) ∧ Inv (n + 1) M2 M2 ∧ (M2.1 13 1 0 0) = (M.1 13 1 0 0) := by
    rcases h1 with ⟨x1, C1, ⟨hc, q1, q2, q3⟩, e1, eM⟩ | ⟨j, E, hj, hp, e1, -, eM⟩
    · have ek : k = 0 := ik_eq ⟨by omega, by omega⟩ (by decide) e1
      rcases h2 with ⟨hw, -, -⟩ | ⟨-, e2, hP⟩
      · exfalso; revert hw; split <;> first | (intro hw; omega) | (split <;> first | (intro hw; omega) | (split <;> (intro hw; omega)))
      · have f1 : Ag (cM [90, 91] []) C1 M1 := by rw [eM]; exact wrI_ag _ _
        have Fs := s_takeBack hI1 f1 n0 hc.1 hc.2 q3 hP
        have ex := Option.some.inj q1
        refine ⟨by rw [ek]; exact Fs.2.1, fun _ => ?_, Fs.1, ?_⟩
        · rw [Fs.2.2.1, eM, ex, wrI_i, iv_eq e2]
        · rw [Fs.2.2.2.2, (m_takeBack q3).2]
    · have hjl : j < 2 := (List.getElem?_eq_some_iff.mp hj).1
      have ek : k = (j : Int) + 1 := ik_eq ⟨by omega, by omega⟩ ⟨by omega, by omega⟩ e1
      rcases es2 hj with ⟨ej, eE⟩ | ⟨ej, eE⟩ <;> subst eE
      all_goals rcases hp with ⟨he, hp⟩ | ⟨he, hp⟩
      all_goals first | exact absurd he (by decide) | skip
      all_goals
        rcases h2 with ⟨hw, -, eM2⟩ | ⟨hw, -, -⟩
        · refine ⟨?_, fun hk0 => by omega, by rw [eM2, eM]; exact hI.refused, ?_⟩
          · rw [eM2, ref_46]
            split <;> first | omega | (split <;> first | omega | (split <;> omega))
          · rw [eM2, ref_cap, eM]
        · exfalso; revert hw; split <;> first | (intro hw; omega) | (split <;> first | (intro hw; omega) | (split <;> (intro hw; omega)))
  exact g_tailI X hNL hN (by show cl + 2 + 0 ≤ 601024; omega) (by show sl + 12 + 0 ≤ 7293034; omega) dL_law_2145 dL_law_2146 dL_law_2149 dL_law_2151 dL_law_2156 dL_law_2158 dL_law_2161 dL_law_2162 dL_law_2163 dL_law_2164 dL_law_2166 dL_law_2167 dL_law_2168 dL_law_2173 (by decide) ⟨by omega, by omega⟩ F.1 F.2.1 (hk ad2 M2 _ _ F.2.2.1 (by show cl + 2 + 0 ≤ _; omega) (by rw [F.2.2.2]; show sl + 12 + 0 ≤ _; omega))
set_option maxRecDepth 100000 in
set_option maxHeartbeats 4000000 in
theorem k_ofFrame {κ : Kx} {nm : List (Nat × Int)} {ad : Ad} {M : Mem} {b L : Nat} {xs : Nat → Int32} {n : Int} {cl sl : Nat} (X : Cx κ cL_law RL room_1) (hNL : kN κ = 9) (S : Scr κ b L xs) (hN : NmOk nm) (hm : NmM nm) (hI : Inv n M M) (n0 : 0 ≤ n) (n1 : 6 * n + 6 ≤ (L : Int)) (hcl : cl ≤ 2000 + 8 * n.toNat) (hsl : sl ≤ 900000 + 32 * n.toNat + 6 * ((M.1 13 1 0 0)).toNat) (hk : Goon κ nm b n) : G κ nm ad M 2176 [some (.ref b), some (.ref (ad 0 0)), some (.ref (ad 40 0)), some (.ref (ad 90 0)), some (.ref (ad 91 0)), some (.int (iI (6 * n))), none, none, none] [] cl sl := by
  have hL := S.2.2.2
  have hR := hI.1
  have hV := hI.2.1
  have hZ := hI.2.2.1
  have hH := hI.2.2.2.1
  have hE := hI.2.2.2.2.1
  have hK := hI.2.2.2.2.2
  have hcap : 120 ≤ (M.1 13 1 0 0) ∧ (M.1 13 1 0 0) ≤ 61440 := by have := hK.cap.2.2.1; omega
  have hcc := hK.cc
  have hec := hE.ec
  have hn : n ≤ 511 := by omega
  have hrc := hR.rc
  have hvc := hV.vc
  have hrgc := hH.rc
  have hsc := hZ.sc
  refine g_rm (fun hM => ?_)
  refine g_aload_n X dL_law_2176 rfl rfl ?_
  refine g_arg X S dL_law_2177 dL_law_2178 dL_law_2180 dL_law_2181 dL_law_2182 rfl rfl rfl (by omega) (by omega) ?_
  refine g_arg X S dL_law_2183 dL_law_2184 dL_law_2186 dL_law_2187 dL_law_2188 rfl rfl rfl (by omega) (by omega) ?_
  refine g_aload_n X dL_law_2189 rfl rfl ?_
  refine g_invL (mc := 2) (ms := 12) X wl_L_ofFrame ml_L_213 ⟨⟨Nat.le_of_ble_eq_true rfl, Nat.le_of_ble_eq_true rfl⟩, by show cl + 2 ≤ 601024; omega, by show sl + 12 ≤ 7293034; omega⟩ dL_law_2190 rfl (As := [.ref (ad 0 0), .int (iI (sc xs (6 * n + 1))), .int (iI (sc xs (6 * n + 2))), .ref (ad 90 0)]) (rest := []) rfl rfl (Nat.le_of_ble_eq_true rfl) (c_L_ofFrame hN (c_X11_ofFrame hN (sc_rng _ _) (sc_rng _ _) hE.ec) (fun v ad' M' h => ⟨by rw [h.2.2.1], _, h.2.1⟩) (fun E h => by rcases h with h | h <;> rw [h.1] <;> simp)) (fun v1 ad1 M1 h1 => ?_)
  have hcm : (∃ k : Int, 0 ≤ k ∧ k ≤ 3 ∧ v1 = some (.int (iI k))) ∧ (ad1 0 0 = ad 0 0 ∧ ad1 40 0 = ad 40 0 ∧ ad1 90 0 = ad 90 0 ∧ ad1 91 0 = ad 91 0) ∧ Inv n M M1 := by
    rcases h1 with ⟨x1, C1, ⟨hc, q1, q2, q3⟩, e1, eM⟩ | ⟨j, E, hj, hp, e1, e2, eM⟩
    · exact ⟨⟨0, by omega, by omega, e1⟩, by rw [q2]; exact ⟨rfl, rfl, rfl, rfl⟩, hI.ag (Ag.rf M) ((m_none q3).1.tr (by rw [eM]; exact cM9_kMo (wrI_ag _ _)))⟩
    · have hjl : j < 2 := (List.getElem?_eq_some_iff.mp hj).1
      rw [e2, eM]
      exact ⟨⟨(j : Int) + 1, by omega, by omega, e1⟩, ⟨rfl, rfl, rfl, rfl⟩, hI⟩
  obtain ⟨⟨k, k0, k3, ev⟩, ⟨ea0, ea40, ea90, ea91⟩, hI1⟩ := hcm
  subst ev
  rw [← ea0, ← ea40, ← ea90, ← ea91]
  show G κ nm ad1 M1 2193 [some (.ref b), some (.ref (ad1 0 0)), some (.ref (ad1 40 0)), some (.ref (ad1 90 0)), some (.ref (ad1 91 0)), some (.int (iI (6 * n))), none, none, none] [.int (iI k)] _ _
  refine g_istore_6 X dL_law_2193 rfl (lt_kN hNL rfl) rfl ?_
  refine g_aload_n X dL_law_2195 rfl rfl ?_
  refine g_arg X S dL_law_2196 dL_law_2197 dL_law_2199 dL_law_2200 dL_law_2201 rfl rfl rfl (by omega) (by omega) ?_
  refine g_arg X S dL_law_2202 dL_law_2203 dL_law_2205 dL_law_2206 dL_law_2207 rfl rfl rfl (by omega) (by omega) ?_
  refine g_iV2 X w_X12_ofFrame ml_L_215 dL_law_2208 rfl (n40 hN) (en40 _ _ _ _) ⟨⟨Nat.le_of_ble_eq_true rfl, Nat.le_of_ble_eq_true rfl⟩, by show cl + 2 + 0 ≤ 601024; omega, by show sl + 12 + 0 ≤ 7293034; omega⟩ (Nat.le_of_ble_eq_true rfl) (c_X12_ofFrame hN hI1.2.2.2.2.1 hI1.2.2.2.2.2 ⟨n0, by omega⟩ (sc_rng _ _) (sc_rng _ _)) (fun v2 ad2 M2 h2 => ?_)
  obtain ⟨ea2, h2⟩ := h2
  subst ea2
  have hv2 : ∃ z : Int, v2 = some (.int (iI z)) := by
    rcases h2 with ⟨-, e, -⟩ | ⟨-, e, -⟩ <;> exact ⟨_, e⟩
  obtain ⟨z, ez⟩ := hv2
  subst ez
  show G κ nm ad2 M2 2211 [some (.ref b), some (.ref (ad2 0 0)), some (.ref (ad2 40 0)), some (.ref (ad2 90 0)), some (.ref (ad2 91 0)), some (.int (iI (6 * n))), some (.int (iI k)), none, none] [.int (iI z)] _ _
  refine g_istore_7 X dL_law_2211 rfl (lt_kN hNL rfl) rfl ?_
  have F : (M2.1 40 46 0 0) = k ∧ (k = 0 → M2.2 90 0 0 0 = (iI z).toInt64) ∧ Inv (n + 1) M2 M2 ∧ (M2.1 13 1 0 0) = (M.1 13 1 0 0) := by
    rcases h1 with ⟨x1, C1, ⟨hc, q1, q2, q3⟩, e1, eM⟩ | ⟨j, E, hj, hp, e1, -, eM⟩
    · have ek : k = 0 := ik_eq ⟨by omega, by omega⟩ (by decide) e1
      rcases h2 with ⟨hw, -, -⟩ | ⟨-, e2, hP⟩
      · exfalso; revert hw; split <;> first | (intro hw; omega) | (split <;> first | (intro hw; omega) | (split <;> (intro hw; omega)))
      · have f1 : Ag (cM [90, 91] []) C1 M1 := by rw [eM]; exact wrI_ag _ _
        have Fs := s_none hI1 f1 q3 hP
        have ex := Option.some.inj q1
        refine ⟨by rw [ek]; exact Fs.2.1, fun _ => ?_, Fs.1, ?_⟩
        · rw [Fs.2.2.1, eM, ex, wrI_i, iv_eq e2]
        · rw [Fs.2.2.2.2, (m_none q3).2]
    · have hjl : j < 2 := (List.getElem?_eq_some_iff.mp hj).1
      have ek : k = (j : Int) + 1 := ik_eq ⟨by omega, by omega⟩ ⟨by omega, by omega⟩ e1
      rcases es2 hj with ⟨ej, eE⟩ | ⟨ej, eE⟩ <;> subst eE
      all_goals rcases hp with ⟨he, hp⟩ | ⟨he, hp⟩
      all_goals first | exact absurd he (by decide) | skip
      all_goals
        rcases h2 with ⟨hw, -, eM2⟩ | ⟨hw, -, -⟩
        · refine ⟨?_, fun hk0 => by omega, by rw [eM2, eM]; exact hI.refused, ?_⟩
          · rw [eM2, ref_46]
            split <;> first | omega | (split <;> first | omega | (split <;> omega))
          · rw [eM2, ref_cap, eM]
        · exfalso; revert hw; split <;> first | (intro hw; omega) | (split <;> first | (intro hw; omega) | (split <;> (intro hw; omega)))
  exact g_tailI X hNL hN (by show cl + 2 + 0 ≤ 601024; omega) (by show sl + 12 + 0 ≤ 7293034; omega) dL_law_2213 dL_law_2214 dL_law_2217 dL_law_2219 dL_law_2224 dL_law_2226 dL_law_2229 dL_law_2230 dL_law_2231 dL_law_2232 dL_law_2234 dL_law_2235 dL_law_2236 dL_law_2241 (by decide) ⟨by omega, by omega⟩ F.1 F.2.1 (hk ad2 M2 _ _ F.2.2.1 (by show cl + 2 + 0 ≤ _; omega) (by rw [F.2.2.2]; show sl + 12 + 0 ≤ _; omega))
