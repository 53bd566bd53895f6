set_option maxRecDepth 100000 in
set_option maxHeartbeats 4000000 in
theorem k_dirt {κ : Kx} {nm : List (Nat × Int)} {ad : Ad} {M : Mem} {b L : Nat} {xs : Nat → Int32} {n : Int} {cl sl : Nat} (X : Cx κ cL_law RL room_1) (hNL : kN κ = 9) (S : Scr κ b L xs) (hN : NmOk nm) (hm : NmM nm) (hI : Inv n M M) (n0 : 0 ≤ n) (n1 : 6 * n + 6 ≤ (L : Int)) (hcl : cl ≤ 2000 + 8 * n.toNat) (hsl : sl ≤ 900000 + 32 * n.toNat + 6 * ((M.1 13 1 0 0)).toNat) (hk : Goon κ nm b n) : G κ nm ad M 1959 [some (.ref b), some (.ref (ad 0 0)), some (.ref (ad 40 0)), some (.ref (ad 90 0)), some (.ref (ad 91 0)), some (.int (iI (6 * n))), none, none, none] [] cl sl := by
  have hL := S.2.2.2
  have hR := hI.1
  have hV := hI.2.1
  have hZ := hI.2.2.1
  have hH := hI.2.2.2.1
  have hE := hI.2.2.2.2.1
  have hK := hI.2.2.2.2.2
  have hcap : 120 ≤ (M.1 13 1 0 0) ∧ (M.1 13 1 0 0) ≤ 61440 := by have := hK.cap.2.2.1; omega
  have hcc := hK.cc
  have hec := hE.ec
  have hn : n ≤ 511 := by omega
  have hrc := hR.rc
  have hvc := hV.vc
  have hrgc := hH.rc
  have hsc := hZ.sc
  refine g_rm (fun hM => ?_)
  refine g_aload_n X dL_law_1959 rfl rfl ?_
  refine g_arg X S dL_law_1960 dL_law_1961 dL_law_1963 dL_law_1964 dL_law_1965 rfl rfl rfl (by omega) (by omega) ?_
  refine g_aload_n X dL_law_1966 rfl rfl ?_
  have hhi : 1 ≤ hiN M ∧ (hiN M ≤ (M.1 10 0 0 0) ∨ hiN M ≤ 1) := by unfold hiN; split <;> omega
  have f0 : Ag (cM [95] []) M (setI (setI M 95 0 0 0 0) 95 0 0 0 (sc xs (6 * n + 1))) := ((Ag.rf M).setI rfl).setI rfl
  obtain ⟨ms, hms⟩ := MsOk.ex (b := 18) (cap := (M.1 13 1 0 0)) (by decide) (by omega) ((0 ≤ sc xs (6 * n + 1) ∧ sc xs (6 * n + 1) ≤ 255) ∧ (M.1 13 1 0 0) < (M.1 12 0 0 0) + sm (dI (decN M (fun a h b => mdD (sc xs (6 * n + 1)) a h b 8))) 1 (hiN M))
  have hmsb := hms.le (by omega)
  refine g_invL (mc := 5) (ms := ms) X wl_L_dirt ml_L_200 ⟨⟨Nat.le_of_ble_eq_true rfl, Nat.le_of_ble_eq_true rfl⟩, by show cl + 5 ≤ 601024; omega, by show sl + ms ≤ 7293034; omega⟩ dL_law_1967 rfl (As := [.ref (ad 0 0), .int (iI (sc xs (6 * n + 1))), .ref (ad 90 0)]) (rest := []) rfl rfl (Nat.le_of_ble_eq_true rfl) (c_L_dirt hN (c_X11_dirt hN hm (sc_rng _ _) hE.ec hK.cap (by omega) (fun k a b => by have := hK.nb k a b; omega) ⟨by omega, by omega⟩ (fun v g => ⟨by omega, by have := hms.1 ⟨v, g⟩; omega⟩)) (fun v ad' M' h => ⟨h.2.2.1 90 0 (by decide) (by decide) (by decide) (by decide) (by decide), _, h.2.1⟩) (fun E h => by rw [h.1]; simp)) (fun v1 ad1 M1 h1 => ?_)
  have hcm : (∃ k : Int, 0 ≤ k ∧ k ≤ 3 ∧ v1 = some (.int (iI k))) ∧ (ad1 0 0 = ad 0 0 ∧ ad1 40 0 = ad 40 0 ∧ ad1 90 0 = ad 90 0 ∧ ad1 91 0 = ad 91 0) ∧ Inv n M M1 := by
    rcases h1 with ⟨x1, C1, ⟨hc, q1, q2, q3⟩, e1, eM⟩ | ⟨j, E, hj, hp, e1, e2, eM⟩
    · exact ⟨⟨0, by omega, by omega, e1⟩, ⟨q2 0 0 (by decide) (by decide) (by decide) (by decide) (by decide), q2 40 0 (by decide) (by decide) (by decide) (by decide) (by decide), q2 90 0 (by decide) (by decide) (by decide) (by decide) (by decide), q2 91 0 (by decide) (by decide) (by decide) (by decide) (by decide)⟩, hI.ag (Ag.rf M) ((m_mend f0 q3).1.tr (by rw [eM]; exact cM9_kMo (wrI_ag _ _)))⟩
    · have hjl : j < 1 := (List.getElem?_eq_some_iff.mp hj).1
      rw [e2, eM]
      exact ⟨⟨(j : Int) + 1, by omega, by omega, e1⟩, ⟨rfl, rfl, rfl, rfl⟩, hI⟩
  obtain ⟨⟨k, k0, k3, ev⟩, ⟨ea0, ea40, ea90, ea91⟩, hI1⟩ := hcm
  subst ev
  rw [← ea0, ← ea40, ← ea90, ← ea91]
  show G κ nm ad1 M1 1970 [some (.ref b), some (.ref (ad1 0 0)), some (.ref (ad1 40 0)), some (.ref (ad1 90 0)), some (.ref (ad1 91 0)), some (.int (iI (6 * n))), none, none, none] [.int (iI k)] _ _
  refine g_istore_6 X dL_law_1970 rfl (lt_kN hNL rfl) rfl ?_
  refine g_aload_n X dL_law_1972 rfl rfl ?_
  refine g_arg X S dL_law_1973 dL_law_1974 dL_law_1976 dL_law_1977 dL_law_1978 rfl rfl rfl (by omega) (by omega) ?_
  refine g_iV1 X w_X12_dirt ml_L_202 dL_law_1979 rfl (n40 hN) (en40 _ _ _ _) ⟨⟨Nat.le_of_ble_eq_true rfl, Nat.le_of_ble_eq_true rfl⟩, by show cl + 5 + 0 ≤ 601024; omega, by show sl + ms + 0 ≤ 7293034; omega⟩ (Nat.le_of_ble_eq_true rfl) (c_X12_dirt hN hI1.2.2.2.2.1 hI1.2.2.2.2.2 ⟨n0, by omega⟩ (sc_rng _ _)) (fun v2 ad2 M2 h2 => ?_)
  obtain ⟨ea2, h2⟩ := h2
  subst ea2
  have hv2 : ∃ z : Int, v2 = some (.int (iI z)) := by
    rcases h2 with ⟨-, e, -⟩ | ⟨-, e, -⟩ <;> exact ⟨_, e⟩
  obtain ⟨z, ez⟩ := hv2
  subst ez
  show G κ nm ad2 M2 1982 [some (.ref b), some (.ref (ad2 0 0)), some (.ref (ad2 40 0)), some (.ref (ad2 90 0)), some (.ref (ad2 91 0)), some (.int (iI (6 * n))), some (.int (iI k)), none, none] [.int (iI z)] _ _
  refine g_istore_7 X dL_law_1982 rfl (lt_kN hNL rfl) rfl ?_
  have F : (M2.1 40 46 0 0) = k ∧ (k = 0 → M2.2 90 0 0 0 = (iI z).toInt64) ∧ Inv (n + 1) M2 M2 ∧ sl + ms + 0 ≤ 900000 + 32 * (n + 1).toNat + 6 * ((M2.1 13 1 0 0)).toNat := by
    rcases h1 with ⟨x1, C1, ⟨hc, q1, q2, q3⟩, e1, eM⟩ | ⟨j, E, hj, hp, e1, -, eM⟩
    · have ek : k = 0 := ik_eq ⟨by omega, by omega⟩ (by decide) e1
      rcases h2 with ⟨hw, -, -⟩ | ⟨-, e2, hP⟩
      · exfalso; revert hw; split <;> first | (intro hw; omega) | (split <;> first | (intro hw; omega) | (split <;> (intro hw; omega)))
      · have f1 : Ag (cM [90, 91] []) C1 M1 := by rw [eM]; exact wrI_ag _ _
        have Fs := s_mend hI1 f1 f0 (by decide) (Or.inl hhi.1) hhi.2 hE.ec.1 (Int.le_refl _) q3 hP
        have ex := Option.some.inj q1
        refine ⟨by rw [ek]; exact Fs.2.1, fun _ => ?_, Fs.1, ?_⟩
        · rw [Fs.2.2.1, eM, ex, wrI_i, iv_eq e2]
        · have g1 := (m_mend f0 q3).2
          rw [Fs.2.2.2.2]
          by_cases g : (M.1 13 1 0 0) < (M.1 12 0 0 0) + sm (dI (decN M (fun a h b => mdD (sc xs (6 * n + 1)) a h b 8))) 1 (hiN M)
          · have e3 := g1.2 g
            have e4 := hms.1 ⟨hc, g⟩
            omega
          · have e3 := g1.1 (by omega)
            have e4 := hms.2 (fun q => g q.2)
            omega
    · have hjl : j < 1 := (List.getElem?_eq_some_iff.mp hj).1
      have ek : k = (j : Int) + 1 := ik_eq ⟨by omega, by omega⟩ ⟨by omega, by omega⟩ e1
      obtain ⟨ej, eE⟩ := es1 hj
      subst eE
      all_goals obtain ⟨he, hp⟩ := hp
      all_goals first | exact absurd he (by decide) | skip
      all_goals
        rcases h2 with ⟨hw, -, eM2⟩ | ⟨hw, -, -⟩
        · refine ⟨?_, fun hk0 => by omega, by rw [eM2, eM]; exact hI.refused, ?_⟩
          · rw [eM2, ref_46]
            split <;> first | omega | (split <;> first | omega | (split <;> omega))
          · have e4 := hms.2 (fun q => by have q1 := q.1; omega)
            rw [eM2, ref_cap, eM]
            omega
        · exfalso; revert hw; split <;> first | (intro hw; omega) | (split <;> first | (intro hw; omega) | (split <;> (intro hw; omega)))
  exact g_tailI X hNL hN (by show cl + 5 + 0 ≤ 601024; omega) (by show sl + ms + 0 ≤ 7293034; omega) dL_law_1984 dL_law_1985 dL_law_1988 dL_law_1990 dL_law_1995 dL_law_1997 dL_law_2000 dL_law_2001 dL_law_2002 dL_law_2003 dL_law_2005 dL_law_2006 dL_law_2007 dL_law_2012 (by decide) ⟨by omega, by omega⟩ F.1 F.2.1 (hk ad2 M2 _ _ F.2.2.1 (by show cl + 5 + 0 ≤ _; omega) (by exact F.2.2.2))
