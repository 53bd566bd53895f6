set_option maxRecDepth 100000 in
set_option maxHeartbeats 4000000 in
theorem k_ofReel {κ : Kx} {nm : List (Nat × Int)} {ad : Ad} {M : Mem} {b L : Nat} {xs : Nat → Int32} {n : Int} {cl sl : Nat} (X : Cx κ cL_law RL room_1) (hNL : kN κ = 9) (S : Scr κ b L xs) (hN : NmOk nm) (hm : NmM nm) (hI : Inv n M M) (n0 : 0 ≤ n) (n1 : 6 * n + 6 ≤ (L : Int)) (hcl : cl ≤ 2000 + 8 * n.toNat) (hsl : sl ≤ 900000 + 32 * n.toNat + 6 * ((M.1 13 1 0 0)).toNat) (hk : Goon κ nm b n) : G κ nm ad M 588 [some (.ref b), some (.ref (ad 0 0)), some (.ref (ad 40 0)), some (.ref (ad 90 0)), some (.ref (ad 91 0)), some (.int (iI (6 * n))), none, none, none] [] cl sl := by
  have hL := S.2.2.2
  have hR := hI.1
  have hV := hI.2.1
  have hZ := hI.2.2.1
  have hH := hI.2.2.2.1
  have hE := hI.2.2.2.2.1
  have hK := hI.2.2.2.2.2
  have hcap : 120 ≤ (M.1 13 1 0 0) ∧ (M.1 13 1 0 0) ≤ 61440 := by have := hK.cap.2.2.1; omega
  have hcc := hK.cc
  have hec := hE.ec
  have hn : n ≤ 511 := by omega
  have hrc := hR.rc
  have hvc := hV.vc
  have hrgc := hH.rc
  have hsc := hZ.sc
  refine g_rm (fun hM => ?_)
  refine g_aload_n X dL_law_588 rfl rfl ?_
  refine g_arg X S dL_law_589 dL_law_590 dL_law_592 dL_law_593 dL_law_594 rfl rfl rfl (by omega) (by omega) ?_
  refine g_arg X S dL_law_595 dL_law_596 dL_law_598 dL_law_599 dL_law_600 rfl rfl rfl (by omega) (by omega) ?_
  refine g_aload_n X dL_law_601 rfl rfl ?_
  refine g_invL (mc := 2) (ms := 12) X wl_L_ofReel ml_L_143 ⟨⟨Nat.le_of_ble_eq_true rfl, Nat.le_of_ble_eq_true rfl⟩, by show cl + 2 ≤ 601024; omega, by show sl + 12 ≤ 7293034; omega⟩ dL_law_602 rfl (As := [.ref (ad 0 0), .int (iI (sc xs (6 * n + 1))), .int (iI (sc xs (6 * n + 2))), .ref (ad 90 0)]) (rest := []) rfl rfl (Nat.le_of_ble_eq_true rfl) (c_L_ofReel hN (c_X11_ofReel hN (sc_rng _ _) (sc_rng _ _) hR.rc hR.rd hR.hg) (fun v ad' M' h => ⟨by rw [h.2.2.1], _, h.2.1⟩) (fun E h => by rcases h with h | h <;> rw [h.1] <;> simp)) (fun v1 ad1 M1 h1 => ?_)
  have hcm : (∃ k : Int, 0 ≤ k ∧ k ≤ 3 ∧ v1 = some (.int (iI k))) ∧ (ad1 0 0 = ad 0 0 ∧ ad1 40 0 = ad 40 0 ∧ ad1 90 0 = ad 90 0 ∧ ad1 91 0 = ad 91 0) ∧ Inv n M M1 := by
    rcases h1 with ⟨x1, C1, ⟨hc, q1, q2, q3⟩, e1, eM⟩ | ⟨j, E, hj, hp, e1, e2, eM⟩
    · exact ⟨⟨0, by omega, by omega, e1⟩, by rw [q2]; exact ⟨rfl, rfl, rfl, rfl⟩, hI.ag (Ag.rf M) ((m_ofReel q3).1.tr (by rw [eM]; exact cM9_kMo (wrI_ag _ _)))⟩
    · have hjl : j < 2 := (List.getElem?_eq_some_iff.mp hj).1
      rw [e2, eM]
      exact ⟨⟨(j : Int) + 1, by omega, by omega, e1⟩, ⟨rfl, rfl, rfl, rfl⟩, hI⟩
  obtain ⟨⟨k, k0, k3, ev⟩, ⟨ea0, ea40, ea90, ea91⟩, hI1⟩ := hcm
  subst ev
  rw [← ea0, ← ea40, ← ea90, ← ea91]
  show G κ nm ad1 M1 605 [some (.ref b), some (.ref (ad1 0 0)), some (.ref (ad1 40 0)), some (.ref (ad1 90 0)), some (.ref (ad1 91 0)), some (.int (iI (6 * n))), none, none, none] [.int (iI k)] _ _
  refine g_istore_6 X dL_law_605 rfl (lt_kN hNL rfl) rfl ?_
  refine g_aload_n X dL_law_607 rfl rfl ?_
  refine g_arg X S dL_law_608 dL_law_609 dL_law_611 dL_law_612 dL_law_613 rfl rfl rfl (by omega) (by omega) ?_
  refine g_arg X S dL_law_614 dL_law_615 dL_law_617 dL_law_618 dL_law_619 rfl rfl rfl (by omega) (by omega) ?_
  refine g_iV2 X w_X12_ofReel ml_L_145 dL_law_620 rfl (n40 hN) (en40 _ _ _ _) ⟨⟨Nat.le_of_ble_eq_true rfl, Nat.le_of_ble_eq_true rfl⟩, by show cl + 2 + 0 ≤ 601024; omega, by show sl + 12 + 0 ≤ 7293034; omega⟩ (Nat.le_of_ble_eq_true rfl) (c_X12_ofReel hN hI1.1 (sc_rng _ _) (sc_rng _ _)) (fun v2 ad2 M2 h2 => ?_)
  obtain ⟨ea2, h2⟩ := h2
  subst ea2
  have hv2 : ∃ z : Int, v2 = some (.int (iI z)) := by
    rcases h2 with ⟨-, e, -⟩ | ⟨-, e, -⟩ <;> exact ⟨_, e⟩
  obtain ⟨z, ez⟩ := hv2
  subst ez
  show G κ nm ad2 M2 623 [some (.ref b), some (.ref (ad2 0 0)), some (.ref (ad2 40 0)), some (.ref (ad2 90 0)), some (.ref (ad2 91 0)), some (.int (iI (6 * n))), some (.int (iI k)), none, none] [.int (iI z)] _ _
  refine g_istore_7 X dL_law_623 rfl (lt_kN hNL rfl) rfl ?_
  have F : (M2.1 40 46 0 0) = k ∧ (k = 0 → M2.2 90 0 0 0 = (iI z).toInt64) ∧ Inv (n + 1) M2 M2 ∧ (M2.1 13 1 0 0) = (M.1 13 1 0 0) := by
    rcases h1 with ⟨x1, C1, ⟨hc, q1, q2, q3⟩, e1, eM⟩ | ⟨j, E, hj, hp, e1, -, eM⟩
    · have ek : k = 0 := ik_eq ⟨by omega, by omega⟩ (by decide) e1
      rcases h2 with ⟨hw, -, -⟩ | ⟨-, e2, hP⟩
      · exfalso; revert hw; split <;> first | (intro hw; omega) | (split <;> first | (intro hw; omega) | (split <;> (intro hw; omega)))
      · have f1 : Ag (cM [90, 91] []) C1 M1 := by rw [eM]; exact wrI_ag _ _
        have Fs := s_ofReel hI1 f1 q3 hP
        have ex := Option.some.inj q1
        refine ⟨by rw [ek]; exact Fs.2.1, fun _ => ?_, Fs.1, ?_⟩
        · rw [Fs.2.2.1, eM, ex, wrI_i, iv_eq e2]
        · rw [Fs.2.2.2.2, (m_ofReel q3).2]
    · have hjl : j < 2 := (List.getElem?_eq_some_iff.mp hj).1
      have ek : k = (j : Int) + 1 := ik_eq ⟨by omega, by omega⟩ ⟨by omega, by omega⟩ e1
      rcases es2 hj with ⟨ej, eE⟩ | ⟨ej, eE⟩ <;> subst eE
      all_goals rcases hp with ⟨he, hp⟩ | ⟨he, hp⟩
      all_goals first | exact absurd he (by decide) | skip
      all_goals
        rcases h2 with ⟨hw, -, eM2⟩ | ⟨hw, -, -⟩
        · refine ⟨?_, fun hk0 => by omega, by rw [eM2, eM]; exact hI.refused, ?_⟩
          · rw [eM2, ref_46]
            split <;> first | omega | (split <;> first | omega | (split <;> omega))
          · rw [eM2, ref_cap, eM]
        · exfalso; revert hw; split <;> first | (intro hw; omega) | (split <;> first | (intro hw; omega) | (split <;> (intro hw; omega)))
  exact g_tailI X hNL hN (by show cl + 2 + 0 ≤ 601024; omega) (by show sl + 12 + 0 ≤ 7293034; omega) dL_law_625 dL_law_626 dL_law_629 dL_law_631 dL_law_636 dL_law_638 dL_law_641 dL_law_642 dL_law_643 dL_law_644 dL_law_646 dL_law_647 dL_law_648 dL_law_653 (by decide) ⟨by omega, by omega⟩ F.1 F.2.1 (hk ad2 M2 _ _ F.2.2.1 (by show cl + 2 + 0 ≤ _; omega) (by rw [F.2.2.2]; show sl + 12 + 0 ≤ _; omega))
set_option maxRecDepth 100000 in
set_option maxHeartbeats 4000000 in
theorem k_tolerance {κ : Kx} {nm : List (Nat × Int)} {ad : Ad} {M : Mem} {b L : Nat} {xs : Nat → Int32} {n : Int} {cl sl : Nat} (X : Cx κ cL_law RL room_1) (hNL : kN κ = 9) (S : Scr κ b L xs) (hN : NmOk nm) (hm : NmM nm) (hI : Inv n M M) (n0 : 0 ≤ n) (n1 : 6 * n + 6 ≤ (L : Int)) (hcl : cl ≤ 2000 + 8 * n.toNat) (hsl : sl ≤ 900000 + 32 * n.toNat + 6 * ((M.1 13 1 0 0)).toNat) (hk : Goon κ nm b n) : G κ nm ad M 656 [some (.ref b), some (.ref (ad 0 0)), some (.ref (ad 40 0)), some (.ref (ad 90 0)), some (.ref (ad 91 0)), some (.int (iI (6 * n))), none, none, none] [] cl sl := by
  have hL := S.2.2.2
  have hR := hI.1
  have hV := hI.2.1
  have hZ := hI.2.2.1
  have hH := hI.2.2.2.1
  have hE := hI.2.2.2.2.1
  have hK := hI.2.2.2.2.2
  have hcap : 120 ≤ (M.1 13 1 0 0) ∧ (M.1 13 1 0 0) ≤ 61440 := by have := hK.cap.2.2.1; omega
  have hcc := hK.cc
  have hec := hE.ec
  have hn : n ≤ 511 := by omega
  have hrc := hR.rc
  have hvc := hV.vc
  have hrgc := hH.rc
  have hsc := hZ.sc
  refine g_rm (fun hM => ?_)
  refine g_aload_n X dL_law_656 rfl rfl ?_
  refine g_arg X S dL_law_657 dL_law_658 dL_law_660 dL_law_661 dL_law_662 rfl rfl rfl (by omega) (by omega) ?_
  refine g_aload_n X dL_law_663 rfl rfl ?_
  refine g_invL (mc := 1) (ms := 6) X wl_L_tolerance ml_L_146 ⟨⟨Nat.le_of_ble_eq_true rfl, Nat.le_of_ble_eq_true rfl⟩, by show cl + 1 ≤ 601024; omega, by show sl + 6 ≤ 7293034; omega⟩ dL_law_664 rfl (As := [.ref (ad 0 0), .int (iI (sc xs (6 * n + 1))), .ref (ad 90 0)]) (rest := []) rfl rfl (Nat.le_of_ble_eq_true rfl) (c_L_tolerance hN (c_X11_tolerance hN (sc_rng _ _)) (fun v ad' M' h => ⟨by rw [h.2.2.1], _, h.2.1⟩) (fun E h => by rw [h.1]; simp)) (fun v1 ad1 M1 h1 => ?_)
  have hcm : (∃ k : Int, 0 ≤ k ∧ k ≤ 3 ∧ v1 = some (.int (iI k))) ∧ (ad1 0 0 = ad 0 0 ∧ ad1 40 0 = ad 40 0 ∧ ad1 90 0 = ad 90 0 ∧ ad1 91 0 = ad 91 0) ∧ Inv n M M1 := by
    rcases h1 with ⟨x1, C1, ⟨hc, q1, q2, q3⟩, e1, eM⟩ | ⟨j, E, hj, hp, e1, e2, eM⟩
    · exact ⟨⟨0, by omega, by omega, e1⟩, by rw [q2]; exact ⟨rfl, rfl, rfl, rfl⟩, hI.ag (Ag.rf M) ((m_tolerance q3).1.tr (by rw [eM]; exact cM9_kMo (wrI_ag _ _)))⟩
    · have hjl : j < 1 := (List.getElem?_eq_some_iff.mp hj).1
      rw [e2, eM]
      exact ⟨⟨(j : Int) + 1, by omega, by omega, e1⟩, ⟨rfl, rfl, rfl, rfl⟩, hI⟩
  obtain ⟨⟨k, k0, k3, ev⟩, ⟨ea0, ea40, ea90, ea91⟩, hI1⟩ := hcm
  subst ev
  rw [← ea0, ← ea40, ← ea90, ← ea91]
  show G κ nm ad1 M1 667 [some (.ref b), some (.ref (ad1 0 0)), some (.ref (ad1 40 0)), some (.ref (ad1 90 0)), some (.ref (ad1 91 0)), some (.int (iI (6 * n))), none, none, none] [.int (iI k)] _ _
  refine g_istore_6 X dL_law_667 rfl (lt_kN hNL rfl) rfl ?_
  refine g_aload_n X dL_law_669 rfl rfl ?_
  refine g_arg X S dL_law_670 dL_law_671 dL_law_673 dL_law_674 dL_law_675 rfl rfl rfl (by omega) (by omega) ?_
  refine g_iV1 X w_X12_tolerance ml_L_148 dL_law_676 rfl (n40 hN) (en40 _ _ _ _) ⟨⟨Nat.le_of_ble_eq_true rfl, Nat.le_of_ble_eq_true rfl⟩, by show cl + 1 + 0 ≤ 601024; omega, by show sl + 6 + 0 ≤ 7293034; omega⟩ (Nat.le_of_ble_eq_true rfl) (c_X12_tolerance hN hI1.1 (sc_rng _ _)) (fun v2 ad2 M2 h2 => ?_)
  obtain ⟨ea2, h2⟩ := h2
  subst ea2
  have hv2 : ∃ z : Int, v2 = some (.int (iI z)) := by
    rcases h2 with ⟨-, e, -⟩ | ⟨-, e, -⟩ <;> exact ⟨_, e⟩
  obtain ⟨z, ez⟩ := hv2
  subst ez
  show G κ nm ad2 M2 679 [some (.ref b), some (.ref (ad2 0 0)), some (.ref (ad2 40 0)), some (.ref (ad2 90 0)), some (.ref (ad2 91 0)), some (.int (iI (6 * n))), some (.int (iI k)), none, none] [.int (iI z)] _ _
  refine g_istore_7 X dL_law_679 rfl (lt_kN hNL rfl) rfl ?_
  have F : (M2.1 40 46 0 0) = k ∧ (k = 0 → M2.2 90 0 0 0 = (iI z).toInt64) ∧ Inv (n + 1) M2 M2 ∧ (M2.1 13 1 0 0) = (M.1 13 1 0 0) := by
    rcases h1 with ⟨x1, C1, ⟨hc, q1, q2, q3⟩, e1, eM⟩ | ⟨j, E, hj, hp, e1, -, eM⟩
    · have ek : k = 0 := ik_eq ⟨by omega, by omega⟩ (by decide) e1
      rcases h2 with ⟨hw, -, -⟩ | ⟨-, e2, hP⟩
      · exfalso; revert hw; split <;> first | (intro hw; omega) | (split <;> first | (intro hw; omega) | (split <;> (intro hw; omega)))
      · have f1 : Ag (cM [90, 91] []) C1 M1 := by rw [eM]; exact wrI_ag _ _
        have Fs := s_tolerance hI1 f1 hc q3 hP
        have ex := Option.some.inj q1
        refine ⟨by rw [ek]; exact Fs.2.1, fun _ => ?_, Fs.1, ?_⟩
        · rw [Fs.2.2.1, eM, ex, wrI_i, iv_eq e2]
        · rw [Fs.2.2.2.2, (m_tolerance q3).2]
    · have hjl : j < 1 := (List.getElem?_eq_some_iff.mp hj).1
      have ek : k = (j : Int) + 1 := ik_eq ⟨by omega, by omega⟩ ⟨by omega, by omega⟩ e1
      obtain ⟨ej, eE⟩ := es1 hj
      subst eE
      all_goals obtain ⟨he, hp⟩ := hp
      all_goals first | exact absurd he (by decide) | skip
      all_goals
        rcases h2 with ⟨hw, -, eM2⟩ | ⟨hw, -, -⟩
        · refine ⟨?_, fun hk0 => by omega, by rw [eM2, eM]; exact hI.refused, ?_⟩
          · rw [eM2, ref_46]
            split <;> first | omega | (split <;> first | omega | (split <;> omega))
          · rw [eM2, ref_cap, eM]
        · exfalso; revert hw; split <;> first | (intro hw; omega) | (split <;> first | (intro hw; omega) | (split <;> (intro hw; omega)))
  exact g_tailI X hNL hN (by show cl + 1 + 0 ≤ 601024; omega) (by show sl + 6 + 0 ≤ 7293034; omega) dL_law_681 dL_law_682 dL_law_685 dL_law_687 dL_law_692 dL_law_694 dL_law_697 dL_law_698 dL_law_699 dL_law_700 dL_law_702 dL_law_703 dL_law_704 dL_law_709 (by decide) ⟨by omega, by omega⟩ F.1 F.2.1 (hk ad2 M2 _ _ F.2.2.1 (by show cl + 1 + 0 ≤ _; omega) (by rw [F.2.2.2]; show sl + 6 + 0 ≤ _; omega))
set_option maxRecDepth 100000 in
set_option maxHeartbeats 4000000 in
theorem k_align {κ : Kx} {nm : List (Nat × Int)} {ad : Ad} {M : Mem} {b L : Nat} {xs : Nat → Int32} {n : Int} {cl sl : Nat} (X : Cx κ cL_law RL room_1) (hNL : kN κ = 9) (S : Scr κ b L xs) (hN : NmOk nm) (hm : NmM nm) (hI : Inv n M M) (n0 : 0 ≤ n) (n1 : 6 * n + 6 ≤ (L : Int)) (hcl : cl ≤ 2000 + 8 * n.toNat) (hsl : sl ≤ 900000 + 32 * n.toNat + 6 * ((M.1 13 1 0 0)).toNat) (hk : Goon κ nm b n) : G κ nm ad M 712 [some (.ref b), some (.ref (ad 0 0)), some (.ref (ad 40 0)), some (.ref (ad 90 0)), some (.ref (ad 91 0)), some (.int (iI (6 * n))), none, none, none] [] cl sl := by
  have hL := S.2.2.2
  have hR := hI.1
  have hV := hI.2.1
  have hZ := hI.2.2.1
  have hH := hI.2.2.2.1
  have hE := hI.2.2.2.2.1
  have hK := hI.2.2.2.2.2
  have hcap : 120 ≤ (M.1 13 1 0 0) ∧ (M.1 13 1 0 0) ≤ 61440 := by have := hK.cap.2.2.1; omega
  have hcc := hK.cc
  have hec := hE.ec
  have hn : n ≤ 511 := by omega
  have hrc := hR.rc
  have hvc := hV.vc
  have hrgc := hH.rc
  have hsc := hZ.sc
  refine g_rm (fun hM => ?_)
  refine g_aload_n X dL_law_712 rfl rfl ?_
  refine g_arg X S dL_law_713 dL_law_714 dL_law_716 dL_law_717 dL_law_718 rfl rfl rfl (by omega) (by omega) ?_
  refine g_arg X S dL_law_719 dL_law_720 dL_law_722 dL_law_723 dL_law_724 rfl rfl rfl (by omega) (by omega) ?_
  refine g_aload_n X dL_law_725 rfl rfl ?_
  refine g_invL (mc := 3) (ms := 18) X wl_L_align ml_L_149 ⟨⟨Nat.le_of_ble_eq_true rfl, Nat.le_of_ble_eq_true rfl⟩, by show cl + 3 ≤ 601024; omega, by show sl + 18 ≤ 7293034; omega⟩ dL_law_726 rfl (As := [.ref (ad 0 0), .int (iI (sc xs (6 * n + 1))), .int (iI (sc xs (6 * n + 2))), .ref (ad 90 0)]) (rest := []) rfl rfl (Nat.le_of_ble_eq_true rfl) (c_L_align hN (c_X11_align hN (sc_rng _ _) (sc_rng _ _) hR.rc hR.rd hR.bz) (fun v ad' M' h => ⟨by rw [h.2.2.1], _, h.2.1⟩) (fun E h => by rcases h with h | h | h <;> rw [h.1] <;> simp)) (fun v1 ad1 M1 h1 => ?_)
  have hcm : (∃ k : Int, 0 ≤ k ∧ k ≤ 3 ∧ v1 = some (.int (iI k))) ∧ (ad1 0 0 = ad 0 0 ∧ ad1 40 0 = ad 40 0 ∧ ad1 90 0 = ad 90 0 ∧ ad1 91 0 = ad 91 0) ∧ Inv n M M1 := by
    rcases h1 with ⟨x1, C1, ⟨hc, q1, q2, q3⟩, e1, eM⟩ | ⟨j, E, hj, hp, e1, e2, eM⟩
    · exact ⟨⟨0, by omega, by omega, e1⟩, by rw [q2]; exact ⟨rfl, rfl, rfl, rfl⟩, hI.ag (Ag.rf M) ((m_align q3).1.tr (by rw [eM]; exact cM9_kMo (wrI_ag _ _)))⟩
    · have hjl : j < 2 := (List.getElem?_eq_some_iff.mp hj).1
      rw [e2, eM]
      exact ⟨⟨(j : Int) + 1, by omega, by omega, e1⟩, ⟨rfl, rfl, rfl, rfl⟩, hI⟩
  obtain ⟨⟨k, k0, k3, ev⟩, ⟨ea0, ea40, ea90, ea91⟩, hI1⟩ := hcm
  subst ev
  rw [← ea0, ← ea40, ← ea90, ← ea91]
  show G κ nm ad1 M1 729 [some (.ref b), some (.ref (ad1 0 0)), some (.ref (ad1 40 0)), some (.ref (ad1 90 0)), some (.ref (ad1 91 0)), some (.int (iI (6 * n))), none, none, none] [.int (iI k)] _ _
  refine g_istore_6 X dL_law_729 rfl (lt_kN hNL rfl) rfl ?_
  refine g_aload_n X dL_law_731 rfl rfl ?_
  refine g_arg X S dL_law_732 dL_law_733 dL_law_735 dL_law_736 dL_law_737 rfl rfl rfl (by omega) (by omega) ?_
  refine g_arg X S dL_law_738 dL_law_739 dL_law_741 dL_law_742 dL_law_743 rfl rfl rfl (by omega) (by omega) ?_
  refine g_iV2 X w_X12_align ml_L_151 dL_law_744 rfl (n40 hN) (en40 _ _ _ _) ⟨⟨Nat.le_of_ble_eq_true rfl, Nat.le_of_ble_eq_true rfl⟩, by show cl + 3 + 0 ≤ 601024; omega, by show sl + 18 + 0 ≤ 7293034; omega⟩ (Nat.le_of_ble_eq_true rfl) (c_X12_align hN hI1.1 (sc_rng _ _) (sc_rng _ _)) (fun v2 ad2 M2 h2 => ?_)
  obtain ⟨ea2, h2⟩ := h2
  subst ea2
  have hv2 : ∃ z : Int, v2 = some (.int (iI z)) := by
    rcases h2 with ⟨-, e, -⟩ | ⟨-, e, -⟩ <;> exact ⟨_, e⟩
  obtain ⟨z, ez⟩ := hv2
  subst ez
  show G κ nm ad2 M2 747 [some (.ref b), some (.ref (ad2 0 0)), some (.ref (ad2 40 0)), some (.ref (ad2 90 0)), some (.ref (ad2 91 0)), some (.int (iI (6 * n))), some (.int (iI k)), none, none] [.int (iI z)] _ _
  refine g_istore_7 X dL_law_747 rfl (lt_kN hNL rfl) rfl ?_
  have F : (M2.1 40 46 0 0) = k ∧ (k = 0 → M2.2 90 0 0 0 = (iI z).toInt64) ∧ Inv (n + 1) M2 M2 ∧ (M2.1 13 1 0 0) = (M.1 13 1 0 0) := by
    rcases h1 with ⟨x1, C1, ⟨hc, q1, q2, q3⟩, e1, eM⟩ | ⟨j, E, hj, hp, e1, -, eM⟩
    · have ek : k = 0 := ik_eq ⟨by omega, by omega⟩ (by decide) e1
      rcases h2 with ⟨hw, -, -⟩ | ⟨-, e2, hP⟩
      · exfalso; revert hw; split <;> first | (intro hw; omega) | (split <;> first | (intro hw; omega) | (split <;> (intro hw; omega)))
      · have f1 : Ag (cM [90, 91] []) C1 M1 := by rw [eM]; exact wrI_ag _ _
        have Fs := s_align hI1 f1 q3 hP
        have ex := Option.some.inj q1
        refine ⟨by rw [ek]; exact Fs.2.1, fun _ => ?_, Fs.1, ?_⟩
        · rw [Fs.2.2.1, eM, ex, wrI_i, iv_eq e2]
        · rw [Fs.2.2.2.2, (m_align q3).2]
    · have hjl : j < 2 := (List.getElem?_eq_some_iff.mp hj).1
      have ek : k = (j : Int) + 1 := ik_eq ⟨by omega, by omega⟩ ⟨by omega, by omega⟩ e1
      rcases es2 hj with ⟨ej, eE⟩ | ⟨ej, eE⟩ <;> subst eE
      all_goals rcases hp with ⟨he, hp⟩ | ⟨he, hp⟩ | ⟨he, hp⟩
      all_goals first | exact absurd he (by decide) | skip
      all_goals
        rcases h2 with ⟨hw, -, eM2⟩ | ⟨hw, -, -⟩
        · refine ⟨?_, fun hk0 => by omega, by rw [eM2, eM]; exact hI.refused, ?_⟩
          · rw [eM2, ref_46]
            split <;> first | omega | (split <;> first | omega | (split <;> omega))
          · rw [eM2, ref_cap, eM]
        · exfalso; revert hw; split <;> first | (intro hw; omega) | (split <;> first | (intro hw; omega) | (split <;> (intro hw; omega)))
  exact g_tailI X hNL hN (by show cl + 3 + 0 ≤ 601024; omega) (by show sl + 18 + 0 ≤ 7293034; omega) dL_law_749 dL_law_750 dL_law_753 dL_law_755 dL_law_760 dL_law_762 dL_law_765 dL_law_766 dL_law_767 dL_law_768 dL_law_770 dL_law_771 dL_law_772 dL_law_777 (by decide) ⟨by omega, by omega⟩ F.1 F.2.1 (hk ad2 M2 _ _ F.2.2.1 (by show cl + 3 + 0 ≤ _; omega) (by rw [F.2.2.2]; show sl + 18 + 0 ≤ _; omega))
set_option maxRecDepth 100000 in
set_option maxHeartbeats 4000000 in
theorem k_pairOf {κ : Kx} {nm : List (Nat × Int)} {ad : Ad} {M : Mem} {b L : Nat} {xs : Nat → Int32} {n : Int} {cl sl : Nat} (X : Cx κ cL_law RL room_1) (hNL : kN κ = 9) (S : Scr κ b L xs) (hN : NmOk nm) (hm : NmM nm) (hI : Inv n M M) (n0 : 0 ≤ n) (n1 : 6 * n + 6 ≤ (L : Int)) (hcl : cl ≤ 2000 + 8 * n.toNat) (hsl : sl ≤ 900000 + 32 * n.toNat + 6 * ((M.1 13 1 0 0)).toNat) (hk : Goon κ nm b n) : G κ nm ad M 780 [some (.ref b), some (.ref (ad 0 0)), some (.ref (ad 40 0)), some (.ref (ad 90 0)), some (.ref (ad 91 0)), some (.int (iI (6 * n))), none, none, none] [] cl sl := by
  have hL := S.2.2.2
  have hR := hI.1
  have hV := hI.2.1
  have hZ := hI.2.2.1
  have hH := hI.2.2.2.1
  have hE := hI.2.2.2.2.1
  have hK := hI.2.2.2.2.2
  have hcap : 120 ≤ (M.1 13 1 0 0) ∧ (M.1 13 1 0 0) ≤ 61440 := by have := hK.cap.2.2.1; omega
  have hcc := hK.cc
  have hec := hE.ec
  have hn : n ≤ 511 := by omega
  have hrc := hR.rc
  have hvc := hV.vc
  have hrgc := hH.rc
  have hsc := hZ.sc
  refine g_rm (fun hM => ?_)
  refine g_aload_n X dL_law_780 rfl rfl ?_
  refine g_arg X S dL_law_781 dL_law_782 dL_law_784 dL_law_785 dL_law_786 rfl rfl rfl (by omega) (by omega) ?_
  refine g_arg X S dL_law_787 dL_law_788 dL_law_790 dL_law_791 dL_law_792 rfl rfl rfl (by omega) (by omega) ?_
  refine g_arg X S dL_law_793 dL_law_794 dL_law_796 dL_law_797 dL_law_798 rfl rfl rfl (by omega) (by omega) ?_
  refine g_aload_n X dL_law_799 rfl rfl ?_
  refine g_invL (mc := 4) (ms := 24) X wl_L_pairOf ml_L_152 ⟨⟨Nat.le_of_ble_eq_true rfl, Nat.le_of_ble_eq_true rfl⟩, by show cl + 4 ≤ 601024; omega, by show sl + 24 ≤ 7293034; omega⟩ dL_law_800 rfl (As := [.ref (ad 0 0), .int (iI (sc xs (6 * n + 1))), .int (iI (sc xs (6 * n + 2))), .int (iI (sc xs (6 * n + 3))), .ref (ad 90 0)]) (rest := []) rfl rfl (Nat.le_of_ble_eq_true rfl) (c_L_pairOf hN (c_X11_pairOf hN (sc_rng _ _) (sc_rng _ _) (sc_rng _ _) hR.rc hR.rd hR.bz) (fun v ad' M' h => ⟨by rw [h.2.2.1], _, h.2.1⟩) (fun E h => by rcases h with h | h | h | h <;> rw [h.1] <;> simp)) (fun v1 ad1 M1 h1 => ?_)
  have hcm : (∃ k : Int, 0 ≤ k ∧ k ≤ 3 ∧ v1 = some (.int (iI k))) ∧ (ad1 0 0 = ad 0 0 ∧ ad1 40 0 = ad 40 0 ∧ ad1 90 0 = ad 90 0 ∧ ad1 91 0 = ad 91 0) ∧ Inv n M M1 := by
    rcases h1 with ⟨x1, C1, ⟨hc, q1, q2, q3⟩, e1, eM⟩ | ⟨j, E, hj, hp, e1, e2, eM⟩
    · exact ⟨⟨0, by omega, by omega, e1⟩, by rw [q2]; exact ⟨rfl, rfl, rfl, rfl⟩, hI.ag (Ag.rf M) ((m_align q3).1.tr (by rw [eM]; exact cM9_kMo (wrI_ag _ _)))⟩
    · have hjl : j < 2 := (List.getElem?_eq_some_iff.mp hj).1
      rw [e2, eM]
      exact ⟨⟨(j : Int) + 1, by omega, by omega, e1⟩, ⟨rfl, rfl, rfl, rfl⟩, hI⟩
  obtain ⟨⟨k, k0, k3, ev⟩, ⟨ea0, ea40, ea90, ea91⟩, hI1⟩ := hcm
  subst ev
  rw [← ea0, ← ea40, ← ea90, ← ea91]
  show G κ nm ad1 M1 803 [some (.ref b), some (.ref (ad1 0 0)), some (.ref (ad1 40 0)), some (.ref (ad1 90 0)), some (.ref (ad1 91 0)), some (.int (iI (6 * n))), none, none, none] [.int (iI k)] _ _
  refine g_istore_6 X dL_law_803 rfl (lt_kN hNL rfl) rfl ?_
  refine g_aload_n X dL_law_805 rfl rfl ?_
  refine g_arg X S dL_law_806 dL_law_807 dL_law_809 dL_law_810 dL_law_811 rfl rfl rfl (by omega) (by omega) ?_
  refine g_arg X S dL_law_812 dL_law_813 dL_law_815 dL_law_816 dL_law_817 rfl rfl rfl (by omega) (by omega) ?_
  refine g_arg X S dL_law_818 dL_law_819 dL_law_821 dL_law_822 dL_law_823 rfl rfl rfl (by omega) (by omega) ?_
  refine g_iV3 X w_X12_pairOf ml_L_155 dL_law_824 rfl (n40 hN) (en40 _ _ _ _) ⟨⟨Nat.le_of_ble_eq_true rfl, Nat.le_of_ble_eq_true rfl⟩, by show cl + 4 + 0 ≤ 601024; omega, by show sl + 24 + 0 ≤ 7293034; omega⟩ (Nat.le_of_ble_eq_true rfl) (c_X12_pairOf hN hI1.1 (sc_rng _ _) (sc_rng _ _) (sc_rng _ _)) (fun v2 ad2 M2 h2 => ?_)
  obtain ⟨ea2, h2⟩ := h2
  subst ea2
  have hv2 : ∃ z : Int, v2 = some (.int (iI z)) := by
    rcases h2 with ⟨-, e, -⟩ | ⟨-, e, -⟩ <;> exact ⟨_, e⟩
  obtain ⟨z, ez⟩ := hv2
  subst ez
  show G κ nm ad2 M2 827 [some (.ref b), some (.ref (ad2 0 0)), some (.ref (ad2 40 0)), some (.ref (ad2 90 0)), some (.ref (ad2 91 0)), some (.int (iI (6 * n))), some (.int (iI k)), none, none] [.int (iI z)] _ _
  refine g_istore_7 X dL_law_827 rfl (lt_kN hNL rfl) rfl ?_
  have F : (M2.1 40 46 0 0) = k ∧ (k = 0 → M2.2 90 0 0 0 = (iI z).toInt64) ∧ Inv (n + 1) M2 M2 ∧ (M2.1 13 1 0 0) = (M.1 13 1 0 0) := by
    rcases h1 with ⟨x1, C1, ⟨hc, q1, q2, q3⟩, e1, eM⟩ | ⟨j, E, hj, hp, e1, -, eM⟩
    · have ek : k = 0 := ik_eq ⟨by omega, by omega⟩ (by decide) e1
      rcases h2 with ⟨hw, -, -⟩ | ⟨-, e2, hP⟩
      · exfalso; revert hw; split <;> first | (intro hw; omega) | (split <;> first | (intro hw; omega) | (split <;> (intro hw; omega)))
      · have f1 : Ag (cM [90, 91] []) C1 M1 := by rw [eM]; exact wrI_ag _ _
        have Fs := s_align hI1 f1 q3 hP
        have ex := Option.some.inj q1
        refine ⟨by rw [ek]; exact Fs.2.1, fun _ => ?_, Fs.1, ?_⟩
        · rw [Fs.2.2.1, eM, ex, wrI_i, iv_eq e2]
        · rw [Fs.2.2.2.2, (m_align q3).2]
    · have hjl : j < 2 := (List.getElem?_eq_some_iff.mp hj).1
      have ek : k = (j : Int) + 1 := ik_eq ⟨by omega, by omega⟩ ⟨by omega, by omega⟩ e1
      rcases es2 hj with ⟨ej, eE⟩ | ⟨ej, eE⟩ <;> subst eE
      all_goals rcases hp with ⟨he, hp⟩ | ⟨he, hp⟩ | ⟨he, hp⟩ | ⟨he, hp⟩
      all_goals first | exact absurd he (by decide) | skip
      all_goals
        rcases h2 with ⟨hw, -, eM2⟩ | ⟨hw, -, -⟩
        · refine ⟨?_, fun hk0 => by omega, by rw [eM2, eM]; exact hI.refused, ?_⟩
          · rw [eM2, ref_46]
            split <;> first | omega | (split <;> first | omega | (split <;> omega))
          · rw [eM2, ref_cap, eM]
        · exfalso; revert hw; split <;> first | (intro hw; omega) | (split <;> first | (intro hw; omega) | (split <;> (intro hw; omega)))
  exact g_tailI X hNL hN (by show cl + 4 + 0 ≤ 601024; omega) (by show sl + 24 + 0 ≤ 7293034; omega) dL_law_829 dL_law_830 dL_law_833 dL_law_835 dL_law_840 dL_law_842 dL_law_845 dL_law_846 dL_law_847 dL_law_848 dL_law_850 dL_law_851 dL_law_852 dL_law_857 (by decide) ⟨by omega, by omega⟩ F.1 F.2.1 (hk ad2 M2 _ _ F.2.2.1 (by show cl + 4 + 0 ≤ _; omega) (by rw [F.2.2.2]; show sl + 24 + 0 ≤ _; omega))
set_option maxRecDepth 100000 in
set_option maxHeartbeats 4000000 in
theorem k_alike {κ : Kx} {nm : List (Nat × Int)} {ad : Ad} {M : Mem} {b L : Nat} {xs : Nat → Int32} {n : Int} {cl sl : Nat} (X : Cx κ cL_law RL room_1) (hNL : kN κ = 9) (S : Scr κ b L xs) (hN : NmOk nm) (hm : NmM nm) (hI : Inv n M M) (n0 : 0 ≤ n) (n1 : 6 * n + 6 ≤ (L : Int)) (hcl : cl ≤ 2000 + 8 * n.toNat) (hsl : sl ≤ 900000 + 32 * n.toNat + 6 * ((M.1 13 1 0 0)).toNat) (hk : Goon κ nm b n) : G κ nm ad M 860 [some (.ref b), some (.ref (ad 0 0)), some (.ref (ad 40 0)), some (.ref (ad 90 0)), some (.ref (ad 91 0)), some (.int (iI (6 * n))), none, none, none] [] cl sl := by
  have hL := S.2.2.2
  have hR := hI.1
  have hV := hI.2.1
  have hZ := hI.2.2.1
  have hH := hI.2.2.2.1
  have hE := hI.2.2.2.2.1
  have hK := hI.2.2.2.2.2
  have hcap : 120 ≤ (M.1 13 1 0 0) ∧ (M.1 13 1 0 0) ≤ 61440 := by have := hK.cap.2.2.1; omega
  have hcc := hK.cc
  have hec := hE.ec
  have hn : n ≤ 511 := by omega
  have hrc := hR.rc
  have hvc := hV.vc
  have hrgc := hH.rc
  have hsc := hZ.sc
  refine g_rm (fun hM => ?_)
  refine g_aload_n X dL_law_860 rfl rfl ?_
  refine g_arg X S dL_law_861 dL_law_862 dL_law_864 dL_law_865 dL_law_866 rfl rfl rfl (by omega) (by omega) ?_
  refine g_arg X S dL_law_867 dL_law_868 dL_law_870 dL_law_871 dL_law_872 rfl rfl rfl (by omega) (by omega) ?_
  refine g_arg X S dL_law_873 dL_law_874 dL_law_876 dL_law_877 dL_law_878 rfl rfl rfl (by omega) (by omega) ?_
  refine g_arg X S dL_law_879 dL_law_880 dL_law_882 dL_law_883 dL_law_884 rfl rfl rfl (by omega) (by omega) ?_
  refine g_aload X dL_law_885 rfl rfl ?_
  have db := dist_b ((M.2 18 0 (sc xs (6 * n + 1)) (sc xs (6 * n + 2)))) ((M.2 18 0 (sc xs (6 * n + 3)) (sc xs (6 * n + 4))))
  have ad_ := alk_f2d db.1 db.2
  refine g_invL (mc := 4) (ms := 24) X wl_L_alike ml_L_156 ⟨⟨Nat.le_of_ble_eq_true rfl, Nat.le_of_ble_eq_true rfl⟩, by show cl + 4 ≤ 601024; omega, by show sl + 24 ≤ 7293034; omega⟩ dL_law_887 rfl (As := [.ref (ad 0 0), .int (iI (sc xs (6 * n + 1))), .int (iI (sc xs (6 * n + 2))), .int (iI (sc xs (6 * n + 3))), .int (iI (sc xs (6 * n + 4))), .ref (ad 91 0)]) (rest := []) rfl rfl (Nat.le_of_ble_eq_true rfl) (c_L_alike hN (c_X11_alike hN (sc_rng _ _) (sc_rng _ _) (sc_rng _ _) (sc_rng _ _) hR.rc hR.rd) (fun v ad' M' h => ⟨by rw [h.2.2.1], _, h.2.1, ad_.1⟩) (fun E h => by rcases h with h | h | h | h <;> rw [h.1] <;> simp)) (fun v1 ad1 M1 h1 => ?_)
  have hcm : (∃ k : Int, 0 ≤ k ∧ k ≤ 3 ∧ v1 = some (.int (iI k))) ∧ (ad1 0 0 = ad 0 0 ∧ ad1 40 0 = ad 40 0 ∧ ad1 90 0 = ad 90 0 ∧ ad1 91 0 = ad 91 0) ∧ Inv n M M1 := by
    rcases h1 with ⟨x1, C1, ⟨hc, q1, q2, q3⟩, e1, eM⟩ | ⟨j, E, hj, hp, e1, e2, eM⟩
    · exact ⟨⟨0, by omega, by omega, e1⟩, by rw [q2]; exact ⟨rfl, rfl, rfl, rfl⟩, hI.ag (Ag.rf M) ((m_none q3).1.tr (by rw [eM]; exact cM9_kMo (wrD_ag _ _)))⟩
    · have hjl : j < 1 := (List.getElem?_eq_some_iff.mp hj).1
      rw [e2, eM]
      exact ⟨⟨(j : Int) + 1, by omega, by omega, e1⟩, ⟨rfl, rfl, rfl, rfl⟩, hI⟩
  obtain ⟨⟨k, k0, k3, ev⟩, ⟨ea0, ea40, ea90, ea91⟩, hI1⟩ := hcm
  subst ev
  rw [← ea0, ← ea40, ← ea90, ← ea91]
  show G κ nm ad1 M1 890 [some (.ref b), some (.ref (ad1 0 0)), some (.ref (ad1 40 0)), some (.ref (ad1 90 0)), some (.ref (ad1 91 0)), some (.int (iI (6 * n))), none, none, none] [.int (iI k)] _ _
  refine g_istore_6 X dL_law_890 rfl (lt_kN hNL rfl) rfl ?_
  refine g_aload_n X dL_law_892 rfl rfl ?_
  refine g_arg X S dL_law_893 dL_law_894 dL_law_896 dL_law_897 dL_law_898 rfl rfl rfl (by omega) (by omega) ?_
  refine g_arg X S dL_law_899 dL_law_900 dL_law_902 dL_law_903 dL_law_904 rfl rfl rfl (by omega) (by omega) ?_
  refine g_arg X S dL_law_905 dL_law_906 dL_law_908 dL_law_909 dL_law_910 rfl rfl rfl (by omega) (by omega) ?_
  refine g_arg X S dL_law_911 dL_law_912 dL_law_914 dL_law_915 dL_law_916 rfl rfl rfl (by omega) (by omega) ?_
  refine g_iV4 X w_X12_alike ml_L_159 dL_law_917 rfl (n40 hN) (en40 _ _ _ _) ⟨⟨Nat.le_of_ble_eq_true rfl, Nat.le_of_ble_eq_true rfl⟩, by show cl + 4 + 0 ≤ 601024; omega, by show sl + 24 + 0 ≤ 7293034; omega⟩ (Nat.le_of_ble_eq_true rfl) (c_X12_alike hN hI1.1 (sc_rng _ _) (sc_rng _ _) (sc_rng _ _) (sc_rng _ _)) (fun v2 ad2 M2 h2 => ?_)
  obtain ⟨ea2, h2⟩ := h2
  subst ea2
  have hv2 : ∃ z : UInt32, v2 = some (.float z) := by
    rcases h2 with ⟨-, e, -⟩ | ⟨-, e, -⟩ <;> exact ⟨_, e⟩
  obtain ⟨z, ez⟩ := hv2
  subst ez
  show G κ nm ad2 M2 920 [some (.ref b), some (.ref (ad2 0 0)), some (.ref (ad2 40 0)), some (.ref (ad2 90 0)), some (.ref (ad2 91 0)), some (.int (iI (6 * n))), some (.int (iI k)), none, none] [.float z] _ _
  refine g_fstore_7 X dL_law_920 rfl (lt_kN hNL rfl) rfl ?_
  have F : (M2.1 40 46 0 0) = k ∧ (k = 0 → M2.2 91 0 0 0 = (FP.f2d z).toInt64 ∧ vf_n64 (FP.f2d z) ∧ Op.cmpValue (FP.dcmp (FP.f2d z) (FP.f2d z)) .l = iI 0) ∧ Inv (n + 1) M2 M2 ∧ (M2.1 13 1 0 0) = (M.1 13 1 0 0) := by
    rcases h1 with ⟨x1, C1, ⟨hc, q1, q2, q3⟩, e1, eM⟩ | ⟨j, E, hj, hp, e1, -, eM⟩
    · have ek : k = 0 := ik_eq ⟨by omega, by omega⟩ (by decide) e1
      rcases h2 with ⟨hw, -, -⟩ | ⟨-, e2, hP⟩
      · exfalso; revert hw; split <;> first | (intro hw; omega) | (split <;> first | (intro hw; omega) | (split <;> (intro hw; omega)))
      · have f1 : Ag (cM [90, 91] []) C1 M1 := by rw [eM]; exact wrD_ag _ _
        have Fs := s_none hI1 f1 q3 hP
        have ex := Option.some.inj q1
        refine ⟨by rw [ek]; exact Fs.2.1, fun _ => ?_, Fs.1, ?_⟩
        · rw [Fs.2.2.2.1, eM, ex, wrD_f, fv_eq e2]
          exact ⟨rfl, ad_⟩
        · rw [Fs.2.2.2.2, (m_none q3).2]
    · have hjl : j < 1 := (List.getElem?_eq_some_iff.mp hj).1
      have ek : k = (j : Int) + 1 := ik_eq ⟨by omega, by omega⟩ ⟨by omega, by omega⟩ e1
      obtain ⟨ej, eE⟩ := es1 hj
      subst eE
      all_goals rcases hp with ⟨he, hp⟩ | ⟨he, hp⟩ | ⟨he, hp⟩ | ⟨he, hp⟩
      all_goals first | exact absurd he (by decide) | skip
      all_goals
        rcases h2 with ⟨hw, -, eM2⟩ | ⟨hw, -, -⟩
        · refine ⟨?_, fun hk0 => by omega, by rw [eM2, eM]; exact hI.refused, ?_⟩
          · rw [eM2, ref_46]
            split <;> first | omega | (split <;> first | omega | (split <;> omega))
          · rw [eM2, ref_cap, eM]
        · exfalso; revert hw; split <;> first | (intro hw; omega) | (split <;> first | (intro hw; omega) | (split <;> (intro hw; omega)))
  exact g_tailF X hNL hN (by show cl + 4 + 0 ≤ 601024; omega) (by show sl + 24 + 0 ≤ 7293034; omega) dL_law_922 dL_law_923 dL_law_926 dL_law_928 dL_law_933 dL_law_935 dL_law_938 dL_law_940 dL_law_941 dL_law_942 dL_law_944 dL_law_945 dL_law_946 dL_law_971 (by decide) ⟨by omega, by omega⟩ F.1 F.2.1 (hk ad2 M2 _ _ F.2.2.1 (by show cl + 4 + 0 ≤ _; omega) (by rw [F.2.2.2]; show sl + 24 + 0 ≤ _; omega))
