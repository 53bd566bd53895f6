theorem VOk.cg {C C' : Mem} {u : Int} (h : VOk C u) (e : ∀ (k f : Nat) (j : Int), 22 ≤ k → k ≤ 30 → C'.1 k f u j = C.1 k f u j) (e7 : (C.1 0 7 0 0) ≤ (C'.1 0 7 0 0)) : VOk C' u := by
  have a22 : ∀ f, C'.1 22 f u 0 = C.1 22 f u 0 := fun f => e 22 f 0 (by decide) (by decide)
  have a23 : ∀ j, C'.1 23 0 u j = C.1 23 0 u j := fun j => e 23 0 j (by decide) (by decide)
  have a24 : ∀ j, C'.1 24 0 u j = C.1 24 0 u j := fun j => e 24 0 j (by decide) (by decide)
  have a25 : ∀ j, C'.1 25 0 u j = C.1 25 0 u j := fun j => e 25 0 j (by decide) (by decide)
  have a26 : ∀ j, C'.1 26 0 u j = C.1 26 0 u j := fun j => e 26 0 j (by decide) (by decide)
  have a30 : ∀ j, C'.1 30 0 u j = C.1 30 0 u j := fun j => e 30 0 j (by decide) (by decide)
  unfold VOk at h ⊢
  simp only [a22, a23, a24, a25, a26, a30]
  refine ⟨h.1, h.2.1, h.2.2.1, ⟨h.2.2.2.1.1, ?_⟩, h.2.2.2.2⟩
  have := h.2.2.2.1.2
  omega
theorem RelV.shot {C M : Mem} {n v f t : Int} (h : RelV n C M) (v0 : 0 ≤ v) (v1 : v < (C.1 0 6 0 0)) (hf : 0 ≤ f ∧ f ≤ t ∧ t ≤ 999) (hs : (C.1 22 3 v 0) < 10) (hc : (C.1 22 4 v 0) + t - f + 1 ≤ 120) : RelV n (addShotM C v f t) (shM M v f t) := by
  have ok := h.ok v v0 v1
  have mv := h.mv v v0 v1
  have vc := h.vc
  have s0 := ok.1
  have c0 : ∀ g i j, (addShotM C v f t).1 0 g i j = C.1 0 g i j := fun g i j => by simp [addShotM, setI_1]
  have c22 : ∀ g i, (addShotM C v f t).1 22 g i 0 = if i = v ∧ g = 3 then (C.1 22 3 v 0) + 1 else if i = v ∧ g = 4 then (C.1 22 4 v 0) + (t - f + 1) else C.1 22 g i 0 := fun g i => by
    unfold addShotM
    simp only [setI_1]
    by_cases e : i = v
    · by_cases e3 : g = 3
      · subst e3; simp [e]
      · by_cases e4 : g = 4
        · subst e4; simp [e]
        · simp [e, e3, e4]
    · simp [e]
  have c23 : ∀ i j, (addShotM C v f t).1 23 0 i j = if i = v ∧ j = (C.1 22 3 v 0) then f else C.1 23 0 i j := fun i j => by simp [addShotM, setI_1]
  have c24 : ∀ i j, (addShotM C v f t).1 24 0 i j = if i = v ∧ j = (C.1 22 3 v 0) then t else C.1 24 0 i j := fun i j => by simp [addShotM, setI_1]
  have c25 : ∀ i j, (addShotM C v f t).1 25 0 i j = if i = v ∧ j = (C.1 22 3 v 0) then 16 else C.1 25 0 i j := fun i j => by simp [addShotM, setI_1]
  have c26 : ∀ k, 26 ≤ k → ∀ g i j, (addShotM C v f t).1 k g i j = C.1 k g i j := fun k hk g i j => by
    have : k ≠ 22 ∧ k ≠ 23 ∧ k ≠ 24 ∧ k ≠ 25 := by omega
    simp [addShotM, setI_1, this]
  have m40 : ∀ g, (shM M v f t).1 40 g 0 0 = M.1 40 g 0 0 := fun g => by simp [shM, setI_1]
  have m55 : ∀ i, (shM M v f t).1 55 0 0 i = if i = v then (M.1 55 0 0 v) + 1 else M.1 55 0 0 i := fun i => by simp [shM, setI_1]
  have m56 : ∀ i, (shM M v f t).1 56 0 0 i = if i = 10 * v + (M.1 55 0 0 v) then f else M.1 56 0 0 i := fun i => by simp [shM, setI_1]
  have m57 : ∀ i, (shM M v f t).1 57 0 0 i = if i = 10 * v + (M.1 55 0 0 v) then t else M.1 57 0 0 i := fun i => by simp [shM, setI_1]
  have m58 : ∀ i, (shM M v f t).1 58 0 0 i = if i = 10 * v + (M.1 55 0 0 v) then 16 else M.1 58 0 0 i := fun i => by simp [shM, setI_1]
  have mo : ∀ k, k ≠ 55 → k ≠ 56 → k ≠ 57 → k ≠ 58 → ∀ g i j, (shM M v f t).1 k g i j = M.1 k g i j := fun k h1 h2 h3 h4 g i j => by simp [shM, setI_1, h1, h2, h3, h4]
  have ne : ∀ u, u ≠ v → ∀ (k g : Nat) (j : Int), (addShotM C v f t).1 k g u j = C.1 k g u j := fun u hu k g j => by simp [addShotM, setI_1, hu]
  refine ⟨?_, ?_, ?_, ?_, ?_, ?_, ?_, ?_, ?_⟩
  · rw [c0]; exact vc
  · intro u u0 u1
    rw [c0] at u1
    by_cases e : u = v
    · subst e
      refine ⟨?_, ?_, ?_, ?_, ?_, ?_, ?_⟩
      · rw [c22, if_pos ⟨rfl, rfl⟩]; omega
      · intro s a b
        rw [c22, if_pos ⟨rfl, rfl⟩] at b
        rw [c23, c24, c25]
        by_cases z : s = (C.1 22 3 u 0)
        · rw [if_pos ⟨rfl, z⟩, if_pos ⟨rfl, z⟩, if_pos ⟨rfl, z⟩]; omega
        · rw [if_neg (fun q => z q.2), if_neg (fun q => z q.2), if_neg (fun q => z q.2)]
          exact ok.2.1 s a (by omega)
      · have e4 : (addShotM C u f t).1 22 4 u 0 = (C.1 22 4 u 0) + (t - f + 1) := by rw [c22, if_neg (by omega), if_pos ⟨rfl, rfl⟩]
        have e3 : (addShotM C u f t).1 22 3 u 0 = (C.1 22 3 u 0) + 1 := by rw [c22, if_pos ⟨rfl, rfl⟩]
        rw [e4, e3]
        have o3 := ok.2.2.1
        refine ⟨?_, by omega, by omega⟩
        rw [sm_s _ s0.1, c23, c24, if_pos ⟨rfl, rfl⟩, if_pos ⟨rfl, rfl⟩, o3.1]
        refine congrArg (fun z => z + (t - f + 1)) (sm_c (fun k k0 k1 => ?_))
        show (C.1 24 0 u k) - (C.1 23 0 u k) + 1 = (addShotM C u f t).1 24 0 u k - (addShotM C u f t).1 23 0 u k + 1
        rw [c23, c24, if_neg (by omega), if_neg (by omega)]
      · rw [c22, if_neg (by omega), if_neg (by omega), c0]; exact ok.2.2.2.1
      · intro k a b
        rw [c22, if_neg (by omega), if_neg (by omega)] at b
        rw [c26 26 (by decide)]; exact ok.2.2.2.2.1 k a b
      · rw [c22, if_neg (by omega), if_neg (by omega)]; exact ok.2.2.2.2.2.1
      · intro k a b
        rw [c26 30 (by decide)]; exact ok.2.2.2.2.2.2 k a b
    · exact (h.ok u u0 u1).cg (fun k g j _ _ => ne u e k g j) (by rw [c0]; exact Int.le_refl _)
  · intro u u0 u1
    rw [c22, if_neg (by omega), if_neg (by omega)]; exact h.pn u u0 u1
  · intro u u0 u1
    rw [c0] at u0
    have := h.new u u0 u1
    have e : u ≠ v := by omega
    rw [ne u e, ne u e, ne u e, ne u e]
    exact ⟨this.1, this.2.1, this.2.2.1, this.2.2.2.1, fun k a b => by rw [ne u e]; exact this.2.2.2.2 k a b⟩
  · rw [c0, m40]; exact h.e
  · intro u u0 u1
    rw [c0] at u1
    have := h.mv u u0 u1
    rw [mo 52 (by decide) (by decide) (by decide) (by decide), mo 53 (by decide) (by decide) (by decide) (by decide), mo 54 (by decide) (by decide) (by decide) (by decide), m55]
    by_cases e : u = v
    · subst e
      rw [if_pos rfl, c22 0, c22 1, c22 2, c22 3, if_neg (by omega), if_neg (by omega), if_neg (by omega), if_neg (by omega), if_neg (by omega), if_neg (by omega), if_pos ⟨rfl, rfl⟩]
      exact ⟨this.1, this.2.1, this.2.2.1, by omega⟩
    · rw [if_neg e, ne u e, ne u e, ne u e, ne u e]; exact this
  · intro u u0 u1
    rw [c0] at u0
    have := h.mn u u0 u1
    rw [mo 54 (by decide) (by decide) (by decide) (by decide), m55, if_neg (by omega)]; exact this
  · intro u s u0 u1 s0' s1
    rw [c0] at u1
    rw [m56, m57, m58]
    by_cases e : u = v
    · subst e
      rw [c22, if_pos ⟨rfl, rfl⟩] at s1
      rw [c23, c24, c25]
      by_cases z : s = (C.1 22 3 u 0)
      · refine ⟨?_, ?_, ?_⟩ <;> rw [if_pos (show 10 * u + s = 10 * u + (M.1 55 0 0 u) by omega), if_pos (show u = u ∧ s = (C.1 22 3 u 0) from ⟨rfl, z⟩)]
      · have q := h.sh u s u0 u1 s0' (by omega)
        refine ⟨?_, ?_, ?_⟩ <;> rw [if_neg (show ¬ 10 * u + s = 10 * u + (M.1 55 0 0 u) by omega), if_neg (show ¬ (u = u ∧ s = (C.1 22 3 u 0)) from fun y => z y.2)]
        · exact q.1
        · exact q.2.1
        · exact q.2.2
    · rw [ne u e] at s1
      have b1 := (h.ok u u0 u1).1
      rw [ne u e, ne u e, ne u e, if_neg (by omega), if_neg (by omega), if_neg (by omega)]
      exact h.sh u s u0 u1 s0' s1
  · intro u k u0 u1 k0 k1
    rw [mo 59 (by decide) (by decide) (by decide) (by decide), c26 30 (by decide)]; exact h.al u k u0 u1 k0 k1
set_option maxRecDepth 100000 in
set_option maxHeartbeats 4000000 in
theorem c_X12_shot {δ : Dx} {nm : List (Nat × Int)} {ad : Ad} {M : Mem} {C : Mem} {n : Int} {v f t : Int} (hN : NmOk nm) (hV : RelV n C M) (rv : rng v) (rf : rng f) (rt : rng t) : Ct δ md_X12_shot 0 0 nm ad M [.ref (ad 40 0), .int (iI v), .int (iI f), .int (iI t)] (pRf (if ¬ (0 ≤ v ∧ v < (C.1 0 6 0 0)) then 1 else if ¬ ((0 ≤ f ∧ f ≤ 999) ∧ (f ≤ t ∧ t ≤ 999)) then 2 else if (C.1 22 3 v 0) = 10 ∨ 120 < (C.1 22 4 v 0) + t - f + 1 then 3 else 0) (.int (iI (-1))) (.int (iI ((C.1 22 4 v 0) + (t - f + 1)))) ad M (fun M' => M' = shM (setI M 40 46 0 0 0) v f t)) := by
  refine Ct_of (ins := .ireturn) (ok := okI) [some (.ref (ad 40 0)), some (.int (iI v)), some (.int (iI f)), some (.int (iI t)), none, none, none] (by decide +kernel) rfl (Nat.le_of_ble_eq_true rfl) (fun κ s hs X hr hQ hδ => endI rfl hs X hr hQ hδ) (fun κ X hNL hδ Y => ?_)
  refine g_rm (fun hM => ?_)
  have vc := hV.vc
  have ve := hV.e
  refine g_cutB 29 ((0 ≤ f ∧ f ≤ 999) ∧ (f ≤ t ∧ t ≤ 999)) (fun ct0 cf0 => ?_) ?_
  · skip
    refine g_aload_n X dX12_shot_0 rfl rfl ?_
    refine g_iload_n X dX12_shot_1 rfl rfl ?_
    refine g_iconst X dX12_shot_2 rfl ?_
    refine g_sipush X dX12_shot_3 rfl (by decide) ?_
    refine g_iV3_v X w_X12_in ml_X12_146 dX12_shot_6 rfl (n40 hN) (en40 _ _ _ _) ⟨⟨Nat.le_of_ble_eq_true rfl, Nat.le_of_ble_eq_true rfl⟩, Nat.le_of_ble_eq_true rfl, Nat.le_of_ble_eq_true rfl⟩ (Nat.le_of_ble_eq_true rfl) (c_X12_in hN (by omega) (by omega) (by omega)) ?_
    refine g_ifB_eq (tgt := 28) X dX12_shot_9 rfl rfl (fun h9 => ?_) (fun h9 => ?_)
    · skip
      refine g_iconst X dX12_shot_28 rfl ?_
      exact cf0 (by omega)
    · skip
      refine g_aload_n X dX12_shot_12 rfl rfl ?_
      refine g_iload_n X dX12_shot_13 rfl rfl ?_
      refine g_iload_n X dX12_shot_14 rfl rfl ?_
      refine g_sipush X dX12_shot_15 rfl (by decide) ?_
      refine g_iV3_v X w_X12_in ml_X12_146 dX12_shot_18 rfl (n40 hN) (en40 _ _ _ _) ⟨⟨Nat.le_of_ble_eq_true rfl, Nat.le_of_ble_eq_true rfl⟩, Nat.le_of_ble_eq_true rfl, Nat.le_of_ble_eq_true rfl⟩ (Nat.le_of_ble_eq_true rfl) (c_X12_in hN (by omega) (by omega) (by omega)) ?_
      refine g_ifB_eq (tgt := 28) X dX12_shot_21 rfl rfl (fun h21 => ?_) (fun h21 => ?_)
      · skip
        refine g_iconst X dX12_shot_28 rfl ?_
        exact cf0 (by omega)
      · skip
        refine g_iconst X dX12_shot_24 rfl ?_
        refine g_goto (pc' := 29) X dX12_shot_25 rfl ?_
        exact ct0 (by omega)
  · skip
    refine g_istore_4 X dX12_shot_29 rfl (lt_kN hNL rfl) rfl ?_
    refine g_cutI 84 (if ¬ (0 ≤ v ∧ v < (C.1 0 6 0 0)) then 1 else if ¬ ((0 ≤ f ∧ f ≤ 999) ∧ (f ≤ t ∧ t ≤ 999)) then 2 else if (C.1 22 3 v 0) = 10 ∨ 120 < (C.1 22 4 v 0) + t - f + 1 then 3 else 0) (fun ci31 => ?_) ?_
    · skip
      refine g_aload_n X dX12_shot_31 rfl rfl ?_
      refine g_iload_n X dX12_shot_32 rfl rfl ?_
      refine g_iV1_v X w_X12_isVersion ml_X12_222 dX12_shot_33 rfl (n40 hN) (en40 _ _ _ _) ⟨⟨Nat.le_of_ble_eq_true rfl, Nat.le_of_ble_eq_true rfl⟩, Nat.le_of_ble_eq_true rfl, Nat.le_of_ble_eq_true rfl⟩ (Nat.le_of_ble_eq_true rfl) (c_X12_isVersion hN (by omega) (by omega)) ?_
      refine g_ifB_ne (tgt := 43) X dX12_shot_36 rfl rfl (fun h36 => ?_) (fun h36 => ?_)
      · skip
        refine g_iload X dX12_shot_43 rfl rfl ?_
        refine g_ifB_ne (tgt := 52) X dX12_shot_45 rfl rfl (fun h45 => ?_) (fun h45 => ?_)
        · skip
          have mv := hV.mv v (by omega) (by omega)
          have ok := hV.ok v (by omega) (by omega)
          have o3 := ok.2.2.1
          have s0 := ok.1
          refine g_aload_n X dX12_shot_52 rfl rfl ?_
          refine g_get X ci12 (n40 hN) (en40 _ _ _ _) (by decide) fl_X12_60 rfl dX12_shot_53 rfl ?_
          refine g_iload_n X dX12_shot_56 rfl rfl ?_
          refine g_iald X dX12_shot_57 rfl (n55 hN) (en55 _ _ _ _) (t0 := 0) rfl (by omega) (by omega) (by decide) (fun r57 => ?_)
          refine g_bipush X dX12_shot_58 rfl (by decide) ?_
          refine g_icmp_eq (tgt := 79) X dX12_shot_60 rfl rfl (by omega) (by omega) (fun h60 => ?_) (fun h60 => ?_)
          · skip
            refine g_iconst X dX12_shot_79 rfl ?_
            refine g_goto (pc' := 84) X dX12_shot_80 rfl ?_
            exact ci31 _ (by omega)
          · skip
            refine g_aload_n X dX12_shot_63 rfl rfl ?_
            refine g_iload_n X dX12_shot_64 rfl rfl ?_
            refine g_iV1_v X w_X12_codes ml_X12_225 dX12_shot_65 rfl (n40 hN) (en40 _ _ _ _) ⟨⟨Nat.le_of_ble_eq_true rfl, Nat.le_of_ble_eq_true rfl⟩, Nat.le_of_ble_eq_true rfl, Nat.le_of_ble_eq_true rfl⟩ (Nat.le_of_ble_eq_true rfl) (c_X12_codes hN hV (by omega) (by omega)) ?_
            refine g_iload_n X dX12_shot_68 rfl rfl ?_
            refine g_iadd X dX12_shot_69 rfl ?_
            refine g_iload_n X dX12_shot_70 rfl rfl ?_
            refine g_isub X dX12_shot_71 rfl ?_
            refine g_iconst X dX12_shot_72 rfl ?_
            refine g_iadd X dX12_shot_73 rfl ?_
            refine g_bipush X dX12_shot_74 rfl (by decide) ?_
            refine g_icmp_le (tgt := 83) X dX12_shot_76 rfl rfl (by omega) (by omega) (fun h76 => ?_) (fun h76 => ?_)
            · skip
              refine g_iconst X dX12_shot_83 rfl ?_
              exact ci31 _ (by omega)
            · skip
              refine g_iconst X dX12_shot_79 rfl ?_
              refine g_goto (pc' := 84) X dX12_shot_80 rfl ?_
              exact ci31 _ (by omega)
        · skip
          refine g_iconst X dX12_shot_48 rfl ?_
          refine g_goto (pc' := 84) X dX12_shot_49 rfl ?_
          exact ci31 _ (by omega)
      · skip
        refine g_iconst X dX12_shot_39 rfl ?_
        refine g_goto (pc' := 84) X dX12_shot_40 rfl ?_
        exact ci31 _ (by omega)
    · skip
      refine g_istore_5 X dX12_shot_84 rfl (lt_kN hNL rfl) rfl ?_
      refine g_aload_n X dX12_shot_86 rfl rfl ?_
      refine g_iload X dX12_shot_87 rfl rfl ?_
      refine g_iV1_v X w_X12_holds ml_X12_158 dX12_shot_89 rfl (n40 hN) (en40 _ _ _ _) ⟨⟨Nat.le_of_ble_eq_true rfl, Nat.le_of_ble_eq_true rfl⟩, Nat.le_of_ble_eq_true rfl, Nat.le_of_ble_eq_true rfl⟩ (Nat.le_of_ble_eq_true rfl) (c_X12_holds hN (by omega)) ?_
      refine g_ifB_eq (tgt := 97) X dX12_shot_92 rfl rfl (fun h92 => ?_) (fun h92 => ?_)
      · skip
        have w0 : (if ¬ (0 ≤ v ∧ v < (C.1 0 6 0 0)) then 1 else if ¬ ((0 ≤ f ∧ f ≤ 999) ∧ (f ≤ t ∧ t ≤ 999)) then 2 else if (C.1 22 3 v 0) = 10 ∨ 120 < (C.1 22 4 v 0) + t - f + 1 then 3 else 0 : Int) = 0 := by omega
        rw [w0]
        have mv := hV.mv v (by omega) (by omega)
        have ok := hV.ok v (by omega) (by omega)
        have s0 := ok.1
        refine g_bipush X dX12_shot_97 rfl (by decide) ?_
        refine g_iload_n X dX12_shot_99 rfl rfl ?_
        refine g_imul X dX12_shot_100 rfl ?_
        refine g_aload_n X dX12_shot_101 rfl rfl ?_
        refine g_get X ci12 (n40 hN) (en40 _ _ _ _) (by decide) fl_X12_60 rfl dX12_shot_102 rfl ?_
        refine g_iload_n X dX12_shot_105 rfl rfl ?_
        refine g_iald X dX12_shot_106 rfl (n55 hN) (en55 _ _ _ _) (t0 := 0) rfl (by first | omega | (simp only [setI_1, setL_1, setI_2, setL_2]; omega) | (simp only [setI_1, setL_1, setI_2, setL_2]; simp; omega)) (by first | omega | (simp only [setI_1, setL_1, setI_2, setL_2]; omega) | (simp only [setI_1, setL_1, setI_2, setL_2]; simp; omega)) (by decide) (fun r106 => ?_)
        refine g_int (b := M.1 55 0 0 v) rfl ?_
        have r106x := hM 55 0 0 v
        refine g_iadd X dX12_shot_107 rfl ?_
        refine g_istore_6 X dX12_shot_108 rfl (lt_kN hNL rfl) rfl ?_
        refine g_aload_n X dX12_shot_110 rfl rfl ?_
        refine g_get X ci12 (n40 hN) (en40 _ _ _ _) (by decide) fl_X12_63 rfl dX12_shot_111 rfl ?_
        refine g_iload X dX12_shot_114 rfl rfl ?_
        refine g_iload_n X dX12_shot_116 rfl rfl ?_
        refine g_iast X (n56 hN) (en56 _ _ _ _) (en56 _ _ _ _) (t0 := 0) rfl (by first | omega | (simp only [setI_1, setL_1, setI_2, setL_2]; omega) | (simp only [setI_1, setL_1, setI_2, setL_2]; simp; omega)) (by first | omega | (simp only [setI_1, setL_1, setI_2, setL_2]; omega) | (simp only [setI_1, setL_1, setI_2, setL_2]; simp; omega)) (by decide) (by first | omega | (simp only [setI_1, setL_1, setI_2, setL_2]; omega) | (simp only [setI_1, setL_1, setI_2, setL_2]; simp; omega)) dX12_shot_117 rfl ?_
        refine g_aload_n X dX12_shot_118 rfl rfl ?_
        refine g_get X ci12 (n40 hN) (en40 _ _ _ _) (by decide) fl_X12_66 rfl dX12_shot_119 rfl ?_
        refine g_iload X dX12_shot_122 rfl rfl ?_
        refine g_iload_n X dX12_shot_124 rfl rfl ?_
        refine g_iast X (n57 hN) (en57 _ _ _ _) (en57 _ _ _ _) (t0 := 0) rfl (by first | omega | (simp only [setI_1, setL_1, setI_2, setL_2]; omega) | (simp only [setI_1, setL_1, setI_2, setL_2]; simp; omega)) (by first | omega | (simp only [setI_1, setL_1, setI_2, setL_2]; omega) | (simp only [setI_1, setL_1, setI_2, setL_2]; simp; omega)) (by decide) (by first | omega | (simp only [setI_1, setL_1, setI_2, setL_2]; omega) | (simp only [setI_1, setL_1, setI_2, setL_2]; simp; omega)) dX12_shot_125 rfl ?_
        refine g_aload_n X dX12_shot_126 rfl rfl ?_
        refine g_get X ci12 (n40 hN) (en40 _ _ _ _) (by decide) fl_X12_69 rfl dX12_shot_127 rfl ?_
        refine g_iload X dX12_shot_130 rfl rfl ?_
        refine g_bipush X dX12_shot_132 rfl (by decide) ?_
        refine g_iast X (n58 hN) (en58 _ _ _ _) (en58 _ _ _ _) (t0 := 0) rfl (by first | omega | (simp only [setI_1, setL_1, setI_2, setL_2]; omega) | (simp only [setI_1, setL_1, setI_2, setL_2]; simp; omega)) (by first | omega | (simp only [setI_1, setL_1, setI_2, setL_2]; omega) | (simp only [setI_1, setL_1, setI_2, setL_2]; simp; omega)) (by decide) (by first | omega | (simp only [setI_1, setL_1, setI_2, setL_2]; omega) | (simp only [setI_1, setL_1, setI_2, setL_2]; simp; omega)) dX12_shot_134 rfl ?_
        refine g_aload_n X dX12_shot_135 rfl rfl ?_
        refine g_get X ci12 (n40 hN) (en40 _ _ _ _) (by decide) fl_X12_60 rfl dX12_shot_136 rfl ?_
        refine g_iload_n X dX12_shot_139 rfl rfl ?_
        refine g_dup2 X dX12_shot_140 rfl rfl rfl ?_
        refine g_iald X dX12_shot_141 rfl (n55 hN) (en55 _ _ _ _) (t0 := 0) rfl (by first | omega | (simp only [setI_1, setL_1, setI_2, setL_2]; omega) | (simp only [setI_1, setL_1, setI_2, setL_2]; simp; omega)) (by first | omega | (simp only [setI_1, setL_1, setI_2, setL_2]; omega) | (simp only [setI_1, setL_1, setI_2, setL_2]; simp; omega)) (by decide) (fun r141 => ?_)
        refine g_int (b := M.1 55 0 0 v) rfl ?_
        have r141x := hM 55 0 0 v
        refine g_iconst X dX12_shot_142 rfl ?_
        refine g_iadd X dX12_shot_143 rfl ?_
        refine g_iast X (n55 hN) (en55 _ _ _ _) (en55 _ _ _ _) (t0 := 0) rfl (by first | omega | (simp only [setI_1, setL_1, setI_2, setL_2]; omega) | (simp only [setI_1, setL_1, setI_2, setL_2]; simp; omega)) (by first | omega | (simp only [setI_1, setL_1, setI_2, setL_2]; omega) | (simp only [setI_1, setL_1, setI_2, setL_2]; simp; omega)) (by decide) (by first | omega | (simp only [setI_1, setL_1, setI_2, setL_2]; omega) | (simp only [setI_1, setL_1, setI_2, setL_2]; simp; omega)) dX12_shot_144 rfl ?_
        have hV2 := (hV.th (z := 0)).shot (v := v) (f := f) (t := t) (by omega) (by omega) (by omega) (by omega) (by omega)
        have e6 : (((addShotM C v f t)).1 0 6 0 0) = (C.1 0 6 0 0) := by simp [addShotM, setI_1]
        refine g_aload_n X dX12_shot_145 rfl rfl ?_
        refine g_iload_n X dX12_shot_146 rfl rfl ?_
        refine g_iV1_v X w_X12_codes ml_X12_225 dX12_shot_147 rfl (n40 hN) (en40 _ _ _ _) ⟨⟨Nat.le_of_ble_eq_true rfl, Nat.le_of_ble_eq_true rfl⟩, Nat.le_of_ble_eq_true rfl, Nat.le_of_ble_eq_true rfl⟩ (Nat.le_of_ble_eq_true rfl) (c_X12_codes (C := addShotM C v f t) hN hV2 (by omega) (by omega)) ?_
        refine g_int (b := (C.1 22 4 v 0) + (t - f + 1)) (by simp [addShotM, setI_1]) ?_
        exact g_ret Y dX12_shot_150 ⟨_, rfl⟩ (pRo w0 rfl)
      · skip
        refine g_iconst X dX12_shot_95 rfl ?_
        exact g_ret Y dX12_shot_96 ⟨_, rfl⟩ (pRx (by assumption))
set_option maxRecDepth 100000 in
set_option maxHeartbeats 4000000 in
theorem c_X12_right {δ : Dx} {nm : List (Nat × Int)} {ad : Ad} {M : Mem} {C : Mem} {n : Int} {v h l f t : Int} (hN : NmOk nm) (hV : RelV n C M) (hH : RelH C M) (rv : rng v) (rh : rng h) (rl : rng l) (rf : rng f) (rt : rng t) : Ct δ md_X12_right 0 0 nm ad M [.ref (ad 40 0), .int (iI v), .int (iI h), .int (iI l), .int (iI f), .int (iI t)] (pRf (if ¬ ((0 ≤ v ∧ v < (C.1 0 6 0 0)) ∧ (0 ≤ h ∧ h ≤ 9)) then 1 else if ¬ ((0 ≤ l ∧ l ≤ 3) ∧ (1890 ≤ f ∧ f ≤ 2200) ∧ (f ≤ t ∧ t ≤ 2200)) then 2 else if (C.1 0 7 0 0) = 40 then 3 else 0) (.int (iI (-1))) (.int (iI ((C.1 22 8 v 0) + 1))) ad M (fun M' => M' = rgM (setI M 40 46 0 0 0) v h l f t)) := by
  refine Ct_of (ins := .ireturn) (ok := okI) [some (.ref (ad 40 0)), some (.int (iI v)), some (.int (iI h)), some (.int (iI l)), some (.int (iI f)), some (.int (iI t)), none, none, none, none] (by decide +kernel) rfl (Nat.le_of_ble_eq_true rfl) (fun κ s hs X hr hQ hδ => endI rfl hs X hr hQ hδ) (fun κ X hNL hδ Y => ?_)
  refine g_rm (fun hM => ?_)
  have vc := hV.vc
  have ve := hV.e
  have rc := hH.rc
  have he := hH.e
  refine g_cutB 24 ((0 ≤ v ∧ v < (C.1 0 6 0 0)) ∧ (0 ≤ h ∧ h ≤ 9)) (fun ct0 cf0 => ?_) ?_
  · skip
    refine g_aload_n X dX12_right_0 rfl rfl ?_
    refine g_iload_n X dX12_right_1 rfl rfl ?_
    refine g_iV1_v X w_X12_isVersion ml_X12_222 dX12_right_2 rfl (n40 hN) (en40 _ _ _ _) ⟨⟨Nat.le_of_ble_eq_true rfl, Nat.le_of_ble_eq_true rfl⟩, Nat.le_of_ble_eq_true rfl, Nat.le_of_ble_eq_true rfl⟩ (Nat.le_of_ble_eq_true rfl) (c_X12_isVersion hN (by omega) (by omega)) ?_
    refine g_ifB_eq (tgt := 23) X dX12_right_5 rfl rfl (fun h5 => ?_) (fun h5 => ?_)
    · skip
      refine g_iconst X dX12_right_23 rfl ?_
      exact cf0 (by omega)
    · skip
      refine g_aload_n X dX12_right_8 rfl rfl ?_
      refine g_iload_n X dX12_right_9 rfl rfl ?_
      refine g_iconst X dX12_right_10 rfl ?_
      refine g_bipush X dX12_right_11 rfl (by decide) ?_
      refine g_iV3_v X w_X12_in ml_X12_146 dX12_right_13 rfl (n40 hN) (en40 _ _ _ _) ⟨⟨Nat.le_of_ble_eq_true rfl, Nat.le_of_ble_eq_true rfl⟩, Nat.le_of_ble_eq_true rfl, Nat.le_of_ble_eq_true rfl⟩ (Nat.le_of_ble_eq_true rfl) (c_X12_in hN (by omega) (by omega) (by omega)) ?_
      refine g_ifB_eq (tgt := 23) X dX12_right_16 rfl rfl (fun h16 => ?_) (fun h16 => ?_)
      · skip
        refine g_iconst X dX12_right_23 rfl ?_
        exact cf0 (by omega)
      · skip
        refine g_iconst X dX12_right_19 rfl ?_
        refine g_goto (pc' := 24) X dX12_right_20 rfl ?_
        exact ct0 (by omega)
  · skip
    refine g_istore_6 X dX12_right_24 rfl (lt_kN hNL rfl) rfl ?_
    refine g_cutB 70 ((0 ≤ l ∧ l ≤ 3) ∧ (1890 ≤ f ∧ f ≤ 2200) ∧ (f ≤ t ∧ t ≤ 2200)) (fun ct26 cf26 => ?_) ?_
    · skip
      refine g_aload_n X dX12_right_26 rfl rfl ?_
      refine g_iload_n X dX12_right_27 rfl rfl ?_
      refine g_iconst X dX12_right_28 rfl ?_
      refine g_iconst X dX12_right_29 rfl ?_
      refine g_iV3_v X w_X12_in ml_X12_146 dX12_right_30 rfl (n40 hN) (en40 _ _ _ _) ⟨⟨Nat.le_of_ble_eq_true rfl, Nat.le_of_ble_eq_true rfl⟩, Nat.le_of_ble_eq_true rfl, Nat.le_of_ble_eq_true rfl⟩ (Nat.le_of_ble_eq_true rfl) (c_X12_in hN (by omega) (by omega) (by omega)) ?_
      refine g_ifB_eq (tgt := 69) X dX12_right_33 rfl rfl (fun h33 => ?_) (fun h33 => ?_)
      · skip
        refine g_iconst X dX12_right_69 rfl ?_
        exact cf26 (by omega)
      · skip
        refine g_aload_n X dX12_right_36 rfl rfl ?_
        refine g_iload X dX12_right_37 rfl rfl ?_
        refine g_sipush X dX12_right_39 rfl (by decide) ?_
        refine g_sipush X dX12_right_42 rfl (by decide) ?_
        refine g_iV3_v X w_X12_in ml_X12_146 dX12_right_45 rfl (n40 hN) (en40 _ _ _ _) ⟨⟨Nat.le_of_ble_eq_true rfl, Nat.le_of_ble_eq_true rfl⟩, Nat.le_of_ble_eq_true rfl, Nat.le_of_ble_eq_true rfl⟩ (Nat.le_of_ble_eq_true rfl) (c_X12_in hN (by omega) (by omega) (by omega)) ?_
        refine g_ifB_eq (tgt := 69) X dX12_right_48 rfl rfl (fun h48 => ?_) (fun h48 => ?_)
        · skip
          refine g_iconst X dX12_right_69 rfl ?_
          exact cf26 (by omega)
        · skip
          refine g_aload_n X dX12_right_51 rfl rfl ?_
          refine g_iload X dX12_right_52 rfl rfl ?_
          refine g_iload X dX12_right_54 rfl rfl ?_
          refine g_sipush X dX12_right_56 rfl (by decide) ?_
          refine g_iV3_v X w_X12_in ml_X12_146 dX12_right_59 rfl (n40 hN) (en40 _ _ _ _) ⟨⟨Nat.le_of_ble_eq_true rfl, Nat.le_of_ble_eq_true rfl⟩, Nat.le_of_ble_eq_true rfl, Nat.le_of_ble_eq_true rfl⟩ (Nat.le_of_ble_eq_true rfl) (c_X12_in hN (by omega) (by omega) (by omega)) ?_
          refine g_ifB_eq (tgt := 69) X dX12_right_62 rfl rfl (fun h62 => ?_) (fun h62 => ?_)
          · skip
            refine g_iconst X dX12_right_69 rfl ?_
            exact cf26 (by omega)
          · skip
            refine g_iconst X dX12_right_65 rfl ?_
            refine g_goto (pc' := 70) X dX12_right_66 rfl ?_
            exact ct26 (by omega)
    · skip
      refine g_istore_7 X dX12_right_70 rfl (lt_kN hNL rfl) rfl ?_
      refine g_aload_n X dX12_right_72 rfl rfl ?_
      refine g_cutI 105 (if ¬ ((0 ≤ v ∧ v < (C.1 0 6 0 0)) ∧ (0 ≤ h ∧ h ≤ 9)) then 1 else if ¬ ((0 ≤ l ∧ l ≤ 3) ∧ (1890 ≤ f ∧ f ≤ 2200) ∧ (f ≤ t ∧ t ≤ 2200)) then 2 else if (C.1 0 7 0 0) = 40 then 3 else 0) (fun ci73 => ?_) ?_
      · skip
        refine g_iload X dX12_right_73 rfl rfl ?_
        refine g_ifB_ne (tgt := 82) X dX12_right_75 rfl rfl (fun h75 => ?_) (fun h75 => ?_)
        · skip
          refine g_iload X dX12_right_82 rfl rfl ?_
          refine g_ifB_ne (tgt := 91) X dX12_right_84 rfl rfl (fun h84 => ?_) (fun h84 => ?_)
          · skip
            refine g_aload_n X dX12_right_91 rfl rfl ?_
            refine g_getI X ci12 (n40 hN) (en40 _ _ _ _) (by decide) fl_X12_246 rfl dX12_right_92 rfl (fun r92 => ?_)
            refine g_bipush X dX12_right_95 rfl (by decide) ?_
            refine g_icmp_ne (tgt := 104) X dX12_right_97 rfl rfl (by omega) (by omega) (fun h97 => ?_) (fun h97 => ?_)
            · skip
              refine g_iconst X dX12_right_104 rfl ?_
              exact ci73 _ (by omega)
            · skip
              refine g_iconst X dX12_right_100 rfl ?_
              refine g_goto (pc' := 105) X dX12_right_101 rfl ?_
              exact ci73 _ (by omega)
          · skip
            refine g_iconst X dX12_right_87 rfl ?_
            refine g_goto (pc' := 105) X dX12_right_88 rfl ?_
            exact ci73 _ (by omega)
        · skip
          refine g_iconst X dX12_right_78 rfl ?_
          refine g_goto (pc' := 105) X dX12_right_79 rfl ?_
          exact ci73 _ (by omega)
      · skip
        refine g_iV1_v X w_X12_holds ml_X12_158 dX12_right_105 rfl (n40 hN) (en40 _ _ _ _) ⟨⟨Nat.le_of_ble_eq_true rfl, Nat.le_of_ble_eq_true rfl⟩, Nat.le_of_ble_eq_true rfl, Nat.le_of_ble_eq_true rfl⟩ (Nat.le_of_ble_eq_true rfl) (c_X12_holds hN (by omega)) ?_
        refine g_ifB_eq (tgt := 113) X dX12_right_108 rfl rfl (fun h108 => ?_) (fun h108 => ?_)
        · skip
          have w0 : (if ¬ ((0 ≤ v ∧ v < (C.1 0 6 0 0)) ∧ (0 ≤ h ∧ h ≤ 9)) then 1 else if ¬ ((0 ≤ l ∧ l ≤ 3) ∧ (1890 ≤ f ∧ f ≤ 2200) ∧ (f ≤ t ∧ t ≤ 2200)) then 2 else if (C.1 0 7 0 0) = 40 then 3 else 0 : Int) = 0 := by omega
          rw [w0]
          refine g_aload_n X dX12_right_113 rfl rfl ?_
          refine g_get X ci12 (n40 hN) (en40 _ _ _ _) (by decide) fl_X12_81 rfl dX12_right_114 rfl ?_
          refine g_aload_n X dX12_right_117 rfl rfl ?_
          refine g_getI X ci12 (n40 hN) (en40 _ _ _ _) (by decide) fl_X12_246 rfl dX12_right_118 rfl (fun r118 => ?_)
          refine g_int (b := M.1 40 31 0 0) rfl ?_
          have r118x := hM 40 31 0 0
          refine g_iload_n X dX12_right_121 rfl rfl ?_
          refine g_iast X (n62 hN) (en62 _ _ _ _) (en62 _ _ _ _) (t0 := 0) rfl (by first | omega | (simp only [setI_1, setL_1, setI_2, setL_2]; omega) | (simp only [setI_1, setL_1, setI_2, setL_2]; simp; omega)) (by first | omega | (simp only [setI_1, setL_1, setI_2, setL_2]; omega) | (simp only [setI_1, setL_1, setI_2, setL_2]; simp; omega)) (by decide) (by first | omega | (simp only [setI_1, setL_1, setI_2, setL_2]; omega) | (simp only [setI_1, setL_1, setI_2, setL_2]; simp; omega)) dX12_right_122 rfl ?_
          refine g_aload_n X dX12_right_123 rfl rfl ?_
          refine g_get X ci12 (n40 hN) (en40 _ _ _ _) (by decide) fl_X12_84 rfl dX12_right_124 rfl ?_
          refine g_aload_n X dX12_right_127 rfl rfl ?_
          refine g_getI X ci12 (n40 hN) (en40 _ _ _ _) (by decide) fl_X12_246 rfl dX12_right_128 rfl (fun r128 => ?_)
          refine g_int (b := M.1 40 31 0 0) rfl ?_
          have r128x := hM 40 31 0 0
          refine g_iload_n X dX12_right_131 rfl rfl ?_
          refine g_iast X (n63 hN) (en63 _ _ _ _) (en63 _ _ _ _) (t0 := 0) rfl (by first | omega | (simp only [setI_1, setL_1, setI_2, setL_2]; omega) | (simp only [setI_1, setL_1, setI_2, setL_2]; simp; omega)) (by first | omega | (simp only [setI_1, setL_1, setI_2, setL_2]; omega) | (simp only [setI_1, setL_1, setI_2, setL_2]; simp; omega)) (by decide) (by first | omega | (simp only [setI_1, setL_1, setI_2, setL_2]; omega) | (simp only [setI_1, setL_1, setI_2, setL_2]; simp; omega)) dX12_right_132 rfl ?_
          refine g_aload_n X dX12_right_133 rfl rfl ?_
          refine g_get X ci12 (n40 hN) (en40 _ _ _ _) (by decide) fl_X12_87 rfl dX12_right_134 rfl ?_
          refine g_aload_n X dX12_right_137 rfl rfl ?_
          refine g_getI X ci12 (n40 hN) (en40 _ _ _ _) (by decide) fl_X12_246 rfl dX12_right_138 rfl (fun r138 => ?_)
          refine g_int (b := M.1 40 31 0 0) rfl ?_
          have r138x := hM 40 31 0 0
          refine g_iload_n X dX12_right_141 rfl rfl ?_
          refine g_iast X (n64 hN) (en64 _ _ _ _) (en64 _ _ _ _) (t0 := 0) rfl (by first | omega | (simp only [setI_1, setL_1, setI_2, setL_2]; omega) | (simp only [setI_1, setL_1, setI_2, setL_2]; simp; omega)) (by first | omega | (simp only [setI_1, setL_1, setI_2, setL_2]; omega) | (simp only [setI_1, setL_1, setI_2, setL_2]; simp; omega)) (by decide) (by first | omega | (simp only [setI_1, setL_1, setI_2, setL_2]; omega) | (simp only [setI_1, setL_1, setI_2, setL_2]; simp; omega)) dX12_right_142 rfl ?_
          refine g_aload_n X dX12_right_143 rfl rfl ?_
          refine g_get X ci12 (n40 hN) (en40 _ _ _ _) (by decide) fl_X12_90 rfl dX12_right_144 rfl ?_
          refine g_aload_n X dX12_right_147 rfl rfl ?_
          refine g_getI X ci12 (n40 hN) (en40 _ _ _ _) (by decide) fl_X12_246 rfl dX12_right_148 rfl (fun r148 => ?_)
          refine g_int (b := M.1 40 31 0 0) rfl ?_
          have r148x := hM 40 31 0 0
          refine g_iload X dX12_right_151 rfl rfl ?_
          refine g_iast X (n65 hN) (en65 _ _ _ _) (en65 _ _ _ _) (t0 := 0) rfl (by first | omega | (simp only [setI_1, setL_1, setI_2, setL_2]; omega) | (simp only [setI_1, setL_1, setI_2, setL_2]; simp; omega)) (by first | omega | (simp only [setI_1, setL_1, setI_2, setL_2]; omega) | (simp only [setI_1, setL_1, setI_2, setL_2]; simp; omega)) (by decide) (by first | omega | (simp only [setI_1, setL_1, setI_2, setL_2]; omega) | (simp only [setI_1, setL_1, setI_2, setL_2]; simp; omega)) dX12_right_153 rfl ?_
          refine g_aload_n X dX12_right_154 rfl rfl ?_
          refine g_get X ci12 (n40 hN) (en40 _ _ _ _) (by decide) fl_X12_93 rfl dX12_right_155 rfl ?_
          refine g_aload_n X dX12_right_158 rfl rfl ?_
          refine g_getI X ci12 (n40 hN) (en40 _ _ _ _) (by decide) fl_X12_246 rfl dX12_right_159 rfl (fun r159 => ?_)
          refine g_int (b := M.1 40 31 0 0) rfl ?_
          have r159x := hM 40 31 0 0
          refine g_iload X dX12_right_162 rfl rfl ?_
          refine g_iast X (n66 hN) (en66 _ _ _ _) (en66 _ _ _ _) (t0 := 0) rfl (by first | omega | (simp only [setI_1, setL_1, setI_2, setL_2]; omega) | (simp only [setI_1, setL_1, setI_2, setL_2]; simp; omega)) (by first | omega | (simp only [setI_1, setL_1, setI_2, setL_2]; omega) | (simp only [setI_1, setL_1, setI_2, setL_2]; simp; omega)) (by decide) (by first | omega | (simp only [setI_1, setL_1, setI_2, setL_2]; omega) | (simp only [setI_1, setL_1, setI_2, setL_2]; simp; omega)) dX12_right_164 rfl ?_
          refine g_aload_n X dX12_right_165 rfl rfl ?_
          refine g_dup X dX12_right_166 rfl rfl ?_
          refine g_getI X ci12 (n40 hN) (en40 _ _ _ _) (by decide) fl_X12_246 rfl dX12_right_167 rfl (fun r167 => ?_)
          refine g_int (b := M.1 40 31 0 0) rfl ?_
          have r167x := hM 40 31 0 0
          refine g_iconst X dX12_right_170 rfl ?_
          refine g_iadd X dX12_right_171 rfl ?_
          refine g_putI X ci12 (n40 hN) (en40 _ _ _ _) (ep40_31 _ _ _ _ _) (by first | omega | (simp only [setI_1, setL_1, setI_2, setL_2]; omega) | (simp only [setI_1, setL_1, setI_2, setL_2]; simp; omega)) (by decide) rfl rfl rfl (Nat.le_of_ble_eq_true rfl) fl_X12_246 dX12_right_172 rfl ?_
          refine g_iconst X dX12_right_175 rfl ?_
          refine g_istore_8 X dX12_right_176 rfl (lt_kN hNL rfl) rfl ?_
          refine g_iconst X dX12_right_178 rfl ?_
          refine g_istore_9 X dX12_right_179 rfl (lt_kN hNL rfl) rfl ?_
          refine g_drop_6 ?_
          refine g_drop_7 ?_
          have lp181 : ∀ (a : Int) (k : Int) (k0 : 0 ≤ k) (k1 : k ≤ (C.1 0 7 0 0) + 1) (ha : a = sm (fun g => bI ((((rgM (setI M 40 46 0 0 0) v h l f t)).1 62 0 0 g) = v)) 0 k), G κ nm ad (rgM (setI M 40 46 0 0 0) v h l f t) 181 [some (.ref (ad 40 0)), some (.int (iI v)), some (.int (iI h)), some (.int (iI l)), some (.int (iI f)), some (.int (iI t)), none, none, some (.int (iI a)), some (.int (iI k))] [] 0 0 := by
            refine ind2 (fun a k => (41 - k).toNat) ?_
            intro a k ih181 k0 k1 ha
            refine g_rm (fun hM181 => ?_)
            have ps := sm_s (fun g => bI ((((rgM (setI M 40 46 0 0 0) v h l f t)).1 62 0 0 g) = v)) (lo := 0) (hi := k) k0
            have e31 : (((rgM (setI M 40 46 0 0 0) v h l f t)).1 40 31 0 0) = (C.1 0 7 0 0) + 1 := by show (M.1 40 31 0 0) + 1 = _; omega
            refine g_iload X dX12_right_181 rfl rfl ?_
            refine g_aload_n X dX12_right_183 rfl rfl ?_
            refine g_getI X ci12 (n40 hN) (en40 _ _ _ _) (by decide) fl_X12_246 rfl dX12_right_184 rfl (fun r184 => ?_)
            refine g_icmp_ge (tgt := 217) X dX12_right_187 rfl rfl (by omega) (by omega) (fun h187 => ?_) (fun h187 => ?_)
            · skip
              refine g_iload X dX12_right_217 rfl rfl ?_
              have z31 : (((setI M 40 46 0 0 0)).1 40 31 0 0) = (C.1 0 7 0 0) := he
              have e1 : a = (C.1 22 8 v 0) + 1 := by
                have hv : ∀ g, (((rgM (setI M 40 46 0 0 0) v h l f t)).1 62 0 0 g) = if g = (C.1 0 7 0 0) then v else (M.1 62 0 0 g) := fun g => by
                  unfold rgM
                  simp only [setI_1]
                  simp
                  rw [he]
                rw [ha, show k = (C.1 0 7 0 0) + 1 by omega, sm_s _ rc.1, hv, if_pos rfl, bI_t rfl, hH.vr v (by omega) (by omega)]
                refine congrArg (fun z => z + 1) (sm_c (fun j j0 j1 => ?_))
                show bI _ = bI _
                rw [hv, if_neg (by omega)]
              exact g_ret Y dX12_right_219 ⟨_, rfl⟩ ⟨rfl, Or.inr ⟨w0, by rw [e1], rfl⟩⟩
            · skip
              refine g_iload X dX12_right_190 rfl rfl ?_
              refine g_cutB 208 ((((rgM (setI M 40 46 0 0 0) v h l f t)).1 62 0 0 k) = v) (fun ct192 cf192 => ?_) ?_
              · skip
                refine g_aload_n X dX12_right_192 rfl rfl ?_
                refine g_get X ci12 (n40 hN) (en40 _ _ _ _) (by decide) fl_X12_81 rfl dX12_right_193 rfl ?_
                refine g_iload X dX12_right_196 rfl rfl ?_
                refine g_iald X dX12_right_198 rfl (n62 hN) (en62 _ _ _ _) (t0 := 0) rfl (by omega) (by omega) (by decide) (fun r198 => ?_)
                refine g_iload_n X dX12_right_199 rfl rfl ?_
                refine g_icmp_ne (tgt := 207) X dX12_right_200 rfl rfl (by omega) (by omega) (fun h200 => ?_) (fun h200 => ?_)
                · skip
                  refine g_iconst X dX12_right_207 rfl ?_
                  exact cf192 (by first | assumption | omega)
                · skip
                  refine g_iconst X dX12_right_203 rfl ?_
                  refine g_goto (pc' := 208) X dX12_right_204 rfl ?_
                  exact ct192 (by first | assumption | omega)
              · skip
                refine g_iadd X dX12_right_208 rfl ?_
                refine g_istore_8 X dX12_right_209 rfl (lt_kN hNL rfl) rfl ?_
                refine g_iinc_9 X dX12_right_211 rfl (lt_kN hNL rfl) rfl ?_
                refine g_goto (pc' := 181) X dX12_right_214 rfl ?_
                exact ih181 _ (k + 1) (by omega) (by omega) (by omega) (by rw [ps, ha])
          exact lp181 0 0 (by omega) (by omega) (sm_0 _ (by omega)).symm
        · skip
          refine g_iconst X dX12_right_111 rfl ?_
          exact g_ret Y dX12_right_112 ⟨_, rfl⟩ (pRx (by assumption))
set_option maxRecDepth 100000 in
set_option maxHeartbeats 4000000 in
theorem c_X12_allow {δ : Dx} {nm : List (Nat × Int)} {ad : Ad} {M : Mem} {C : Mem} {n : Int} {v h : Int} {P : Prop} (hN : NmOk nm) (hV : RelV n C M) (rv : rng v) (rh : rng h) : Ct δ md_X12_allow 0 0 nm ad M [.ref (ad 40 0), .int (iI v), .int (iI h), .int (iI (bI P))] (pRf (if (0 ≤ v ∧ v < (C.1 0 6 0 0)) ∧ (0 ≤ h ∧ h ≤ 9) then 0 else 1) (.int (iI 0)) (.int (iI (C.1 30 0 v h))) ad M (fun M' => M' = setI (setI M 40 46 0 0 0) 59 0 0 v (vaS (M.1 59 0 0 v) h P))) := by
  refine Ct_of (ins := .ireturn) (ok := okZ) [some (.ref (ad 40 0)), some (.int (iI v)), some (.int (iI h)), some (.int (iI (bI P))), none] (by decide +kernel) rfl (Nat.le_of_ble_eq_true rfl) (fun κ s hs X hr hQ hδ => endZ rfl hs X hr hQ hδ) (fun κ X hNL hδ Y => ?_)
  refine g_rm (fun hM => ?_)
  have vc := hV.vc
  have ve := hV.e
  refine g_aload_n X dX12_allow_0 rfl rfl ?_
  refine g_cutI 25 (if (0 ≤ v ∧ v < (C.1 0 6 0 0)) ∧ (0 ≤ h ∧ h ≤ 9) then 0 else 1) (fun ci1 => ?_) ?_
  · skip
    refine g_aload_n X dX12_allow_1 rfl rfl ?_
    refine g_iload_n X dX12_allow_2 rfl rfl ?_
    refine g_iV1_v X w_X12_isVersion ml_X12_222 dX12_allow_3 rfl (n40 hN) (en40 _ _ _ _) ⟨⟨Nat.le_of_ble_eq_true rfl, Nat.le_of_ble_eq_true rfl⟩, Nat.le_of_ble_eq_true rfl, Nat.le_of_ble_eq_true rfl⟩ (Nat.le_of_ble_eq_true rfl) (c_X12_isVersion hN (by omega) (by omega)) ?_
    refine g_ifB_eq (tgt := 24) X dX12_allow_6 rfl rfl (fun h6 => ?_) (fun h6 => ?_)
    · skip
      refine g_iconst X dX12_allow_24 rfl ?_
      exact ci1 _ (by omega)
    · skip
      refine g_aload_n X dX12_allow_9 rfl rfl ?_
      refine g_iload_n X dX12_allow_10 rfl rfl ?_
      refine g_iconst X dX12_allow_11 rfl ?_
      refine g_bipush X dX12_allow_12 rfl (by decide) ?_
      refine g_iV3_v X w_X12_in ml_X12_146 dX12_allow_14 rfl (n40 hN) (en40 _ _ _ _) ⟨⟨Nat.le_of_ble_eq_true rfl, Nat.le_of_ble_eq_true rfl⟩, Nat.le_of_ble_eq_true rfl, Nat.le_of_ble_eq_true rfl⟩ (Nat.le_of_ble_eq_true rfl) (c_X12_in hN (by omega) (by omega) (by omega)) ?_
      refine g_ifB_eq (tgt := 24) X dX12_allow_17 rfl rfl (fun h17 => ?_) (fun h17 => ?_)
      · skip
        refine g_iconst X dX12_allow_24 rfl ?_
        exact ci1 _ (by omega)
      · skip
        refine g_iconst X dX12_allow_20 rfl ?_
        refine g_goto (pc' := 25) X dX12_allow_21 rfl ?_
        exact ci1 _ (by omega)
  · skip
    refine g_iV1_v X w_X12_holds ml_X12_158 dX12_allow_25 rfl (n40 hN) (en40 _ _ _ _) ⟨⟨Nat.le_of_ble_eq_true rfl, Nat.le_of_ble_eq_true rfl⟩, Nat.le_of_ble_eq_true rfl, Nat.le_of_ble_eq_true rfl⟩ (Nat.le_of_ble_eq_true rfl) (c_X12_holds hN (by omega)) ?_
    refine g_ifB_eq (tgt := 33) X dX12_allow_28 rfl rfl (fun h28 => ?_) (fun h28 => ?_)
    · skip
      have w0 : (if (0 ≤ v ∧ v < (C.1 0 6 0 0)) ∧ (0 ≤ h ∧ h ≤ 9) then 0 else 1 : Int) = 0 := by omega
      rw [w0]
      have al := hV.al v h (by omega) (by omega) (by omega) (by omega)
      have a01 := (hV.ok v (by omega) (by omega)).2.2.2.2.2.2 h (by omega) (by omega)
      have z59 : (((setI M 40 46 0 0 0)).1 59 0 0 v) = (M.1 59 0 0 v) := rfl
      refine g_cutB 52 ((C.1 30 0 v h) = 1) (fun ct33 cf33 => ?_) ?_
      · skip
        refine g_aload_n X dX12_allow_33 rfl rfl ?_
        refine g_get X ci12 (n40 hN) (en40 _ _ _ _) (by decide) fl_X12_72 rfl dX12_allow_34 rfl ?_
        refine g_iload_n X dX12_allow_37 rfl rfl ?_
        refine g_iald X dX12_allow_38 rfl (n59 hN) (en59 _ _ _ _) (t0 := 0) rfl (by first | omega | (simp only [setI_1, setL_1, setI_2, setL_2]; omega) | (simp only [setI_1, setL_1, setI_2, setL_2]; simp; omega)) (by first | omega | (simp only [setI_1, setL_1, setI_2, setL_2]; omega) | (simp only [setI_1, setL_1, setI_2, setL_2]; simp; omega)) (by decide) (fun r38 => ?_)
        refine g_int (b := M.1 59 0 0 v) rfl ?_
        have r38x := hM 59 0 0 v
        refine g_iload_n X dX12_allow_39 rfl rfl ?_
        refine g_ishr X dX12_allow_40 rfl (iI_of _).symm ?_
        refine g_iconst X dX12_allow_41 rfl ?_
        refine g_iand X dX12_allow_42 rfl (iI_of _).symm ?_
        refine g_int (b := (C.1 30 0 v h)) (by rw [iI_of]; exact al) ?_
        refine g_iconst X dX12_allow_43 rfl ?_
        refine g_icmp_ne (tgt := 51) X dX12_allow_44 rfl rfl (by first | omega | (simp only [setI_1, setL_1, setI_2, setL_2]; omega) | (simp only [setI_1, setL_1, setI_2, setL_2]; simp; omega)) (by first | omega | (simp only [setI_1, setL_1, setI_2, setL_2]; omega) | (simp only [setI_1, setL_1, setI_2, setL_2]; simp; omega)) (fun h44 => ?_) (fun h44 => ?_)
        · skip
          refine g_iconst X dX12_allow_51 rfl ?_
          exact cf33 (by omega)
        · skip
          refine g_iconst X dX12_allow_47 rfl ?_
          refine g_goto (pc' := 52) X dX12_allow_48 rfl ?_
          exact ct33 (by omega)
      · skip
        refine g_istore_4 X dX12_allow_52 rfl (lt_kN hNL rfl) rfl ?_
        refine g_aload_n X dX12_allow_54 rfl rfl ?_
        refine g_get X ci12 (n40 hN) (en40 _ _ _ _) (by decide) fl_X12_72 rfl dX12_allow_55 rfl ?_
        refine g_iload_n X dX12_allow_58 rfl rfl ?_
        refine g_cutI 88 (vaS (M.1 59 0 0 v) h P) (fun ci59 => ?_) ?_
        · skip
          refine g_iload_n X dX12_allow_59 rfl rfl ?_
          refine g_ifB_eq (tgt := 76) X dX12_allow_60 rfl rfl (fun h60 => ?_) (fun h60 => ?_)
          · skip
            refine g_aload_n X dX12_allow_76 rfl rfl ?_
            refine g_get X ci12 (n40 hN) (en40 _ _ _ _) (by decide) fl_X12_72 rfl dX12_allow_77 rfl ?_
            refine g_iload_n X dX12_allow_80 rfl rfl ?_
            refine g_iald X dX12_allow_81 rfl (n59 hN) (en59 _ _ _ _) (t0 := 0) rfl (by first | omega | (simp only [setI_1, setL_1, setI_2, setL_2]; omega) | (simp only [setI_1, setL_1, setI_2, setL_2]; simp; omega)) (by first | omega | (simp only [setI_1, setL_1, setI_2, setL_2]; omega) | (simp only [setI_1, setL_1, setI_2, setL_2]; simp; omega)) (by decide) (fun r81 => ?_)
            refine g_int (b := M.1 59 0 0 v) rfl ?_
            have r81x := hM 59 0 0 v
            refine g_iconst X dX12_allow_82 rfl ?_
            refine g_iload_n X dX12_allow_83 rfl rfl ?_
            refine g_ishl X dX12_allow_84 rfl (iI_of _).symm ?_
            refine g_iconst X dX12_allow_85 rfl ?_
            refine g_ixor X dX12_allow_86 rfl (iI_of _).symm ?_
            refine g_iand X dX12_allow_87 rfl (iI_of _).symm ?_
            exact ci59 _ (by first | (unfold vaS; rw [cif_t (by assumption)]; done) | (unfold vaS; rw [cif_f (by assumption)]; done))
          · skip
            refine g_aload_n X dX12_allow_63 rfl rfl ?_
            refine g_get X ci12 (n40 hN) (en40 _ _ _ _) (by decide) fl_X12_72 rfl dX12_allow_64 rfl ?_
            refine g_iload_n X dX12_allow_67 rfl rfl ?_
            refine g_iald X dX12_allow_68 rfl (n59 hN) (en59 _ _ _ _) (t0 := 0) rfl (by first | omega | (simp only [setI_1, setL_1, setI_2, setL_2]; omega) | (simp only [setI_1, setL_1, setI_2, setL_2]; simp; omega)) (by first | omega | (simp only [setI_1, setL_1, setI_2, setL_2]; omega) | (simp only [setI_1, setL_1, setI_2, setL_2]; simp; omega)) (by decide) (fun r68 => ?_)
            refine g_int (b := M.1 59 0 0 v) rfl ?_
            have r68x := hM 59 0 0 v
            refine g_iconst X dX12_allow_69 rfl ?_
            refine g_iload_n X dX12_allow_70 rfl rfl ?_
            refine g_ishl X dX12_allow_71 rfl (iI_of _).symm ?_
            refine g_ior X dX12_allow_72 rfl (iI_of _).symm ?_
            refine g_goto (pc' := 88) X dX12_allow_73 rfl ?_
            exact ci59 _ (by first | (unfold vaS; rw [cif_t (by assumption)]; done) | (unfold vaS; rw [cif_f (by assumption)]; done))
        · skip
          refine g_iast X (n59 hN) (en59 _ _ _ _) (en59 _ _ _ _) (t0 := 0) rfl (by first | omega | (simp only [setI_1, setL_1, setI_2, setL_2]; omega) | (simp only [setI_1, setL_1, setI_2, setL_2]; simp; omega)) (by first | omega | (simp only [setI_1, setL_1, setI_2, setL_2]; omega) | (simp only [setI_1, setL_1, setI_2, setL_2]; simp; omega)) (by decide) (by unfold vaS; rcases cif_01 (P := P) (a := (iI (M.1 59 0 0 v) ||| iI (iI 1 <<< (iI h &&& 31)).toInt).toInt) (b := (iI (M.1 59 0 0 v) &&& iI (iI (iI 1 <<< (iI h &&& 31)).toInt ^^^ iI (-1)).toInt).toInt) with q | q <;> rw [q.2] <;> exact rng_of _) dX12_allow_88 rfl ?_
          refine g_iload X dX12_allow_89 rfl rfl ?_
          refine g_int (b := (C.1 30 0 v h)) (by rcases a01 with z | z <;> rw [z] <;> first | exact bI_f (by decide) | exact bI_t rfl) ?_
          exact g_ret Y dX12_allow_91 ⟨_, a01, rfl⟩ (pRo w0 rfl)
    · skip
      refine g_iconst X dX12_allow_31 rfl ?_
      exact g_ret Y dX12_allow_32 okZ0 (pRx (by assumption))
/-- the g-th right leaves the version free -/
def okG (M : Mem) (v l y g : Int) : Prop := (M.1 62 0 0 g) ≠ v ∨ (M.1 64 0 0 g) ≠ l ∨ ¬ ((M.1 65 0 0 g) ≤ y ∧ y ≤ (M.1 66 0 0 g)) ∨ abit (M.1 59 0 0 v) (M.1 63 0 0 g) = 1
def okGs (M : Mem) (v l y k : Int) : Prop := ∀ g, 0 ≤ g → g < k → okG M v l y g
theorem okGs_free {C M : Mem} {n v l y : Int} (hV : RelV n C M) (hH : RelH C M) (v0 : 0 ≤ v) (v1 : v < (C.1 0 6 0 0)) : okGs M v l y (C.1 0 7 0 0) ↔ freeIn C v l y := by
  have vc := hV.vc
  have ok := hV.ok v v0 v1
  constructor
  · intro h k k0 k1 hl hf ht
    obtain ⟨g, g0, g1, g2, m1, m2, m3, m4⟩ := hH.vg v k v0 (by omega) k0 k1
    have hb := ok.2.2.2.2.1 k k0 k1
    rcases h g g0 g1 with q | q | q | q
    · exact absurd g2 q
    · exact absurd (by omega) q
    · exact absurd ⟨by omega, by omega⟩ q
    · rw [← m1, hV.al v _ v0 (by omega) hb.1 (by omega)] at q
      omega
  · intro h g g0 g1
    unfold okG
    by_cases e1 : (M.1 62 0 0 g) = v
    · obtain ⟨hv, hh, k, k0, k1, m1, m2, m3, m4⟩ := hH.gv g g0 g1
      rw [e1] at k1 m1 m2 m3 m4
      by_cases e2 : (M.1 64 0 0 g) = l
      · by_cases e3 : (M.1 65 0 0 g) ≤ y ∧ y ≤ (M.1 66 0 0 g)
        · have q := h k k0 k1 (by omega) (by omega) (by omega)
          refine Or.inr (Or.inr (Or.inr ?_))
          rw [m1] at q
          rw [hV.al v _ v0 (by omega) hh.1 (by omega)]
          have := ok.2.2.2.2.2.2 (M.1 63 0 0 g) hh.1 (by omega)
          omega
        · exact Or.inr (Or.inr (Or.inl e3))
      · exact Or.inr (Or.inl e2)
    · exact Or.inl e1
set_option maxRecDepth 100000 in
set_option maxHeartbeats 4000000 in
theorem c_X12_mayShow {δ : Dx} {nm : List (Nat × Int)} {ad : Ad} {M : Mem} {C : Mem} {n : Int} {v l y : Int} (hN : NmOk nm) (hV : RelV n C M) (hH : RelH C M) (rv : rng v) (rl : rng l) (ry : rng y) : Ct δ md_X12_mayShow 0 0 nm ad M [.ref (ad 40 0), .int (iI v), .int (iI l), .int (iI y)] (pRf (if ¬ (0 ≤ v ∧ v < (C.1 0 6 0 0)) then 1 else if (0 ≤ l ∧ l ≤ 3) ∧ (1890 ≤ y ∧ y ≤ 2200) then 0 else 2) (.int (iI 0)) (.int (iI (bI (freeIn C v l y)))) ad M (fun M' => M' = (setI M 40 46 0 0 0))) := by
  refine Ct_of (ins := .ireturn) (ok := okZ) [some (.ref (ad 40 0)), some (.int (iI v)), some (.int (iI l)), some (.int (iI y)), none, none] (by decide +kernel) rfl (Nat.le_of_ble_eq_true rfl) (fun κ s hs X hr hQ hδ => endZ rfl hs X hr hQ hδ) (fun κ X hNL hδ Y => ?_)
  refine g_rm (fun hM => ?_)
  have vc := hV.vc
  have ve := hV.e
  have rc := hH.rc
  have he := hH.e
  refine g_aload_n X dX12_mayShow_0 rfl rfl ?_
  refine g_cutI 42 (if ¬ (0 ≤ v ∧ v < (C.1 0 6 0 0)) then 1 else if (0 ≤ l ∧ l ≤ 3) ∧ (1890 ≤ y ∧ y ≤ 2200) then 0 else 2) (fun ci1 => ?_) ?_
  · skip
    refine g_aload_n X dX12_mayShow_1 rfl rfl ?_
    refine g_iload_n X dX12_mayShow_2 rfl rfl ?_
    refine g_iV1_v X w_X12_isVersion ml_X12_222 dX12_mayShow_3 rfl (n40 hN) (en40 _ _ _ _) ⟨⟨Nat.le_of_ble_eq_true rfl, Nat.le_of_ble_eq_true rfl⟩, Nat.le_of_ble_eq_true rfl, Nat.le_of_ble_eq_true rfl⟩ (Nat.le_of_ble_eq_true rfl) (c_X12_isVersion hN (by omega) (by omega)) ?_
    refine g_ifB_ne (tgt := 13) X dX12_mayShow_6 rfl rfl (fun h6 => ?_) (fun h6 => ?_)
    · skip
      refine g_aload_n X dX12_mayShow_13 rfl rfl ?_
      refine g_iload_n X dX12_mayShow_14 rfl rfl ?_
      refine g_iconst X dX12_mayShow_15 rfl ?_
      refine g_iconst X dX12_mayShow_16 rfl ?_
      refine g_iV3_v X w_X12_in ml_X12_146 dX12_mayShow_17 rfl (n40 hN) (en40 _ _ _ _) ⟨⟨Nat.le_of_ble_eq_true rfl, Nat.le_of_ble_eq_true rfl⟩, Nat.le_of_ble_eq_true rfl, Nat.le_of_ble_eq_true rfl⟩ (Nat.le_of_ble_eq_true rfl) (c_X12_in hN (by omega) (by omega) (by omega)) ?_
      refine g_ifB_eq (tgt := 41) X dX12_mayShow_20 rfl rfl (fun h20 => ?_) (fun h20 => ?_)
      · skip
        refine g_iconst X dX12_mayShow_41 rfl ?_
        exact ci1 _ (by omega)
      · skip
        refine g_aload_n X dX12_mayShow_23 rfl rfl ?_
        refine g_iload_n X dX12_mayShow_24 rfl rfl ?_
        refine g_sipush X dX12_mayShow_25 rfl (by decide) ?_
        refine g_sipush X dX12_mayShow_28 rfl (by decide) ?_
        refine g_iV3_v X w_X12_in ml_X12_146 dX12_mayShow_31 rfl (n40 hN) (en40 _ _ _ _) ⟨⟨Nat.le_of_ble_eq_true rfl, Nat.le_of_ble_eq_true rfl⟩, Nat.le_of_ble_eq_true rfl, Nat.le_of_ble_eq_true rfl⟩ (Nat.le_of_ble_eq_true rfl) (c_X12_in hN (by omega) (by omega) (by omega)) ?_
        refine g_ifB_eq (tgt := 41) X dX12_mayShow_34 rfl rfl (fun h34 => ?_) (fun h34 => ?_)
        · skip
          refine g_iconst X dX12_mayShow_41 rfl ?_
          exact ci1 _ (by omega)
        · skip
          refine g_iconst X dX12_mayShow_37 rfl ?_
          refine g_goto (pc' := 42) X dX12_mayShow_38 rfl ?_
          exact ci1 _ (by omega)
    · skip
      refine g_iconst X dX12_mayShow_9 rfl ?_
      refine g_goto (pc' := 42) X dX12_mayShow_10 rfl ?_
      exact ci1 _ (by omega)
  · skip
    refine g_iV1_v X w_X12_holds ml_X12_158 dX12_mayShow_42 rfl (n40 hN) (en40 _ _ _ _) ⟨⟨Nat.le_of_ble_eq_true rfl, Nat.le_of_ble_eq_true rfl⟩, Nat.le_of_ble_eq_true rfl, Nat.le_of_ble_eq_true rfl⟩ (Nat.le_of_ble_eq_true rfl) (c_X12_holds hN (by omega)) ?_
    refine g_ifB_eq (tgt := 50) X dX12_mayShow_45 rfl rfl (fun h45 => ?_) (fun h45 => ?_)
    · skip
      have w0 : (if ¬ (0 ≤ v ∧ v < (C.1 0 6 0 0)) then 1 else if (0 ≤ l ∧ l ≤ 3) ∧ (1890 ≤ y ∧ y ≤ 2200) then 0 else 2 : Int) = 0 := by omega
      rw [w0]
      refine g_iconst X dX12_mayShow_50 rfl ?_
      refine g_istore_4 X dX12_mayShow_51 rfl (lt_kN hNL rfl) rfl ?_
      refine g_of (a := [some (.ref (ad 40 0)), some (.int (iI v)), some (.int (iI l)), some (.int (iI y)), some (.int (iI (bI (okGs (setI M 40 46 0 0 0) v l y 0)))), none]) (fun k v h => by rw [← h, bI_t (P := okGs _ _ _ _ 0) (fun d h1 h2 => absurd h2 (by omega))]) ?_
      refine g_iconst X dX12_mayShow_53 rfl ?_
      refine g_istore_5 X dX12_mayShow_54 rfl (lt_kN hNL rfl) rfl ?_
      have lp56 : ∀ (k : Int) (k0 : 0 ≤ k) (k1 : k ≤ (C.1 0 7 0 0)), G κ nm ad (setI M 40 46 0 0 0) 56 [some (.ref (ad 40 0)), some (.int (iI v)), some (.int (iI l)), some (.int (iI y)), some (.int (iI (bI (okGs (setI M 40 46 0 0 0) v l y k)))), some (.int (iI k))] [] 0 0 := by
        refine ind1 (fun k => (40 - k).toNat) ?_
        intro k ih56 k0 k1
        refine g_rm (fun hM56 => ?_)
        have e31 : (((setI M 40 46 0 0 0)).1 40 31 0 0) = (C.1 0 7 0 0) := he
        refine g_iload X dX12_mayShow_56 rfl rfl ?_
        refine g_aload_n X dX12_mayShow_58 rfl rfl ?_
        refine g_getI X ci12 (n40 hN) (en40 _ _ _ _) (by decide) fl_X12_246 rfl dX12_mayShow_59 rfl (fun r59 => ?_)
        refine g_icmp_ge (tgt := 145) X dX12_mayShow_62 rfl rfl (by omega) (by omega) (fun h62 => ?_) (fun h62 => ?_)
        · skip
          refine g_iload X dX12_mayShow_145 rfl rfl ?_
          rw [show k = (C.1 0 7 0 0) by omega]
          exact g_ret Y dX12_mayShow_147 okZb ⟨rfl, Or.inr ⟨w0, by rw [bI_c (okGs_free (hV.th (z := 0)) (hH.th (z := 0)) (by omega) (by omega))], rfl⟩⟩
        · skip
          have gv := hH.gv k k0 (by omega)
          refine g_iload X dX12_mayShow_65 rfl rfl ?_
          refine g_cutB 136 (okG (setI M 40 46 0 0 0) v l y k) (fun ct67 cf67 => ?_) ?_
          · skip
            refine g_aload_n X dX12_mayShow_67 rfl rfl ?_
            refine g_get X ci12 (n40 hN) (en40 _ _ _ _) (by decide) fl_X12_81 rfl dX12_mayShow_68 rfl ?_
            refine g_iload X dX12_mayShow_71 rfl rfl ?_
            refine g_iald X dX12_mayShow_73 rfl (n62 hN) (en62 _ _ _ _) (t0 := 0) rfl (by omega) (by omega) (by decide) (fun r73 => ?_)
            refine g_iload_n X dX12_mayShow_74 rfl rfl ?_
            refine g_icmp_ne (tgt := 131) X dX12_mayShow_75 rfl rfl (by omega) (by omega) (fun h75 => ?_) (fun h75 => ?_)
            · skip
              refine g_iconst X dX12_mayShow_131 rfl ?_
              refine g_goto (pc' := 136) X dX12_mayShow_132 rfl ?_
              exact ct67 (by unfold okG; first | omega | exact Or.inl (by assumption) | exact Or.inr (Or.inl (by assumption)) | exact Or.inr (Or.inr (Or.inl (by assumption))))
            · skip
              refine g_aload_n X dX12_mayShow_78 rfl rfl ?_
              refine g_get X ci12 (n40 hN) (en40 _ _ _ _) (by decide) fl_X12_87 rfl dX12_mayShow_79 rfl ?_
              refine g_iload X dX12_mayShow_82 rfl rfl ?_
              refine g_iald X dX12_mayShow_84 rfl (n64 hN) (en64 _ _ _ _) (t0 := 0) rfl (by omega) (by omega) (by decide) (fun r84 => ?_)
              refine g_iload_n X dX12_mayShow_85 rfl rfl ?_
              refine g_icmp_ne (tgt := 131) X dX12_mayShow_86 rfl rfl (by omega) (by omega) (fun h86 => ?_) (fun h86 => ?_)
              · skip
                refine g_iconst X dX12_mayShow_131 rfl ?_
                refine g_goto (pc' := 136) X dX12_mayShow_132 rfl ?_
                exact ct67 (by unfold okG; first | omega | exact Or.inl (by assumption) | exact Or.inr (Or.inl (by assumption)) | exact Or.inr (Or.inr (Or.inl (by assumption))))
              · skip
                refine g_aload_n X dX12_mayShow_89 rfl rfl ?_
                refine g_iload_n X dX12_mayShow_90 rfl rfl ?_
                refine g_aload_n X dX12_mayShow_91 rfl rfl ?_
                refine g_get X ci12 (n40 hN) (en40 _ _ _ _) (by decide) fl_X12_90 rfl dX12_mayShow_92 rfl ?_
                refine g_iload X dX12_mayShow_95 rfl rfl ?_
                refine g_iald X dX12_mayShow_97 rfl (n65 hN) (en65 _ _ _ _) (t0 := 0) rfl (by omega) (by omega) (by decide) (fun r97 => ?_)
                refine g_aload_n X dX12_mayShow_98 rfl rfl ?_
                refine g_get X ci12 (n40 hN) (en40 _ _ _ _) (by decide) fl_X12_93 rfl dX12_mayShow_99 rfl ?_
                refine g_iload X dX12_mayShow_102 rfl rfl ?_
                refine g_iald X dX12_mayShow_104 rfl (n66 hN) (en66 _ _ _ _) (t0 := 0) rfl (by omega) (by omega) (by decide) (fun r104 => ?_)
                refine g_iV3_v X w_X12_in ml_X12_146 dX12_mayShow_105 rfl (n40 hN) (en40 _ _ _ _) ⟨⟨Nat.le_of_ble_eq_true rfl, Nat.le_of_ble_eq_true rfl⟩, Nat.le_of_ble_eq_true rfl, Nat.le_of_ble_eq_true rfl⟩ (Nat.le_of_ble_eq_true rfl) (c_X12_in hN (by omega) (by omega) (by omega)) ?_
                refine g_ifB_eq (tgt := 131) X dX12_mayShow_108 rfl rfl (fun h108 => ?_) (fun h108 => ?_)
                · skip
                  refine g_iconst X dX12_mayShow_131 rfl ?_
                  refine g_goto (pc' := 136) X dX12_mayShow_132 rfl ?_
                  exact ct67 (by unfold okG; first | omega | exact Or.inl (by assumption) | exact Or.inr (Or.inl (by assumption)) | exact Or.inr (Or.inr (Or.inl (by assumption))))
                · skip
                  refine g_aload_n X dX12_mayShow_111 rfl rfl ?_
                  refine g_get X ci12 (n40 hN) (en40 _ _ _ _) (by decide) fl_X12_72 rfl dX12_mayShow_112 rfl ?_
                  refine g_iload_n X dX12_mayShow_115 rfl rfl ?_
                  refine g_iald X dX12_mayShow_116 rfl (n59 hN) (en59 _ _ _ _) (t0 := 0) rfl (by omega) (by omega) (by decide) (fun r116 => ?_)
                  refine g_aload_n X dX12_mayShow_117 rfl rfl ?_
                  refine g_get X ci12 (n40 hN) (en40 _ _ _ _) (by decide) fl_X12_84 rfl dX12_mayShow_118 rfl ?_
                  refine g_iload X dX12_mayShow_121 rfl rfl ?_
                  refine g_iald X dX12_mayShow_123 rfl (n63 hN) (en63 _ _ _ _) (t0 := 0) rfl (by omega) (by omega) (by decide) (fun r123 => ?_)
                  refine g_ishr X dX12_mayShow_124 rfl (iI_of _).symm ?_
                  refine g_iconst X dX12_mayShow_125 rfl ?_
                  refine g_iand X dX12_mayShow_126 rfl (iI_of _).symm ?_
                  refine g_int (b := abit (((setI M 40 46 0 0 0)).1 59 0 0 v) (((setI M 40 46 0 0 0)).1 63 0 0 k)) (by unfold abit; rw [iI_of]) ?_
                  have ab := abit_b (x := (((setI M 40 46 0 0 0)).1 59 0 0 v)) (h := (((setI M 40 46 0 0 0)).1 63 0 0 k)) gv.2.1.1 (Int.lt_of_le_of_lt gv.2.1.2 (by decide))
                  refine g_iconst X dX12_mayShow_127 rfl ?_
                  refine g_icmp_ne (tgt := 135) X dX12_mayShow_128 rfl rfl (by omega) (by omega) (fun h128 => ?_) (fun h128 => ?_)
                  · skip
                    refine g_iconst X dX12_mayShow_135 rfl ?_
                    exact cf67 (by unfold okG; first | omega | exact Or.inl (by assumption) | exact Or.inr (Or.inl (by assumption)) | exact Or.inr (Or.inr (Or.inl (by assumption))))
                  · skip
                    refine g_iconst X dX12_mayShow_131 rfl ?_
                    refine g_goto (pc' := 136) X dX12_mayShow_132 rfl ?_
                    exact ct67 (by unfold okG; first | omega | exact Or.inl (by assumption) | exact Or.inr (Or.inl (by assumption)) | exact Or.inr (Or.inr (Or.inl (by assumption))))
          · skip
            refine g_iand X dX12_mayShow_136 rfl (bI_and _ _) ?_
            refine g_istore_4 X dX12_mayShow_137 rfl (lt_kN hNL rfl) rfl ?_
            refine g_iinc_5 X dX12_mayShow_139 rfl (lt_kN hNL rfl) rfl ?_
            refine g_goto (pc' := 56) X dX12_mayShow_142 rfl ?_
            rw [bI_c (show (okGs (setI M 40 46 0 0 0) v l y k ∧ okG (setI M 40 46 0 0 0) v l y k) ↔ okGs (setI M 40 46 0 0 0) v l y (k + 1) from ⟨fun q g g0 g1 => by
              by_cases e : g = k
              · rw [e]; exact q.2
              · exact q.1 g g0 (by omega), fun q => ⟨fun g g0 g1 => q g g0 (by omega), q k k0 (by omega)⟩⟩)]
            exact ih56 (k + 1) (by omega) (by omega) (by omega)
      exact lp56 0 (by omega) (by omega)
    · skip
      refine g_iconst X dX12_mayShow_48 rfl ?_
      exact g_ret Y dX12_mayShow_49 okZ0 (pRx (by assumption))
