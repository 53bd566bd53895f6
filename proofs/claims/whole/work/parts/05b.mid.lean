set_option maxRecDepth 100000 in
set_option maxHeartbeats 4000000 in
theorem c_fill {δ : Dx} {nm : List (Nat × Int)} {ad : Ad} {M : Mem} {k N : Nat} {i v : Int} (hk : ∀ (ad : Ad) (M : Mem), ent δ.2.2.1 ad M k i = .inl (δ.2.2.1 0, N, .inl (fun j : Nat => iI (M.1 k 0 i (j : Int))))) (hn : (k, i) ∈ nm) (hN : N ≤ 100000) (rv : rng v) : Ct δ md_J7_fill_53178 0 0 nm ad M [.ref (ad k i), .int (iI v)] (pN ad (fillI M k i N v)) := by
  refine Ct_of (ins := .return_) (ok := okN) [some (.ref (ad k i)), some (.int (iI v)), none, none] (by decide +kernel) rfl (Nat.le_of_ble_eq_true rfl) (fun κ s hs X hr hQ hδ => endN rfl hs X hr hQ hδ) (fun κ X hNL hδ Y => ?_)
  have ec : kC κ = δ.2.2.1 := by rw [← hδ]
  rw [← ec] at hk
  refine g_rm (fun hM => ?_)
  refine g_iconst X dJ7_fill_53178_0 rfl ?_
  refine g_istore_2 X dJ7_fill_53178_1 rfl (lt_kN hNL rfl) rfl ?_
  refine g_aload_n X dJ7_fill_53178_2 rfl rfl ?_
  refine g_alen X hn (hk ad _) (t0 := 0) rfl dJ7_fill_53178_3 rfl ?_
  refine g_istore_3 X dJ7_fill_53178_4 rfl (lt_kN hNL rfl) rfl ?_
  have lp : ∀ (j : Int) (j0 : 0 ≤ j) (j1 : j ≤ N), G κ nm ad (fillI M k i j v) 5 [some (.ref (ad k i)), some (.int (iI v)), some (.int (iI j)), some (.int (iI (N : Int)))] [] 0 0 := by
    refine ind1 (fun j : Int => ((N : Int) - j).toNat) ?_
    intro j ih j0 j1
    refine g_iload_n X dJ7_fill_53178_5 rfl rfl ?_
    refine g_iload_n X dJ7_fill_53178_6 rfl rfl ?_
    refine g_icmp_ge (tgt := 20) X dJ7_fill_53178_7 rfl rfl (by omega) (by omega) (fun h => ?_) (fun h => ?_)
    · have e : j = N := by omega
      subst e
      exact g_retn Y dJ7_fill_53178_20 rfl ⟨rfl, rfl, rfl⟩
    · refine g_aload_n X dJ7_fill_53178_10 rfl rfl ?_
      refine g_iload_n X dJ7_fill_53178_11 rfl rfl ?_
      refine g_iload_n X dJ7_fill_53178_12 rfl rfl ?_
      refine g_iast X hn (fun M => hk ad M) (t0 := 0) rfl j0 (by omega) (by omega) rv dJ7_fill_53178_13 rfl ?_
      refine g_iinc_2 X dJ7_fill_53178_14 rfl (lt_kN hNL rfl) rfl ?_
      refine g_goto (pc' := 5) X dJ7_fill_53178_17 rfl ?_
      rw [fillI_s _ _ _ _ _ j0]
      exact ih (j + 1) (by omega) (by omega) (by omega)
  have h0 := lp 0 (by omega) (by omega)
  rw [fillI_0] at h0
  exact h0
set_option maxRecDepth 100000 in
set_option maxHeartbeats 4000000 in
theorem c_X6_canPair {δ : Dx} {nm : List (Nat × Int)} {ad : Ad} {M : Mem} {r o a b t : Int} (hN : NmOk nm) (r0 : 0 ≤ r) (r1 : r < 12) (o0 : 0 ≤ o) (o1 : o < 12) (a0 : 0 ≤ a) (a1 : a < 60) (b0 : 0 ≤ b) (b1 : b < 60) (rt : rng t) : Ct δ md_X6_canPair 0 0 nm ad M [.ref (ad 16 r), .int (iI a), .ref (ad 16 o), .int (iI b), .int (iI t)] (pV (.int (iI (bI (canP M r o t a b)))) ad M) := by
  refine Ct_of (ins := .ireturn) (ok := okZ) [some (.ref (ad 16 r)), some (.int (iI a)), some (.ref (ad 16 o)), some (.int (iI b)), some (.int (iI t))] (by decide +kernel) rfl (Nat.le_of_ble_eq_true rfl) (fun κ s hs X hr hQ hδ => endZ rfl hs X hr hQ hδ) (fun κ X hNL hδ Y => ?_)
  refine g_rm (fun hM => ?_)
  have pd := dist_b (M.2 18 0 r a) (M.2 18 0 o b)
  refine g_aload_n X dX6_canPair_0 rfl rfl ?_
  refine g_get X ci8 (n16 hN (by omega) (by omega)) (en16 _ _ _ _) (by decide) fl_X6_36 rfl dX6_canPair_1 rfl ?_
  refine g_iload_n X dX6_canPair_4 rfl rfl ?_
  refine g_lald X dX6_canPair_5 rfl (n18 hN (by omega) (by omega)) (en18 _ _ _ _) (t0 := 1) rfl (by omega) (by omega) (by decide) ?_
  refine g_aload_n X dX6_canPair_6 rfl rfl ?_
  refine g_get X ci8 (n16 hN (by omega) (by omega)) (en16 _ _ _ _) (by decide) fl_X6_36 rfl dX6_canPair_7 rfl ?_
  refine g_iload_n X dX6_canPair_10 rfl rfl ?_
  refine g_lald X dX6_canPair_11 rfl (n18 hN (by omega) (by omega)) (en18 _ _ _ _) (t0 := 1) rfl (by omega) (by omega) (by decide) ?_
  refine g_iS2_v X w_X7_distance ml_X6_40 dX6_canPair_12 rfl ⟨⟨Nat.le_of_ble_eq_true rfl, Nat.le_of_ble_eq_true rfl⟩, Nat.le_of_ble_eq_true rfl, Nat.le_of_ble_eq_true rfl⟩ (Nat.le_of_ble_eq_true rfl) (c_X7_distance hN) ?_
  refine g_iload X dX6_canPair_15 rfl rfl ?_
  refine g_icmp_gt (tgt := 24) X dX6_canPair_17 rfl rfl (by omega) (by omega) (fun h17 => ?_) (fun h17 => ?_)
  · skip
    refine g_iconst X dX6_canPair_24 rfl ?_
    exact g_ret Y dX6_canPair_25 okZ0 (pVf (by unfold canP; omega))
  · skip
    refine g_iconst X dX6_canPair_20 rfl ?_
    refine g_goto (pc' := 25) X dX6_canPair_21 rfl ?_
    exact g_ret Y dX6_canPair_25 okZ1 (pVt (by unfold canP; omega))
set_option maxRecDepth 100000 in
set_option maxHeartbeats 4000000 in
theorem c_X6_mostPairs {δ : Dx} {nm : List (Nat × Int)} {ad : Ad} {M : Mem} {r o t : Int} (hN : NmOk nm) (r0 : 0 ≤ r) (r1 : r < 12) (o0 : 0 ≤ o) (o1 : o < 12) (f0 : 0 ≤ (M.1 16 6 r 0) ∧ (M.1 16 6 r 0) ≤ 60) (f1 : 0 ≤ (M.1 16 6 o 0) ∧ (M.1 16 6 o 0) ≤ 60) (rt : rng t) (hz : Bz M) : Ct δ md_X6_mostPairs 0 0 nm ad M [.ref (ad 2 0), .ref (ad 16 r), .ref (ad 16 o), .int (iI t)] (fun v ad' M' => v = some (.int (iI (dz (canP M r o t) (M.1 16 6 r 0) (M.1 16 6 o 0)))) ∧ ad' = ad ∧ Ex (fun k => k == 4) M M' ∧ (Bz M') ∧ (∀ i j, 0 ≤ i → i ≤ (M.1 16 6 r 0) → 0 ≤ j → j ≤ (M.1 16 6 o 0) → (M'.1 4 0 i j) = dz (canP M r o t) i j)) := by
  refine Ct_of (ins := .ireturn) (ok := okI) [some (.ref (ad 2 0)), some (.ref (ad 16 r)), some (.ref (ad 16 o)), some (.int (iI t)), none, none] (by decide +kernel) rfl (Nat.le_of_ble_eq_true rfl) (fun κ s hs X hr hQ hδ => endI rfl hs X hr hQ hδ) (fun κ X hNL hδ Y => ?_)
  refine g_rm (fun hM => ?_)
  refine g_iconst X dX6_mostPairs_0 rfl ?_
  refine g_istore_4 X dX6_mostPairs_1 rfl (lt_kN hNL rfl) rfl ?_
  have lp3 : ∀ (i : Int) (M1 : Mem) (i0 : 1 ≤ i) (i1 : i ≤ (M.1 16 6 r 0) + 1) (hE1 : Ex (fun k => k == 4) M M1) (hz1 : Bz M1) (hd1 : ∀ a b, 0 ≤ a → a < i → 0 ≤ b → b ≤ (M.1 16 6 o 0) → (M1.1 4 0 a b) = dz (canP M r o t) a b), G κ nm ad M1 3 [some (.ref (ad 2 0)), some (.ref (ad 16 r)), some (.ref (ad 16 o)), some (.int (iI t)), some (.int (iI i)), none] [] 0 0 := by
    refine ind2 (fun i M1 => (61 - i).toNat) ?_
    intro i M1 ih3 i0 i1 hE1 hz1 hd1
    refine g_rm (fun hM3 => ?_)
    have ef1 := hE1.i 16 6 r 0 rfl
    have eg1 := hE1.i 16 6 o 0 rfl
    refine g_iload X dX6_mostPairs_3 rfl rfl ?_
    refine g_aload_n X dX6_mostPairs_5 rfl rfl ?_
    refine g_getI X ci8 (n16 hN (by omega) (by omega)) (en16 _ _ _ _) (by decide) fl_X6_16 rfl dX6_mostPairs_6 rfl (fun r6 => ?_)
    refine g_icmp_gt (tgt := 109) X dX6_mostPairs_9 rfl rfl (by omega) (by omega) (fun h9 => ?_) (fun h9 => ?_)
    · skip
      refine g_aload_n X dX6_mostPairs_109 rfl rfl ?_
      refine g_get X ci6 (n2 hN) (en2 _ _ _ _) (by decide) fl_X6_11 rfl dX6_mostPairs_110 rfl ?_
      refine g_aload_n X dX6_mostPairs_113 rfl rfl ?_
      refine g_getI X ci8 (n16 hN (by omega) (by omega)) (en16 _ _ _ _) (by decide) fl_X6_16 rfl dX6_mostPairs_114 rfl (fun r114 => ?_)
      refine g_rrald X (n3 hN) (en3 _ _ _ _) (t0 := 7) rfl (by omega) (by omega) (by decide) dX6_mostPairs_117 rfl ?_
      refine g_aload_n X dX6_mostPairs_118 rfl rfl ?_
      refine g_getI X ci8 (n16 hN (by omega) (by omega)) (en16 _ _ _ _) (by decide) fl_X6_16 rfl dX6_mostPairs_119 rfl (fun r119 => ?_)
      refine g_iald X dX6_mostPairs_122 rfl (n4 hN (by omega) (by omega)) (en4 _ _ _ _) (t0 := 0) rfl (by omega) (by omega) (by decide) (fun r122 => ?_)
      exact g_ret Y dX6_mostPairs_123 ⟨_, rfl⟩ ⟨by rw [hd1 _ _ (by omega) (by omega) (by omega) (by omega), hE1.i 16 6 r 0 rfl, hE1.i 16 6 o 0 rfl], rfl, hE1, hz1, fun a b h1 h2 h3 h4 => hd1 a b h1 (by omega) h3 h4⟩
    · skip
      refine g_iconst X dX6_mostPairs_12 rfl ?_
      refine g_istore_5 X dX6_mostPairs_13 rfl (lt_kN hNL rfl) rfl ?_
      have lp15 : ∀ (j : Int) (M2 : Mem) (j0 : 1 ≤ j) (j1 : j ≤ (M.1 16 6 o 0) + 1) (hE2 : Ex (fun k => k == 4) M M2) (hz2 : Bz M2) (hd2 : ∀ a b, 0 ≤ a → a < i → 0 ≤ b → b ≤ (M.1 16 6 o 0) → (M2.1 4 0 a b) = dz (canP M r o t) a b) (he2 : ∀ b, 0 ≤ b → b < j → (M2.1 4 0 i b) = dz (canP M r o t) i b), G κ nm ad M2 15 [some (.ref (ad 2 0)), some (.ref (ad 16 r)), some (.ref (ad 16 o)), some (.int (iI t)), some (.int (iI i)), some (.int (iI j))] [] 0 0 := by
        refine ind2 (fun j M2 => (61 - j).toNat) ?_
        intro j M2 ih15 j0 j1 hE2 hz2 hd2 he2
        refine g_rm (fun hM15 => ?_)
        have ef2 := hE2.i 16 6 r 0 rfl
        have eg2 := hE2.i 16 6 o 0 rfl
        refine g_iload X dX6_mostPairs_15 rfl rfl ?_
        refine g_aload_n X dX6_mostPairs_17 rfl rfl ?_
        refine g_getI X ci8 (n16 hN (by omega) (by omega)) (en16 _ _ _ _) (by decide) fl_X6_16 rfl dX6_mostPairs_18 rfl (fun r18 => ?_)
        refine g_icmp_gt (tgt := 103) X dX6_mostPairs_21 rfl rfl (by omega) (by omega) (fun h21 => ?_) (fun h21 => ?_)
        · skip
          refine g_iinc_4 X dX6_mostPairs_103 rfl (lt_kN hNL rfl) rfl ?_
          refine g_goto (pc' := 3) X dX6_mostPairs_106 rfl ?_
          refine g_drop_5 ?_
          exact ih3 (i + 1) _ (by omega) (by omega) (by omega) hE2 hz2 (fun a b h1 h2 h3 h4 => (Int.lt_or_eq_of_le (Int.le_of_lt_add_one h2)).elim (fun q => hd2 a b h1 q h3 h4) (fun q => by subst q; exact he2 b h3 (by omega)))
        · skip
          refine g_aload_n X dX6_mostPairs_24 rfl rfl ?_
          refine g_get X ci6 (n2 hN) (en2 _ _ _ _) (by decide) fl_X6_11 rfl dX6_mostPairs_25 rfl ?_
          refine g_iload X dX6_mostPairs_28 rfl rfl ?_
          refine g_rrald X (n3 hN) (en3 _ _ _ _) (t0 := 7) rfl (by omega) (by omega) (by decide) dX6_mostPairs_30 rfl ?_
          refine g_iload X dX6_mostPairs_31 rfl rfl ?_
          have d1 := hd2 (i - 1) (j - 1) (by omega) (by omega) (by omega) (by omega)
          have b1 := dz_b (canP M r o t) (i := i - 1) (j := j - 1) (by omega)
          refine g_aload_n X dX6_mostPairs_33 rfl rfl ?_
          refine g_iload X dX6_mostPairs_34 rfl rfl ?_
          refine g_iconst X dX6_mostPairs_36 rfl ?_
          refine g_isub X dX6_mostPairs_37 rfl ?_
          refine g_aload_n X dX6_mostPairs_38 rfl rfl ?_
          refine g_iload X dX6_mostPairs_39 rfl rfl ?_
          refine g_iconst X dX6_mostPairs_41 rfl ?_
          refine g_isub X dX6_mostPairs_42 rfl ?_
          refine g_iload_n X dX6_mostPairs_43 rfl rfl ?_
          refine g_iS5_v X w_X6_canPair ml_X6_22 dX6_mostPairs_44 rfl ⟨⟨Nat.le_of_ble_eq_true rfl, Nat.le_of_ble_eq_true rfl⟩, Nat.le_of_ble_eq_true rfl, Nat.le_of_ble_eq_true rfl⟩ (Nat.le_of_ble_eq_true rfl) (c_X6_canPair hN (by omega) (by omega) (by omega) (by omega) (by omega) (by omega) (by omega) (by omega) (by omega)) ?_
          refine g_ifB_eq (tgt := 69) X dX6_mostPairs_47 rfl rfl (fun h47 => ?_) (fun h47 => ?_)
          · skip
            have hp44 : ¬ canP M r o t (i - 1) (j - 1) := by have q := h47; unfold canP at q ⊢; rw [hE2.l 18 0 r _ rfl, hE2.l 18 0 o _ rfl] at q; exact q
            refine g_aload_n X dX6_mostPairs_69 rfl rfl ?_
            refine g_get X ci6 (n2 hN) (en2 _ _ _ _) (by decide) fl_X6_11 rfl dX6_mostPairs_70 rfl ?_
            refine g_iload X dX6_mostPairs_73 rfl rfl ?_
            refine g_iconst X dX6_mostPairs_75 rfl ?_
            refine g_isub X dX6_mostPairs_76 rfl ?_
            refine g_rrald X (n3 hN) (en3 _ _ _ _) (t0 := 7) rfl (by omega) (by omega) (by decide) dX6_mostPairs_77 rfl ?_
            refine g_iload X dX6_mostPairs_78 rfl rfl ?_
            refine g_iald X dX6_mostPairs_80 rfl (n4 hN (by omega) (by omega)) (en4 _ _ _ _) (t0 := 0) rfl (by omega) (by omega) (by decide) (fun r80 => ?_)
            refine g_aload_n X dX6_mostPairs_81 rfl rfl ?_
            refine g_get X ci6 (n2 hN) (en2 _ _ _ _) (by decide) fl_X6_11 rfl dX6_mostPairs_82 rfl ?_
            refine g_iload X dX6_mostPairs_85 rfl rfl ?_
            refine g_rrald X (n3 hN) (en3 _ _ _ _) (t0 := 7) rfl (by omega) (by omega) (by decide) dX6_mostPairs_87 rfl ?_
            refine g_iload X dX6_mostPairs_88 rfl rfl ?_
            refine g_iconst X dX6_mostPairs_90 rfl ?_
            refine g_isub X dX6_mostPairs_91 rfl ?_
            refine g_iald X dX6_mostPairs_92 rfl (n4 hN (by omega) (by omega)) (en4 _ _ _ _) (t0 := 0) rfl (by omega) (by omega) (by decide) (fun r92 => ?_)
            refine g_mmax X wm_max ml_X6_26 dX6_mostPairs_93 rfl ⟨Nat.le_of_ble_eq_true rfl, Nat.le_of_ble_eq_true rfl, Nat.le_of_ble_eq_true rfl⟩ (Nat.le_of_ble_eq_true rfl) (by omega) (by omega) ?_
            refine g_iast X (n4 hN (by omega) (by omega)) (fun M => en4 _ _ M _) (t0 := 0) rfl (by omega) (by omega) (by decide) (by omega) dX6_mostPairs_96 rfl ?_
            refine g_iinc_5 X dX6_mostPairs_97 rfl (lt_kN hNL rfl) rfl ?_
            refine g_goto (pc' := 15) X dX6_mostPairs_100 rfl ?_
            exact ih15 (j + 1) _ (by omega) (by omega) (by omega) (hE2.setI rfl) (hz2.set i0 j0) (fun a b h1 h2 h3 h4 => by rw [setI_1, if_neg (by omega)]; exact hd2 a b h1 h2 h3 h4) (fun b h1 h2 => by
      rw [setI_1]
      by_cases q : b = j
      · subst q
        rw [if_pos ⟨rfl, rfl, rfl, rfl⟩, dz_s _ i0 j0]
        first | (rw [cif_t hp44, ← hd2 (i - 1) (b - 1) (by omega) (by omega) (by omega) (by omega)]) | (rw [cif_f hp44, ← hd2 (i - 1) b (by omega) (by omega) (by omega) (by omega), ← he2 (b - 1) (by omega) (by omega)])
      · rw [if_neg (by omega)]; exact he2 b h1 (by omega))
          · skip
            have hp44 : canP M r o t (i - 1) (j - 1) := by have q := h47; unfold canP at q ⊢; rw [hE2.l 18 0 r _ rfl, hE2.l 18 0 o _ rfl] at q; exact q
            refine g_aload_n X dX6_mostPairs_50 rfl rfl ?_
            refine g_get X ci6 (n2 hN) (en2 _ _ _ _) (by decide) fl_X6_11 rfl dX6_mostPairs_51 rfl ?_
            refine g_iload X dX6_mostPairs_54 rfl rfl ?_
            refine g_iconst X dX6_mostPairs_56 rfl ?_
            refine g_isub X dX6_mostPairs_57 rfl ?_
            refine g_rrald X (n3 hN) (en3 _ _ _ _) (t0 := 7) rfl (by omega) (by omega) (by decide) dX6_mostPairs_58 rfl ?_
            refine g_iload X dX6_mostPairs_59 rfl rfl ?_
            refine g_iconst X dX6_mostPairs_61 rfl ?_
            refine g_isub X dX6_mostPairs_62 rfl ?_
            refine g_iald X dX6_mostPairs_63 rfl (n4 hN (by omega) (by omega)) (en4 _ _ _ _) (t0 := 0) rfl (by omega) (by omega) (by decide) (fun r63 => ?_)
            refine g_iconst X dX6_mostPairs_64 rfl ?_
            refine g_iadd X dX6_mostPairs_65 rfl ?_
            refine g_goto (pc' := 96) X dX6_mostPairs_66 rfl ?_
            refine g_iast X (n4 hN (by omega) (by omega)) (fun M => en4 _ _ M _) (t0 := 0) rfl (by omega) (by omega) (by decide) (by omega) dX6_mostPairs_96 rfl ?_
            refine g_iinc_5 X dX6_mostPairs_97 rfl (lt_kN hNL rfl) rfl ?_
            refine g_goto (pc' := 15) X dX6_mostPairs_100 rfl ?_
            exact ih15 (j + 1) _ (by omega) (by omega) (by omega) (hE2.setI rfl) (hz2.set i0 j0) (fun a b h1 h2 h3 h4 => by rw [setI_1, if_neg (by omega)]; exact hd2 a b h1 h2 h3 h4) (fun b h1 h2 => by
      rw [setI_1]
      by_cases q : b = j
      · subst q
        rw [if_pos ⟨rfl, rfl, rfl, rfl⟩, dz_s _ i0 j0]
        first | (rw [cif_t hp44, ← hd2 (i - 1) (b - 1) (by omega) (by omega) (by omega) (by omega)]) | (rw [cif_f hp44, ← hd2 (i - 1) b (by omega) (by omega) (by omega) (by omega), ← he2 (b - 1) (by omega) (by omega)])
      · rw [if_neg (by omega)]; exact he2 b h1 (by omega))
      exact lp15 1 M1 (by omega) (by omega) hE1 hz1 hd1 (fun b h1 h2 => by rw [show b = 0 by omega, dz_z]; exact hz1.2 i)
  exact lp3 1 M (by omega) (by omega) (Ex.rf M) hz (fun a b h1 h2 h3 h4 => by rw [show a = 0 by omega, dz_0]; exact hz.1 b)
