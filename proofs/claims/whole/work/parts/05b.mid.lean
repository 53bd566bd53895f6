set_option maxRecDepth 100000 in
set_option maxHeartbeats 4000000 in
theorem c_fill {δ : Dx} {nm : List (Nat × Int)} {ad : Ad} {M : Mem} {k N : Nat} {i v : Int} (hk : ∀ (ad : Ad) (M : Mem), ent δ.2.2.1 ad M k i = .inl (δ.2.2.1 0, N, .inl (fun j : Nat => iI (M.1 k 0 i (j : Int))))) (hn : (k, i) ∈ nm) (hN : N ≤ 100000) (rv : rng v) : Ct δ md_J7_fill_53178 0 0 nm ad M [.ref (ad k i), .int (iI v)] (pN ad (fillI M k i N v)) := by
  refine Ct_of (ins := .return_) (ok := okN) [some (.ref (ad k i)), some (.int (iI v)), none, none] (by decide +kernel) rfl (Nat.le_of_ble_eq_true rfl) (fun κ s hs X hr hQ hδ => endN rfl hs X hr hQ hδ) (fun κ X hNL hδ Y => ?_)
  have ec : kC κ = δ.2.2.1 := by rw [← hδ]
  rw [← ec] at hk
  refine g_rm (fun hM => ?_)
  refine g_iconst X dJ7_fill_53178_0 rfl ?_
  refine g_istore_2 X dJ7_fill_53178_1 rfl (lt_kN hNL rfl) rfl ?_
  refine g_aload_n X dJ7_fill_53178_2 rfl rfl ?_
  refine g_alen X hn (hk ad _) (t0 := 0) rfl dJ7_fill_53178_3 rfl ?_
  refine g_istore_3 X dJ7_fill_53178_4 rfl (lt_kN hNL rfl) rfl ?_
  have lp : ∀ (j : Int) (j0 : 0 ≤ j) (j1 : j ≤ N), G κ nm ad (fillI M k i j v) 5 [some (.ref (ad k i)), some (.int (iI v)), some (.int (iI j)), some (.int (iI (N : Int)))] [] 0 0 := by
    refine ind1 (fun j : Int => ((N : Int) - j).toNat) ?_
    intro j ih j0 j1
    refine g_iload_n X dJ7_fill_53178_5 rfl rfl ?_
    refine g_iload_n X dJ7_fill_53178_6 rfl rfl ?_
    refine g_icmp_ge (tgt := 20) X dJ7_fill_53178_7 rfl rfl (by omega) (by omega) (fun h => ?_) (fun h => ?_)
    · have e : j = N := by omega
      subst e
      exact g_retn Y dJ7_fill_53178_20 rfl ⟨rfl, rfl, rfl⟩
    · refine g_aload_n X dJ7_fill_53178_10 rfl rfl ?_
      refine g_iload_n X dJ7_fill_53178_11 rfl rfl ?_
      refine g_iload_n X dJ7_fill_53178_12 rfl rfl ?_
      refine g_iast X hn (hk ad _) (hk ad _) (t0 := 0) rfl j0 (by omega) (by omega) rv dJ7_fill_53178_13 rfl ?_
      refine g_iinc_2 X dJ7_fill_53178_14 rfl (lt_kN hNL rfl) rfl ?_
      refine g_goto (pc' := 5) X dJ7_fill_53178_17 rfl ?_
      rw [fillI_s _ _ _ _ _ j0]
      exact ih (j + 1) (by omega) (by omega) (by omega)
  have h0 := lp 0 (by omega) (by omega)
  rw [fillI_0] at h0
  exact h0
set_option maxRecDepth 100000 in
set_option maxHeartbeats 4000000 in
theorem c_X6_canPair {δ : Dx} {nm : List (Nat × Int)} {ad : Ad} {M : Mem} {r o a b t : Int} (hN : NmOk nm) (r0 : 0 ≤ r) (r1 : r < 12) (o0 : 0 ≤ o) (o1 : o < 12) (a0 : 0 ≤ a) (a1 : a < 60) (b0 : 0 ≤ b) (b1 : b < 60) (rt : rng t) : Ct δ md_X6_canPair 0 0 nm ad M [.ref (ad 16 r), .int (iI a), .ref (ad 16 o), .int (iI b), .int (iI t)] (pV (.int (iI (bI (canP M r o t a b)))) ad M) := by
  refine Ct_of (ins := .ireturn) (ok := okZ) [some (.ref (ad 16 r)), some (.int (iI a)), some (.ref (ad 16 o)), some (.int (iI b)), some (.int (iI t))] (by decide +kernel) rfl (Nat.le_of_ble_eq_true rfl) (fun κ s hs X hr hQ hδ => endZ rfl hs X hr hQ hδ) (fun κ X hNL hδ Y => ?_)
  refine g_rm (fun hM => ?_)
  have pd := dist_b (M.2 18 0 r a) (M.2 18 0 o b)
  refine g_aload_n X dX6_canPair_0 rfl rfl ?_
  refine g_get X ci8 (n16 hN (by omega) (by omega)) (en16 _ _ _ _) (by decide) fl_X6_36 rfl dX6_canPair_1 rfl ?_
  refine g_iload_n X dX6_canPair_4 rfl rfl ?_
  refine g_lald X dX6_canPair_5 rfl (n18 hN (by omega) (by omega)) (en18 _ _ _ _) (t0 := 1) rfl (by omega) (by omega) (by decide) ?_
  refine g_aload_n X dX6_canPair_6 rfl rfl ?_
  refine g_get X ci8 (n16 hN (by omega) (by omega)) (en16 _ _ _ _) (by decide) fl_X6_36 rfl dX6_canPair_7 rfl ?_
  refine g_iload_n X dX6_canPair_10 rfl rfl ?_
  refine g_lald X dX6_canPair_11 rfl (n18 hN (by omega) (by omega)) (en18 _ _ _ _) (t0 := 1) rfl (by omega) (by omega) (by decide) ?_
  refine g_iS2_v X w_X7_distance ml_X6_40 dX6_canPair_12 rfl ⟨⟨Nat.le_of_ble_eq_true rfl, Nat.le_of_ble_eq_true rfl⟩, Nat.le_of_ble_eq_true rfl, Nat.le_of_ble_eq_true rfl⟩ (Nat.le_of_ble_eq_true rfl) (c_X7_distance hN) ?_
  refine g_iload X dX6_canPair_15 rfl rfl ?_
  refine g_icmp_gt (tgt := 24) X dX6_canPair_17 rfl rfl (by omega) (by omega) (fun h17 => ?_) (fun h17 => ?_)
  · skip
    refine g_iconst X dX6_canPair_24 rfl ?_
    exact g_ret Y dX6_canPair_25 okZ0 (pVf (by unfold canP; omega))
  · skip
    refine g_iconst X dX6_canPair_20 rfl ?_
    refine g_goto (pc' := 25) X dX6_canPair_21 rfl ?_
    exact g_ret Y dX6_canPair_25 okZ1 (pVt (by unfold canP; omega))
set_option maxRecDepth 100000 in
set_option maxHeartbeats 4000000 in
theorem c_X6_mostPairs {δ : Dx} {nm : List (Nat × Int)} {ad : Ad} {M : Mem} {r o t : Int} (hN : NmOk nm) (r0 : 0 ≤ r) (r1 : r < 12) (o0 : 0 ≤ o) (o1 : o < 12) (f0 : 0 ≤ (M.1 16 6 r 0) ∧ (M.1 16 6 r 0) ≤ 60) (f1 : 0 ≤ (M.1 16 6 o 0) ∧ (M.1 16 6 o 0) ≤ 60) (rt : rng t) (hz : Bz M) : Ct δ md_X6_mostPairs 0 0 nm ad M [.ref (ad 2 0), .ref (ad 16 r), .ref (ad 16 o), .int (iI t)] (pG (.int (iI (dz (canP M r o t) (M.1 16 6 r 0) (M.1 16 6 o 0)))) ad (fun M' => Ex (fun k => k == 4) M M' ∧ (Bz M') ∧ (∀ i j, 0 ≤ i → i ≤ (M.1 16 6 r 0) → 0 ≤ j → j ≤ (M.1 16 6 o 0) → (M'.1 4 0 i j) = dz (canP M r o t) i j))) := by
  refine Ct_of (ins := .ireturn) (ok := okI) [some (.ref (ad 2 0)), some (.ref (ad 16 r)), some (.ref (ad 16 o)), some (.int (iI t)), none, none] (by decide +kernel) rfl (Nat.le_of_ble_eq_true rfl) (fun κ s hs X hr hQ hδ => endI rfl hs X hr hQ hδ) (fun κ X hNL hδ Y => ?_)
  refine g_rm (fun hM => ?_)
  refine g_iconst X dX6_mostPairs_0 rfl ?_
  refine g_istore_4 X dX6_mostPairs_1 rfl (lt_kN hNL rfl) rfl ?_
  have lp3 : ∀ (i : Int) (M1 : Mem) (i0 : 1 ≤ i) (i1 : i ≤ (M.1 16 6 r 0) + 1) (hE1 : Ex (fun k => k == 4) M M1) (hz1 : Bz M1) (hd1 : ∀ a b, 0 ≤ a → a < i → 0 ≤ b → b ≤ (M.1 16 6 o 0) → (M1.1 4 0 a b) = dz (canP M r o t) a b), G κ nm ad M1 3 [some (.ref (ad 2 0)), some (.ref (ad 16 r)), some (.ref (ad 16 o)), some (.int (iI t)), some (.int (iI i)), none] [] 0 0 := by
    refine ind2 (fun i M1 => (61 - i).toNat) ?_
    intro i M1 ih3 i0 i1 hE1 hz1 hd1
    refine g_rm (fun hM3 => ?_)
    have ef1 := hE1.i 16 6 r 0 rfl
    have eg1 := hE1.i 16 6 o 0 rfl
    refine g_iload X dX6_mostPairs_3 rfl rfl ?_
    refine g_aload_n X dX6_mostPairs_5 rfl rfl ?_
    refine g_getI X ci8 (n16 hN (by omega) (by omega)) (en16 _ _ _ _) (by decide) fl_X6_16 rfl dX6_mostPairs_6 rfl (fun r6 => ?_)
    refine g_icmp_gt (tgt := 109) X dX6_mostPairs_9 rfl rfl (by omega) (by omega) (fun h9 => ?_) (fun h9 => ?_)
    · skip
      refine g_aload_n X dX6_mostPairs_109 rfl rfl ?_
      refine g_get X ci6 (n2 hN) (en2 _ _ _ _) (by decide) fl_X6_11 rfl dX6_mostPairs_110 rfl ?_
      refine g_aload_n X dX6_mostPairs_113 rfl rfl ?_
      refine g_getI X ci8 (n16 hN (by omega) (by omega)) (en16 _ _ _ _) (by decide) fl_X6_16 rfl dX6_mostPairs_114 rfl (fun r114 => ?_)
      refine g_rrald X (n3 hN) (en3 _ _ _ _) (t0 := 7) rfl (by omega) (by omega) (by decide) dX6_mostPairs_117 rfl ?_
      refine g_aload_n X dX6_mostPairs_118 rfl rfl ?_
      refine g_getI X ci8 (n16 hN (by omega) (by omega)) (en16 _ _ _ _) (by decide) fl_X6_16 rfl dX6_mostPairs_119 rfl (fun r119 => ?_)
      refine g_iald X dX6_mostPairs_122 rfl (n4 hN (by omega) (by omega)) (en4 _ _ _ _) (t0 := 0) rfl (by omega) (by omega) (by decide) (fun r122 => ?_)
      exact g_ret Y dX6_mostPairs_123 ⟨_, rfl⟩ ⟨by rw [hd1 _ _ (by omega) (by omega) (by omega) (by omega), hE1.i 16 6 r 0 rfl, hE1.i 16 6 o 0 rfl], rfl, hE1, hz1, fun a b h1 h2 h3 h4 => hd1 a b h1 (by omega) h3 h4⟩
    · skip
      refine g_iconst X dX6_mostPairs_12 rfl ?_
      refine g_istore_5 X dX6_mostPairs_13 rfl (lt_kN hNL rfl) rfl ?_
      have lp15 : ∀ (j : Int) (M2 : Mem) (j0 : 1 ≤ j) (j1 : j ≤ (M.1 16 6 o 0) + 1) (hE2 : Ex (fun k => k == 4) M M2) (hz2 : Bz M2) (hd2 : ∀ a b, 0 ≤ a → a < i → 0 ≤ b → b ≤ (M.1 16 6 o 0) → (M2.1 4 0 a b) = dz (canP M r o t) a b) (he2 : ∀ b, 0 ≤ b → b < j → (M2.1 4 0 i b) = dz (canP M r o t) i b), G κ nm ad M2 15 [some (.ref (ad 2 0)), some (.ref (ad 16 r)), some (.ref (ad 16 o)), some (.int (iI t)), some (.int (iI i)), some (.int (iI j))] [] 0 0 := by
        refine ind2 (fun j M2 => (61 - j).toNat) ?_
        intro j M2 ih15 j0 j1 hE2 hz2 hd2 he2
        refine g_rm (fun hM15 => ?_)
        have ef2 := hE2.i 16 6 r 0 rfl
        have eg2 := hE2.i 16 6 o 0 rfl
        refine g_iload X dX6_mostPairs_15 rfl rfl ?_
        refine g_aload_n X dX6_mostPairs_17 rfl rfl ?_
        refine g_getI X ci8 (n16 hN (by omega) (by omega)) (en16 _ _ _ _) (by decide) fl_X6_16 rfl dX6_mostPairs_18 rfl (fun r18 => ?_)
        refine g_icmp_gt (tgt := 103) X dX6_mostPairs_21 rfl rfl (by omega) (by omega) (fun h21 => ?_) (fun h21 => ?_)
        · skip
          refine g_iinc_4 X dX6_mostPairs_103 rfl (lt_kN hNL rfl) rfl ?_
          refine g_goto (pc' := 3) X dX6_mostPairs_106 rfl ?_
          refine g_drop_5 ?_
          exact ih3 (i + 1) _ (by omega) (by omega) (by omega) hE2 hz2 (fun a b h1 h2 h3 h4 => (Int.lt_or_eq_of_le (Int.le_of_lt_add_one h2)).elim (fun q => hd2 a b h1 q h3 h4) (fun q => by subst q; exact he2 b h3 (by omega)))
        · skip
          refine g_aload_n X dX6_mostPairs_24 rfl rfl ?_
          refine g_get X ci6 (n2 hN) (en2 _ _ _ _) (by decide) fl_X6_11 rfl dX6_mostPairs_25 rfl ?_
          refine g_iload X dX6_mostPairs_28 rfl rfl ?_
          refine g_rrald X (n3 hN) (en3 _ _ _ _) (t0 := 7) rfl (by omega) (by omega) (by decide) dX6_mostPairs_30 rfl ?_
          refine g_iload X dX6_mostPairs_31 rfl rfl ?_
          have d1 := hd2 (i - 1) (j - 1) (by omega) (by omega) (by omega) (by omega)
          have b1 := dz_b (canP M r o t) (i := i - 1) (j := j - 1) (by omega)
          refine g_aload_n X dX6_mostPairs_33 rfl rfl ?_
          refine g_iload X dX6_mostPairs_34 rfl rfl ?_
          refine g_iconst X dX6_mostPairs_36 rfl ?_
          refine g_isub X dX6_mostPairs_37 rfl ?_
          refine g_aload_n X dX6_mostPairs_38 rfl rfl ?_
          refine g_iload X dX6_mostPairs_39 rfl rfl ?_
          refine g_iconst X dX6_mostPairs_41 rfl ?_
          refine g_isub X dX6_mostPairs_42 rfl ?_
          refine g_iload_n X dX6_mostPairs_43 rfl rfl ?_
          refine g_iS5_v X w_X6_canPair ml_X6_22 dX6_mostPairs_44 rfl ⟨⟨Nat.le_of_ble_eq_true rfl, Nat.le_of_ble_eq_true rfl⟩, Nat.le_of_ble_eq_true rfl, Nat.le_of_ble_eq_true rfl⟩ (Nat.le_of_ble_eq_true rfl) (c_X6_canPair hN (by omega) (by omega) (by omega) (by omega) (by omega) (by omega) (by omega) (by omega) (by omega)) ?_
          refine g_ifB_eq (tgt := 69) X dX6_mostPairs_47 rfl rfl (fun h47 => ?_) (fun h47 => ?_)
          · skip
            have hp44 : ¬ canP M r o t (i - 1) (j - 1) := by have q := h47; unfold canP at q ⊢; rw [hE2.l 18 0 r _ rfl, hE2.l 18 0 o _ rfl] at q; exact q
            refine g_aload_n X dX6_mostPairs_69 rfl rfl ?_
            refine g_get X ci6 (n2 hN) (en2 _ _ _ _) (by decide) fl_X6_11 rfl dX6_mostPairs_70 rfl ?_
            refine g_iload X dX6_mostPairs_73 rfl rfl ?_
            refine g_iconst X dX6_mostPairs_75 rfl ?_
            refine g_isub X dX6_mostPairs_76 rfl ?_
            refine g_rrald X (n3 hN) (en3 _ _ _ _) (t0 := 7) rfl (by omega) (by omega) (by decide) dX6_mostPairs_77 rfl ?_
            refine g_iload X dX6_mostPairs_78 rfl rfl ?_
            refine g_iald X dX6_mostPairs_80 rfl (n4 hN (by omega) (by omega)) (en4 _ _ _ _) (t0 := 0) rfl (by omega) (by omega) (by decide) (fun r80 => ?_)
            refine g_aload_n X dX6_mostPairs_81 rfl rfl ?_
            refine g_get X ci6 (n2 hN) (en2 _ _ _ _) (by decide) fl_X6_11 rfl dX6_mostPairs_82 rfl ?_
            refine g_iload X dX6_mostPairs_85 rfl rfl ?_
            refine g_rrald X (n3 hN) (en3 _ _ _ _) (t0 := 7) rfl (by omega) (by omega) (by decide) dX6_mostPairs_87 rfl ?_
            refine g_iload X dX6_mostPairs_88 rfl rfl ?_
            refine g_iconst X dX6_mostPairs_90 rfl ?_
            refine g_isub X dX6_mostPairs_91 rfl ?_
            refine g_iald X dX6_mostPairs_92 rfl (n4 hN (by omega) (by omega)) (en4 _ _ _ _) (t0 := 0) rfl (by omega) (by omega) (by decide) (fun r92 => ?_)
            refine g_mmax X wm_max ml_X6_26 dX6_mostPairs_93 rfl ⟨Nat.le_of_ble_eq_true rfl, Nat.le_of_ble_eq_true rfl, Nat.le_of_ble_eq_true rfl⟩ (Nat.le_of_ble_eq_true rfl) (by omega) (by omega) ?_
            refine g_iast X (n4 hN (by omega) (by omega)) (en4 _ _ _ _) (en4 _ _ _ _) (t0 := 0) rfl (by omega) (by omega) (by decide) (by omega) dX6_mostPairs_96 rfl ?_
            refine g_iinc_5 X dX6_mostPairs_97 rfl (lt_kN hNL rfl) rfl ?_
            refine g_goto (pc' := 15) X dX6_mostPairs_100 rfl ?_
            exact ih15 (j + 1) _ (by omega) (by omega) (by omega) (hE2.setI rfl) (hz2.set i0 j0) (fun a b h1 h2 h3 h4 => by rw [setI_1, if_neg (by omega)]; exact hd2 a b h1 h2 h3 h4) (fun b h1 h2 => by
                  rw [setI_1]
                  by_cases q : b = j
                  · subst q
                    rw [if_pos ⟨rfl, rfl, rfl, rfl⟩, dz_s _ i0 j0]
                    first | (rw [cif_t hp44, ← hd2 (i - 1) (b - 1) (by omega) (by omega) (by omega) (by omega)]) | (rw [cif_f hp44, ← hd2 (i - 1) b (by omega) (by omega) (by omega) (by omega), ← he2 (b - 1) (by omega) (by omega)])
                  · rw [if_neg (by omega)]; exact he2 b h1 (by omega))
          · skip
            have hp44 : canP M r o t (i - 1) (j - 1) := by have q := h47; unfold canP at q ⊢; rw [hE2.l 18 0 r _ rfl, hE2.l 18 0 o _ rfl] at q; exact q
            refine g_aload_n X dX6_mostPairs_50 rfl rfl ?_
            refine g_get X ci6 (n2 hN) (en2 _ _ _ _) (by decide) fl_X6_11 rfl dX6_mostPairs_51 rfl ?_
            refine g_iload X dX6_mostPairs_54 rfl rfl ?_
            refine g_iconst X dX6_mostPairs_56 rfl ?_
            refine g_isub X dX6_mostPairs_57 rfl ?_
            refine g_rrald X (n3 hN) (en3 _ _ _ _) (t0 := 7) rfl (by omega) (by omega) (by decide) dX6_mostPairs_58 rfl ?_
            refine g_iload X dX6_mostPairs_59 rfl rfl ?_
            refine g_iconst X dX6_mostPairs_61 rfl ?_
            refine g_isub X dX6_mostPairs_62 rfl ?_
            refine g_iald X dX6_mostPairs_63 rfl (n4 hN (by omega) (by omega)) (en4 _ _ _ _) (t0 := 0) rfl (by omega) (by omega) (by decide) (fun r63 => ?_)
            refine g_iconst X dX6_mostPairs_64 rfl ?_
            refine g_iadd X dX6_mostPairs_65 rfl ?_
            refine g_goto (pc' := 96) X dX6_mostPairs_66 rfl ?_
            refine g_iast X (n4 hN (by omega) (by omega)) (en4 _ _ _ _) (en4 _ _ _ _) (t0 := 0) rfl (by omega) (by omega) (by decide) (by omega) dX6_mostPairs_96 rfl ?_
            refine g_iinc_5 X dX6_mostPairs_97 rfl (lt_kN hNL rfl) rfl ?_
            refine g_goto (pc' := 15) X dX6_mostPairs_100 rfl ?_
            exact ih15 (j + 1) _ (by omega) (by omega) (by omega) (hE2.setI rfl) (hz2.set i0 j0) (fun a b h1 h2 h3 h4 => by rw [setI_1, if_neg (by omega)]; exact hd2 a b h1 h2 h3 h4) (fun b h1 h2 => by
                  rw [setI_1]
                  by_cases q : b = j
                  · subst q
                    rw [if_pos ⟨rfl, rfl, rfl, rfl⟩, dz_s _ i0 j0]
                    first | (rw [cif_t hp44, ← hd2 (i - 1) (b - 1) (by omega) (by omega) (by omega) (by omega)]) | (rw [cif_f hp44, ← hd2 (i - 1) b (by omega) (by omega) (by omega) (by omega), ← he2 (b - 1) (by omega) (by omega)])
                  · rw [if_neg (by omega)]; exact he2 b h1 (by omega))
      exact lp15 1 M1 (by omega) (by omega) hE1 hz1 hd1 (fun b h1 h2 => by rw [show b = 0 by omega, dz_z]; exact hz1.2 i)
  exact lp3 1 M (by omega) (by omega) (Ex.rf M) hz (fun a b h1 h2 h3 h4 => by rw [show a = 0 by omega, dz_0]; exact hz.1 b)
set_option maxRecDepth 100000 in
set_option maxHeartbeats 4000000 in
theorem c_X6_partner {δ : Dx} {nm : List (Nat × Int)} {ad : Ad} {M : Mem} {r o p t : Int} (hN : NmOk nm) (r0 : 0 ≤ r) (r1 : r < 12) (o0 : 0 ≤ o) (o1 : o < 12) (f0 : 0 ≤ (M.1 16 6 r 0) ∧ (M.1 16 6 r 0) ≤ 60) (f1 : 0 ≤ (M.1 16 6 o 0) ∧ (M.1 16 6 o 0) ≤ 60) (rt : rng t) (hz : Bz M) (p0 : 0 ≤ p ∧ p < 60) : Ct δ md_X6_partner 0 0 nm ad M [.ref (ad 2 0), .ref (ad 16 r), .int (iI p), .ref (ad 16 o), .int (iI t)] (pG (.int (iI (pw (canP M r o t) p 121 (M.1 16 6 r 0) (M.1 16 6 o 0)))) ad (fun M' => Ex (fun k => k == 4) M M' ∧ Bz M')) := by
  refine Ct_of (ins := .ireturn) (ok := okI) [some (.ref (ad 2 0)), some (.ref (ad 16 r)), some (.int (iI p)), some (.ref (ad 16 o)), some (.int (iI t)), none, none] (by decide +kernel) rfl (Nat.le_of_ble_eq_true rfl) (fun κ s hs X hr hQ hδ => endI rfl hs X hr hQ hδ) (fun κ X hNL hδ Y => ?_)
  refine g_rm (fun hM => ?_)
  refine g_aload_n X dX6_partner_0 rfl rfl ?_
  refine g_aload_n X dX6_partner_1 rfl rfl ?_
  refine g_aload_n X dX6_partner_2 rfl rfl ?_
  refine g_iload X dX6_partner_3 rfl rfl ?_
  refine g_iV3_g X w_X6_mostPairs ml_X6_32 dX6_partner_5 rfl (n2 hN) (en2 _ _ _ _) ⟨⟨Nat.le_of_ble_eq_true rfl, Nat.le_of_ble_eq_true rfl⟩, Nat.le_of_ble_eq_true rfl, Nat.le_of_ble_eq_true rfl⟩ (Nat.le_of_ble_eq_true rfl) (c_X6_mostPairs hN (by omega) (by omega) (by omega) (by omega) (by omega) (by omega) (by omega) (by omega)) (fun Mc5 hc5 => ?_)
  refine g_rm (fun hMc5 => ?_)
  obtain ⟨hE, hz2, hd⟩ := hc5
  have ef := hE.i 16 6 r 0 rfl
  have eg := hE.i 16 6 o 0 rfl
  refine g_pop X dX6_partner_8 rfl rfl ?_
  refine g_aload_n X dX6_partner_9 rfl rfl ?_
  refine g_getI X ci8 (n16 hN (by omega) (by omega)) (en16 _ _ _ _) (by decide) fl_X6_16 rfl dX6_partner_10 rfl (fun r10 => ?_)
  refine g_istore_5 X dX6_partner_13 rfl (lt_kN hNL rfl) rfl ?_
  refine g_aload_n X dX6_partner_15 rfl rfl ?_
  refine g_getI X ci8 (n16 hN (by omega) (by omega)) (en16 _ _ _ _) (by decide) fl_X6_16 rfl dX6_partner_16 rfl (fun r16 => ?_)
  refine g_istore_6 X dX6_partner_19 rfl (lt_kN hNL rfl) rfl ?_
  have lp21 : ∀ (n : Nat) (i : Int) (j : Int) (i0 : 0 ≤ i) (i1 : i ≤ (M.1 16 6 r 0)) (j0 : 0 ≤ j) (j1 : j ≤ (M.1 16 6 o 0)) (n0 : i + j < n) (hr : pw (canP M r o t) p n i j = pw (canP M r o t) p 121 (M.1 16 6 r 0) (M.1 16 6 o 0)), G κ nm ad Mc5 21 [some (.ref (ad 2 0)), some (.ref (ad 16 r)), some (.int (iI p)), some (.ref (ad 16 o)), some (.int (iI t)), some (.int (iI i)), some (.int (iI j))] [] 0 0 := by
    refine ind3 (fun n i j => n) ?_
    intro n i j ih21 i0 i1 j0 j1 n0 hr
    refine g_rm (fun hM21 => ?_)
    refine g_iload X dX6_partner_21 rfl rfl ?_
    refine g_iload_n X dX6_partner_23 rfl rfl ?_
    refine g_icmp_le (tgt := 109) X dX6_partner_24 rfl rfl (by omega) (by omega) (fun h24 => ?_) (fun h24 => ?_)
    · skip
      refine g_iconst X dX6_partner_109 rfl ?_
      exact g_ret Y dX6_partner_110 ⟨_, rfl⟩ ⟨by rw [← hr]; cases n with
            | zero => rfl
            | succ n => rw [pw_s, if_neg (by omega)], rfl, hE, hz2⟩
    · skip
      refine g_iload X dX6_partner_27 rfl rfl ?_
      refine g_if_le (tgt := 109) X dX6_partner_29 rfl rfl (by omega) (fun h29 => ?_) (fun h29 => ?_)
      · skip
        refine g_iconst X dX6_partner_109 rfl ?_
        exact g_ret Y dX6_partner_110 ⟨_, rfl⟩ ⟨by rw [← hr]; cases n with
              | zero => rfl
              | succ n => rw [pw_s, if_neg (by omega)], rfl, hE, hz2⟩
      · skip
        obtain ⟨n, rfl⟩ : ∃ z, n = z + 1 := ⟨n - 1, by omega⟩
        refine g_aload_n X dX6_partner_32 rfl rfl ?_
        refine g_iload X dX6_partner_33 rfl rfl ?_
        refine g_iconst X dX6_partner_35 rfl ?_
        refine g_isub X dX6_partner_36 rfl ?_
        refine g_aload_n X dX6_partner_37 rfl rfl ?_
        refine g_iload X dX6_partner_38 rfl rfl ?_
        refine g_iconst X dX6_partner_40 rfl ?_
        refine g_isub X dX6_partner_41 rfl ?_
        refine g_iload X dX6_partner_42 rfl rfl ?_
        refine g_iS5_v X w_X6_canPair ml_X6_22 dX6_partner_44 rfl ⟨⟨Nat.le_of_ble_eq_true rfl, Nat.le_of_ble_eq_true rfl⟩, Nat.le_of_ble_eq_true rfl, Nat.le_of_ble_eq_true rfl⟩ (Nat.le_of_ble_eq_true rfl) (c_X6_canPair hN (by omega) (by omega) (by omega) (by omega) (by omega) (by omega) (by omega) (by omega) (by omega)) ?_
        refine g_ifB_eq (tgt := 72) X dX6_partner_47 rfl rfl (fun h47 => ?_) (fun h47 => ?_)
        · skip
          have hp : ¬ canP M r o t (i - 1) (j - 1) := by have q := h47; unfold canP at q ⊢; rw [hE.l 18 0 r _ rfl, hE.l 18 0 o _ rfl] at q; exact q
          have d1 := hd (i - 1) j (by omega) (by omega) (by omega) (by omega)
          have d2 := hd i j (by omega) (by omega) (by omega) (by omega)
          refine g_aload_n X dX6_partner_72 rfl rfl ?_
          refine g_get X ci6 (n2 hN) (en2 _ _ _ _) (by decide) fl_X6_11 rfl dX6_partner_73 rfl ?_
          refine g_iload X dX6_partner_76 rfl rfl ?_
          refine g_iconst X dX6_partner_78 rfl ?_
          refine g_isub X dX6_partner_79 rfl ?_
          refine g_rrald X (n3 hN) (en3 _ _ _ _) (t0 := 7) rfl (by omega) (by omega) (by decide) dX6_partner_80 rfl ?_
          refine g_iload X dX6_partner_81 rfl rfl ?_
          refine g_iald X dX6_partner_83 rfl (n4 hN (by omega) (by omega)) (en4 _ _ _ _) (t0 := 0) rfl (by omega) (by omega) (by decide) (fun r83 => ?_)
          refine g_aload_n X dX6_partner_84 rfl rfl ?_
          refine g_get X ci6 (n2 hN) (en2 _ _ _ _) (by decide) fl_X6_11 rfl dX6_partner_85 rfl ?_
          refine g_iload X dX6_partner_88 rfl rfl ?_
          refine g_rrald X (n3 hN) (en3 _ _ _ _) (t0 := 7) rfl (by omega) (by omega) (by decide) dX6_partner_90 rfl ?_
          refine g_iload X dX6_partner_91 rfl rfl ?_
          refine g_iald X dX6_partner_93 rfl (n4 hN (by omega) (by omega)) (en4 _ _ _ _) (t0 := 0) rfl (by omega) (by omega) (by decide) (fun r93 => ?_)
          refine g_icmp_ne (tgt := 103) X dX6_partner_94 rfl rfl (by omega) (by omega) (fun h94 => ?_) (fun h94 => ?_)
          · skip
            have hq : ¬ dz (canP M r o t) (i - 1) j = dz (canP M r o t) i j := by omega
            refine g_iinc_6 X dX6_partner_103 rfl (lt_kN hNL rfl) rfl ?_
            refine g_goto (pc' := 21) X dX6_partner_106 rfl ?_
            exact ih21 n _ _ (by omega) (by omega) (by omega) (by omega) (by omega) (by omega) (by rw [← hr, pw_s, if_pos (by omega), cif_f hp, if_neg hq]; first | done | rfl)
          · skip
            have hq : dz (canP M r o t) (i - 1) j = dz (canP M r o t) i j := by omega
            refine g_iinc_5 X dX6_partner_97 rfl (lt_kN hNL rfl) rfl ?_
            refine g_goto (pc' := 21) X dX6_partner_100 rfl ?_
            exact ih21 n _ _ (by omega) (by omega) (by omega) (by omega) (by omega) (by omega) (by rw [← hr, pw_s, if_pos (by omega), cif_f hp, if_pos hq]; first | done | rfl)
        · skip
          have hp : canP M r o t (i - 1) (j - 1) := by have q := h47; unfold canP at q ⊢; rw [hE.l 18 0 r _ rfl, hE.l 18 0 o _ rfl] at q; exact q
          refine g_iload X dX6_partner_50 rfl rfl ?_
          refine g_iconst X dX6_partner_52 rfl ?_
          refine g_isub X dX6_partner_53 rfl ?_
          refine g_iload_n X dX6_partner_54 rfl rfl ?_
          refine g_icmp_ne (tgt := 63) X dX6_partner_55 rfl rfl (by omega) (by omega) (fun h55 => ?_) (fun h55 => ?_)
          · skip
            refine g_iinc_5 X dX6_partner_63 rfl (lt_kN hNL rfl) rfl ?_
            refine g_iinc_6 X dX6_partner_66 rfl (lt_kN hNL rfl) rfl ?_
            refine g_goto (pc' := 21) X dX6_partner_69 rfl ?_
            exact ih21 n _ _ (by omega) (by omega) (by omega) (by omega) (by omega) (by omega) (by rw [← hr, pw_s, if_pos (by omega), cif_t hp, if_neg (by omega)]; first | done | rfl)
          · skip
            refine g_iload X dX6_partner_58 rfl rfl ?_
            refine g_iconst X dX6_partner_60 rfl ?_
            refine g_isub X dX6_partner_61 rfl ?_
            exact g_ret Y dX6_partner_62 ⟨_, rfl⟩ ⟨by rw [← hr, pw_s, if_pos (by omega), cif_t hp, if_pos (by omega)], rfl, hE, hz2⟩
  exact lp21 121 _ _ (by omega) (by omega) (by omega) (by omega) (by omega) (by rw [ef, eg])
set_option maxRecDepth 100000 in
set_option maxHeartbeats 4000000 in
theorem c_X10_begin {δ : Dx} {nm : List (Nat × Int)} {ad : Ad} {M : Mem} {v l y : Int} (hN : NmOk nm) (v0 : 0 ≤ v) (v1 : v < 6) (rl : rng l) (ry : rng y) : Ct δ md_X10_begin 0 0 nm ad M [.ref (ad 22 v), .int (iI l), .int (iI y)] (pN ad (setI (setI M 22 0 v 0 l) 22 1 v 0 y)) := by
  refine Ct_of (ins := .return_) (ok := okN) [some (.ref (ad 22 v)), some (.int (iI l)), some (.int (iI y))] (by decide +kernel) rfl (Nat.le_of_ble_eq_true rfl) (fun κ s hs X hr hQ hδ => endN rfl hs X hr hQ hδ) (fun κ X hNL hδ Y => ?_)
  refine g_rm (fun hM => ?_)
  refine g_aload_n X dX10_begin_0 rfl rfl ?_
  refine g_iload_n X dX10_begin_1 rfl rfl ?_
  refine g_putI X ci10 (n22 hN (by omega) (by omega)) (en22 _ _ _ _) (ep22_0 _ _ _ _ _) (by omega) (by decide) rfl rfl rfl (Nat.le_of_ble_eq_true rfl) fl_X10_37 dX10_begin_2 rfl ?_
  refine g_aload_n X dX10_begin_5 rfl rfl ?_
  refine g_iload_n X dX10_begin_6 rfl rfl ?_
  refine g_putI X ci10 (n22 hN (by omega) (by omega)) (en22 _ _ _ _) (ep22_1 _ _ _ _ _) (by first | omega | (simp only [setI_1, setL_1, setI_2, setL_2]; omega) | (simp only [setI_1, setL_1, setI_2, setL_2]; simp; omega)) (by decide) rfl rfl rfl (Nat.le_of_ble_eq_true rfl) fl_X10_41 dX10_begin_7 rfl ?_
  exact g_retn Y dX10_begin_10 rfl ⟨rfl, rfl, rfl⟩
set_option maxRecDepth 100000 in
set_option maxHeartbeats 4000000 in
theorem c_X10_addShot {δ : Dx} {nm : List (Nat × Int)} {ad : Ad} {M : Mem} {v f t : Int} (hN : NmOk nm) (v0 : 0 ≤ v) (v1 : v < 6) (s0 : 0 ≤ (M.1 22 3 v 0) ∧ (M.1 22 3 v 0) < 10) (c0 : 0 ≤ (M.1 22 4 v 0) ∧ (M.1 22 4 v 0) ≤ 1000) (f0 : 0 ≤ f ∧ f ≤ 999) (t0 : 0 ≤ t ∧ t ≤ 999) : Ct δ md_X10_addShot 0 0 nm ad M [.ref (ad 22 v), .int (iI f), .int (iI t)] (pN ad (addShotM M v f t)) := by
  refine Ct_of (ins := .return_) (ok := okN) [some (.ref (ad 22 v)), some (.int (iI f)), some (.int (iI t))] (by decide +kernel) rfl (Nat.le_of_ble_eq_true rfl) (fun κ s hs X hr hQ hδ => endN rfl hs X hr hQ hδ) (fun κ X hNL hδ Y => ?_)
  refine g_rm (fun hM => ?_)
  refine g_aload_n X dX10_addShot_0 rfl rfl ?_
  refine g_get X ci10 (n22 hN (by omega) (by omega)) (en22 _ _ _ _) (by decide) fl_X10_9 rfl dX10_addShot_1 rfl ?_
  refine g_aload_n X dX10_addShot_4 rfl rfl ?_
  refine g_getI X ci10 (n22 hN (by omega) (by omega)) (en22 _ _ _ _) (by decide) fl_X10_44 rfl dX10_addShot_5 rfl (fun r5 => ?_)
  refine g_iload_n X dX10_addShot_8 rfl rfl ?_
  refine g_iast X (n23 hN (by omega) (by omega)) (en23 _ _ _ _) (en23 _ _ _ _) (t0 := 0) rfl (by omega) (by omega) (by decide) (by omega) dX10_addShot_9 rfl ?_
  refine g_aload_n X dX10_addShot_10 rfl rfl ?_
  refine g_get X ci10 (n22 hN (by omega) (by omega)) (en22 _ _ _ _) (by decide) fl_X10_15 rfl dX10_addShot_11 rfl ?_
  refine g_aload_n X dX10_addShot_14 rfl rfl ?_
  refine g_getI X ci10 (n22 hN (by omega) (by omega)) (en22 _ _ _ _) (by decide) fl_X10_44 rfl dX10_addShot_15 rfl (fun r15 => ?_)
  refine g_int (b := M.1 22 3 v 0) rfl ?_
  have r15x := hM 22 3 v 0
  refine g_iload_n X dX10_addShot_18 rfl rfl ?_
  refine g_iast X (n24 hN (by omega) (by omega)) (en24 _ _ _ _) (en24 _ _ _ _) (t0 := 0) rfl (by first | omega | (simp only [setI_1, setL_1, setI_2, setL_2]; omega) | (simp only [setI_1, setL_1, setI_2, setL_2]; simp; omega)) (by first | omega | (simp only [setI_1, setL_1, setI_2, setL_2]; omega) | (simp only [setI_1, setL_1, setI_2, setL_2]; simp; omega)) (by decide) (by first | omega | (simp only [setI_1, setL_1, setI_2, setL_2]; omega) | (simp only [setI_1, setL_1, setI_2, setL_2]; simp; omega)) dX10_addShot_19 rfl ?_
  refine g_aload_n X dX10_addShot_20 rfl rfl ?_
  refine g_get X ci10 (n22 hN (by omega) (by omega)) (en22 _ _ _ _) (by decide) fl_X10_18 rfl dX10_addShot_21 rfl ?_
  refine g_aload_n X dX10_addShot_24 rfl rfl ?_
  refine g_getI X ci10 (n22 hN (by omega) (by omega)) (en22 _ _ _ _) (by decide) fl_X10_44 rfl dX10_addShot_25 rfl (fun r25 => ?_)
  refine g_int (b := M.1 22 3 v 0) rfl ?_
  have r25x := hM 22 3 v 0
  refine g_bipush X dX10_addShot_28 rfl (by decide) ?_
  refine g_iast X (n25 hN (by omega) (by omega)) (en25 _ _ _ _) (en25 _ _ _ _) (t0 := 0) rfl (by first | omega | (simp only [setI_1, setL_1, setI_2, setL_2]; omega) | (simp only [setI_1, setL_1, setI_2, setL_2]; simp; omega)) (by first | omega | (simp only [setI_1, setL_1, setI_2, setL_2]; omega) | (simp only [setI_1, setL_1, setI_2, setL_2]; simp; omega)) (by decide) (by first | omega | (simp only [setI_1, setL_1, setI_2, setL_2]; omega) | (simp only [setI_1, setL_1, setI_2, setL_2]; simp; omega)) dX10_addShot_30 rfl ?_
  refine g_aload_n X dX10_addShot_31 rfl rfl ?_
  refine g_dup X dX10_addShot_32 rfl rfl ?_
  refine g_getI X ci10 (n22 hN (by omega) (by omega)) (en22 _ _ _ _) (by decide) fl_X10_44 rfl dX10_addShot_33 rfl (fun r33 => ?_)
  refine g_int (b := M.1 22 3 v 0) rfl ?_
  have r33x := hM 22 3 v 0
  refine g_iconst X dX10_addShot_36 rfl ?_
  refine g_iadd X dX10_addShot_37 rfl ?_
  refine g_putI X ci10 (n22 hN (by omega) (by omega)) (en22 _ _ _ _) (ep22_3 _ _ _ _ _) (by first | omega | (simp only [setI_1, setL_1, setI_2, setL_2]; omega) | (simp only [setI_1, setL_1, setI_2, setL_2]; simp; omega)) (by decide) rfl rfl rfl (Nat.le_of_ble_eq_true rfl) fl_X10_44 dX10_addShot_38 rfl ?_
  refine g_aload_n X dX10_addShot_41 rfl rfl ?_
  refine g_dup X dX10_addShot_42 rfl rfl ?_
  refine g_getI X ci10 (n22 hN (by omega) (by omega)) (en22 _ _ _ _) (by decide) fl_X10_47 rfl dX10_addShot_43 rfl (fun r43 => ?_)
  refine g_int (b := M.1 22 4 v 0) rfl ?_
  have r43x := hM 22 4 v 0
  refine g_iload_n X dX10_addShot_46 rfl rfl ?_
  refine g_iload_n X dX10_addShot_47 rfl rfl ?_
  refine g_isub X dX10_addShot_48 rfl ?_
  refine g_iconst X dX10_addShot_49 rfl ?_
  refine g_iadd X dX10_addShot_50 rfl ?_
  refine g_iadd X dX10_addShot_51 rfl ?_
  refine g_putI X ci10 (n22 hN (by omega) (by omega)) (en22 _ _ _ _) (ep22_4 _ _ _ _ _) (by first | omega | (simp only [setI_1, setL_1, setI_2, setL_2]; omega) | (simp only [setI_1, setL_1, setI_2, setL_2]; simp; omega)) (by decide) rfl rfl rfl (Nat.le_of_ble_eq_true rfl) fl_X10_47 dX10_addShot_52 rfl ?_
  exact g_retn Y dX10_addShot_55 rfl ⟨rfl, rfl, rfl⟩
set_option maxRecDepth 100000 in
set_option maxHeartbeats 4000000 in
theorem c_X10_duration {δ : Dx} {nm : List (Nat × Int)} {ad : Ad} {M : Mem} {v : Int} (hN : NmOk nm) (v0 : 0 ≤ v) (v1 : v < 6) (s0 : 0 ≤ (M.1 22 3 v 0) ∧ (M.1 22 3 v 0) ≤ 10) (hs : ∀ s, 0 ≤ s → s < (M.1 22 3 v 0) → (0 ≤ (M.1 23 0 v s) ∧ (M.1 23 0 v s) ≤ (M.1 24 0 v s) ∧ (M.1 24 0 v s) ≤ 999) ∧ 8 ≤ (M.1 25 0 v s) ∧ (M.1 25 0 v s) ≤ 30) : Ct δ md_X10_duration 0 0 nm ad M [.ref (ad 22 v)] (pV (.int (iI (dur M v))) ad M) := by
  refine Ct_of (ins := .ireturn) (ok := okI) [some (.ref (ad 22 v)), none, none, none] (by decide +kernel) rfl (Nat.le_of_ble_eq_true rfl) (fun κ s hs X hr hQ hδ => endI rfl hs X hr hQ hδ) (fun κ X hNL hδ Y => ?_)
  refine g_rm (fun hM => ?_)
  refine g_iconst X dX10_duration_0 rfl ?_
  refine g_istore_1 X dX10_duration_1 rfl (lt_kN hNL rfl) rfl ?_
  refine g_iconst X dX10_duration_2 rfl ?_
  refine g_istore_2 X dX10_duration_3 rfl (lt_kN hNL rfl) rfl ?_
  have lp4 : ∀ (a : Int) (s : Int) (k0 : 0 ≤ s) (k1 : s ≤ (M.1 22 3 v 0)) (ha : a = sm (durT M v) 0 s), G κ nm ad M 4 [some (.ref (ad 22 v)), some (.int (iI a)), some (.int (iI s)), none] [] 0 0 := by
    refine ind2 (fun a s => (10 - s).toNat) ?_
    intro a s ih4 k0 k1 ha
    refine g_rm (fun hM4 => ?_)
    have ps := sm_s (durT M v) (lo := 0) (hi := s) k0
    have pb := sm_b (f := durT M v) (lo := 0) (hi := s) (c := 1000000) k0 (fun k h1 h2 => by have q := hs k h1 (by omega); have q2 := tdiv_b (a := ((M.1 24 0 v k) - (M.1 23 0 v k) + 1) * 1000) (b := (M.1 25 0 v k)) (by omega) (by omega); unfold durT; omega)
    refine g_iload_n X dX10_duration_4 rfl rfl ?_
    refine g_aload_n X dX10_duration_5 rfl rfl ?_
    refine g_getI X ci10 (n22 hN (by omega) (by omega)) (en22 _ _ _ _) (by decide) fl_X10_44 rfl dX10_duration_6 rfl (fun r6 => ?_)
    refine g_icmp_ge (tgt := 53) X dX10_duration_9 rfl rfl (by omega) (by omega) (fun h9 => ?_) (fun h9 => ?_)
    · skip
      refine g_iload_n X dX10_duration_53 rfl rfl ?_
      exact g_ret Y dX10_duration_54 ⟨_, rfl⟩ (pVI (by rw [ha, show s = (M.1 22 3 v 0) by omega]; rfl))
    · skip
      have q := hs s (by omega) (by omega)
      have q2 := tdiv_b (a := ((M.1 24 0 v s) - (M.1 23 0 v s) + 1) * 1000) (b := (M.1 25 0 v s)) (by omega) (by omega)
      refine g_aload_n X dX10_duration_12 rfl rfl ?_
      refine g_get X ci10 (n22 hN (by omega) (by omega)) (en22 _ _ _ _) (by decide) fl_X10_18 rfl dX10_duration_13 rfl ?_
      refine g_iload_n X dX10_duration_16 rfl rfl ?_
      refine g_iald X dX10_duration_17 rfl (n25 hN (by omega) (by omega)) (en25 _ _ _ _) (t0 := 0) rfl (by omega) (by omega) (by decide) (fun r17 => ?_)
      refine g_istore_3 X dX10_duration_18 rfl (lt_kN hNL rfl) rfl ?_
      refine g_iload_n X dX10_duration_19 rfl rfl ?_
      refine g_if_le (tgt := 47) X dX10_duration_20 rfl rfl (by omega) (fun h20 => ?_) (fun h20 => ?_)
      · skip
        exfalso; omega
      · skip
        refine g_iload_n X dX10_duration_23 rfl rfl ?_
        refine g_aload_n X dX10_duration_24 rfl rfl ?_
        refine g_get X ci10 (n22 hN (by omega) (by omega)) (en22 _ _ _ _) (by decide) fl_X10_15 rfl dX10_duration_25 rfl ?_
        refine g_iload_n X dX10_duration_28 rfl rfl ?_
        refine g_iald X dX10_duration_29 rfl (n24 hN (by omega) (by omega)) (en24 _ _ _ _) (t0 := 0) rfl (by omega) (by omega) (by decide) (fun r29 => ?_)
        refine g_aload_n X dX10_duration_30 rfl rfl ?_
        refine g_get X ci10 (n22 hN (by omega) (by omega)) (en22 _ _ _ _) (by decide) fl_X10_9 rfl dX10_duration_31 rfl ?_
        refine g_iload_n X dX10_duration_34 rfl rfl ?_
        refine g_iald X dX10_duration_35 rfl (n23 hN (by omega) (by omega)) (en23 _ _ _ _) (t0 := 0) rfl (by omega) (by omega) (by decide) (fun r35 => ?_)
        refine g_isub X dX10_duration_36 rfl ?_
        refine g_iconst X dX10_duration_37 rfl ?_
        refine g_iadd X dX10_duration_38 rfl ?_
        refine g_sipush X dX10_duration_39 rfl (by decide) ?_
        refine g_imul X dX10_duration_42 rfl ?_
        refine g_iload_n X dX10_duration_43 rfl rfl ?_
        refine g_idiv X dX10_duration_44 rfl (by omega) (by omega) (by omega) (by omega) ?_
        refine g_iadd X dX10_duration_45 rfl ?_
        refine g_istore_1 X dX10_duration_46 rfl (lt_kN hNL rfl) rfl ?_
        refine g_iinc_2 X dX10_duration_47 rfl (lt_kN hNL rfl) rfl ?_
        refine g_goto (pc' := 4) X dX10_duration_50 rfl ?_
        refine g_drop_3 ?_
        exact ih4 _ (s + 1) (by omega) (by omega) (by omega) (by rw [ps, ha]; rfl)
  exact lp4 0 0 (by omega) (by omega) (sm_0 _ (by omega)).symm
set_option maxRecDepth 100000 in
set_option maxHeartbeats 4000000 in
theorem c_X10_addRight {δ : Dx} {nm : List (Nat × Int)} {ad : Ad} {M : Mem} {v h l f t : Int} (hN : NmOk nm) (v0 : 0 ≤ v) (v1 : v < 6) (s0 : 0 ≤ (M.1 22 8 v 0) ∧ (M.1 22 8 v 0) < 40) (rh : rng h) (rl : rng l) (rf : rng f) (rt : rng t) : Ct δ md_X10_addRight 0 0 nm ad M [.ref (ad 22 v), .int (iI h), .int (iI l), .int (iI f), .int (iI t)] (pN ad (addRightM M v h l f t)) := by
  refine Ct_of (ins := .return_) (ok := okN) [some (.ref (ad 22 v)), some (.int (iI h)), some (.int (iI l)), some (.int (iI f)), some (.int (iI t))] (by decide +kernel) rfl (Nat.le_of_ble_eq_true rfl) (fun κ s hs X hr hQ hδ => endN rfl hs X hr hQ hδ) (fun κ X hNL hδ Y => ?_)
  refine g_rm (fun hM => ?_)
  refine g_aload_n X dX10_addRight_0 rfl rfl ?_
  refine g_get X ci10 (n22 hN (by omega) (by omega)) (en22 _ _ _ _) (by decide) fl_X10_21 rfl dX10_addRight_1 rfl ?_
  refine g_aload_n X dX10_addRight_4 rfl rfl ?_
  refine g_getI X ci10 (n22 hN (by omega) (by omega)) (en22 _ _ _ _) (by decide) fl_X10_50 rfl dX10_addRight_5 rfl (fun r5 => ?_)
  refine g_iload_n X dX10_addRight_8 rfl rfl ?_
  refine g_iast X (n26 hN (by omega) (by omega)) (en26 _ _ _ _) (en26 _ _ _ _) (t0 := 0) rfl (by omega) (by omega) (by decide) (by omega) dX10_addRight_9 rfl ?_
  refine g_aload_n X dX10_addRight_10 rfl rfl ?_
  refine g_get X ci10 (n22 hN (by omega) (by omega)) (en22 _ _ _ _) (by decide) fl_X10_24 rfl dX10_addRight_11 rfl ?_
  refine g_aload_n X dX10_addRight_14 rfl rfl ?_
  refine g_getI X ci10 (n22 hN (by omega) (by omega)) (en22 _ _ _ _) (by decide) fl_X10_50 rfl dX10_addRight_15 rfl (fun r15 => ?_)
  refine g_int (b := M.1 22 8 v 0) rfl ?_
  have r15x := hM 22 8 v 0
  refine g_iload_n X dX10_addRight_18 rfl rfl ?_
  refine g_iast X (n27 hN (by omega) (by omega)) (en27 _ _ _ _) (en27 _ _ _ _) (t0 := 0) rfl (by first | omega | (simp only [setI_1, setL_1, setI_2, setL_2]; omega) | (simp only [setI_1, setL_1, setI_2, setL_2]; simp; omega)) (by first | omega | (simp only [setI_1, setL_1, setI_2, setL_2]; omega) | (simp only [setI_1, setL_1, setI_2, setL_2]; simp; omega)) (by decide) (by first | omega | (simp only [setI_1, setL_1, setI_2, setL_2]; omega) | (simp only [setI_1, setL_1, setI_2, setL_2]; simp; omega)) dX10_addRight_19 rfl ?_
  refine g_aload_n X dX10_addRight_20 rfl rfl ?_
  refine g_get X ci10 (n22 hN (by omega) (by omega)) (en22 _ _ _ _) (by decide) fl_X10_27 rfl dX10_addRight_21 rfl ?_
  refine g_aload_n X dX10_addRight_24 rfl rfl ?_
  refine g_getI X ci10 (n22 hN (by omega) (by omega)) (en22 _ _ _ _) (by decide) fl_X10_50 rfl dX10_addRight_25 rfl (fun r25 => ?_)
  refine g_int (b := M.1 22 8 v 0) rfl ?_
  have r25x := hM 22 8 v 0
  refine g_iload_n X dX10_addRight_28 rfl rfl ?_
  refine g_iast X (n28 hN (by omega) (by omega)) (en28 _ _ _ _) (en28 _ _ _ _) (t0 := 0) rfl (by first | omega | (simp only [setI_1, setL_1, setI_2, setL_2]; omega) | (simp only [setI_1, setL_1, setI_2, setL_2]; simp; omega)) (by first | omega | (simp only [setI_1, setL_1, setI_2, setL_2]; omega) | (simp only [setI_1, setL_1, setI_2, setL_2]; simp; omega)) (by decide) (by first | omega | (simp only [setI_1, setL_1, setI_2, setL_2]; omega) | (simp only [setI_1, setL_1, setI_2, setL_2]; simp; omega)) dX10_addRight_29 rfl ?_
  refine g_aload_n X dX10_addRight_30 rfl rfl ?_
  refine g_get X ci10 (n22 hN (by omega) (by omega)) (en22 _ _ _ _) (by decide) fl_X10_30 rfl dX10_addRight_31 rfl ?_
  refine g_aload_n X dX10_addRight_34 rfl rfl ?_
  refine g_getI X ci10 (n22 hN (by omega) (by omega)) (en22 _ _ _ _) (by decide) fl_X10_50 rfl dX10_addRight_35 rfl (fun r35 => ?_)
  refine g_int (b := M.1 22 8 v 0) rfl ?_
  have r35x := hM 22 8 v 0
  refine g_iload X dX10_addRight_38 rfl rfl ?_
  refine g_iast X (n29 hN (by omega) (by omega)) (en29 _ _ _ _) (en29 _ _ _ _) (t0 := 0) rfl (by first | omega | (simp only [setI_1, setL_1, setI_2, setL_2]; omega) | (simp only [setI_1, setL_1, setI_2, setL_2]; simp; omega)) (by first | omega | (simp only [setI_1, setL_1, setI_2, setL_2]; omega) | (simp only [setI_1, setL_1, setI_2, setL_2]; simp; omega)) (by decide) (by first | omega | (simp only [setI_1, setL_1, setI_2, setL_2]; omega) | (simp only [setI_1, setL_1, setI_2, setL_2]; simp; omega)) dX10_addRight_40 rfl ?_
  refine g_aload_n X dX10_addRight_41 rfl rfl ?_
  refine g_dup X dX10_addRight_42 rfl rfl ?_
  refine g_getI X ci10 (n22 hN (by omega) (by omega)) (en22 _ _ _ _) (by decide) fl_X10_50 rfl dX10_addRight_43 rfl (fun r43 => ?_)
  refine g_int (b := M.1 22 8 v 0) rfl ?_
  have r43x := hM 22 8 v 0
  refine g_iconst X dX10_addRight_46 rfl ?_
  refine g_iadd X dX10_addRight_47 rfl ?_
  refine g_putI X ci10 (n22 hN (by omega) (by omega)) (en22 _ _ _ _) (ep22_8 _ _ _ _ _) (by first | omega | (simp only [setI_1, setL_1, setI_2, setL_2]; omega) | (simp only [setI_1, setL_1, setI_2, setL_2]; simp; omega)) (by decide) rfl rfl rfl (Nat.le_of_ble_eq_true rfl) fl_X10_50 dX10_addRight_48 rfl ?_
  exact g_retn Y dX10_addRight_51 rfl ⟨rfl, rfl, rfl⟩
set_option maxRecDepth 100000 in
set_option maxHeartbeats 4000000 in
theorem c_X10_isFreeIn {δ : Dx} {nm : List (Nat × Int)} {ad : Ad} {M : Mem} {v l y : Int} (hN : NmOk nm) (v0 : 0 ≤ v) (v1 : v < 6) (s0 : 0 ≤ (M.1 22 8 v 0) ∧ (M.1 22 8 v 0) ≤ 40) (hh : ∀ k, 0 ≤ k → k < (M.1 22 8 v 0) → 0 ≤ (M.1 26 0 v k) ∧ (M.1 26 0 v k) ≤ 9) (rl : rng l) (ry : rng y) : Ct δ md_X10_isFreeIn 0 0 nm ad M [.ref (ad 22 v), .int (iI l), .int (iI y)] (pV (.int (iI (bI (freeIn M v l y)))) ad M) := by
  refine Ct_of (ins := .ireturn) (ok := okZ) [some (.ref (ad 22 v)), some (.int (iI l)), some (.int (iI y)), none, none] (by decide +kernel) rfl (Nat.le_of_ble_eq_true rfl) (fun κ s hs X hr hQ hδ => endZ rfl hs X hr hQ hδ) (fun κ X hNL hδ Y => ?_)
  refine g_rm (fun hM => ?_)
  refine g_iconst X dX10_isFreeIn_0 rfl ?_
  refine g_istore_3 X dX10_isFreeIn_1 rfl (lt_kN hNL rfl) rfl ?_
  have lp2 : ∀ (k : Int) (k0 : 0 ≤ k) (k1 : k ≤ (M.1 22 8 v 0)) (ha : ∀ j, 0 ≤ j → j < k → (M.1 27 0 v j) = l → (M.1 28 0 v j) ≤ y → y ≤ (M.1 29 0 v j) → (M.1 30 0 v ((M.1 26 0 v j))) ≠ 0), G κ nm ad M 2 [some (.ref (ad 22 v)), some (.int (iI l)), some (.int (iI y)), some (.int (iI k)), none] [] 0 0 := by
    refine ind1 (fun k => (40 - k).toNat) ?_
    intro k ih2 k0 k1 ha
    refine g_rm (fun hM2 => ?_)
    refine g_iload_n X dX10_isFreeIn_2 rfl rfl ?_
    refine g_aload_n X dX10_isFreeIn_3 rfl rfl ?_
    refine g_getI X ci10 (n22 hN (by omega) (by omega)) (en22 _ _ _ _) (by decide) fl_X10_50 rfl dX10_isFreeIn_4 rfl (fun r4 => ?_)
    refine g_icmp_ge (tgt := 73) X dX10_isFreeIn_7 rfl rfl (by omega) (by omega) (fun h7 => ?_) (fun h7 => ?_)
    · skip
      refine g_iconst X dX10_isFreeIn_73 rfl ?_
      exact g_ret Y dX10_isFreeIn_74 okZ1 (pVt (fun j h1 h2 => ha j h1 (by omega)))
    · skip
      refine g_cutB 44 ((M.1 27 0 v k) = l ∧ (M.1 28 0 v k) ≤ y ∧ y ≤ (M.1 29 0 v k)) (fun ct10 cf10 => ?_) ?_
      · skip
        refine g_aload_n X dX10_isFreeIn_10 rfl rfl ?_
        refine g_get X ci10 (n22 hN (by omega) (by omega)) (en22 _ _ _ _) (by decide) fl_X10_24 rfl dX10_isFreeIn_11 rfl ?_
        refine g_iload_n X dX10_isFreeIn_14 rfl rfl ?_
        refine g_iald X dX10_isFreeIn_15 rfl (n27 hN (by omega) (by omega)) (en27 _ _ _ _) (t0 := 0) rfl (by omega) (by omega) (by decide) (fun r15 => ?_)
        refine g_iload_n X dX10_isFreeIn_16 rfl rfl ?_
        refine g_icmp_ne (tgt := 43) X dX10_isFreeIn_17 rfl rfl (by omega) (by omega) (fun h17 => ?_) (fun h17 => ?_)
        · skip
          refine g_iconst X dX10_isFreeIn_43 rfl ?_
          exact cf10 (by omega)
        · skip
          refine g_iload_n X dX10_isFreeIn_20 rfl rfl ?_
          refine g_aload_n X dX10_isFreeIn_21 rfl rfl ?_
          refine g_get X ci10 (n22 hN (by omega) (by omega)) (en22 _ _ _ _) (by decide) fl_X10_27 rfl dX10_isFreeIn_22 rfl ?_
          refine g_iload_n X dX10_isFreeIn_25 rfl rfl ?_
          refine g_iald X dX10_isFreeIn_26 rfl (n28 hN (by omega) (by omega)) (en28 _ _ _ _) (t0 := 0) rfl (by omega) (by omega) (by decide) (fun r26 => ?_)
          refine g_aload_n X dX10_isFreeIn_27 rfl rfl ?_
          refine g_get X ci10 (n22 hN (by omega) (by omega)) (en22 _ _ _ _) (by decide) fl_X10_30 rfl dX10_isFreeIn_28 rfl ?_
          refine g_iload_n X dX10_isFreeIn_31 rfl rfl ?_
          refine g_iald X dX10_isFreeIn_32 rfl (n29 hN (by omega) (by omega)) (en29 _ _ _ _) (t0 := 0) rfl (by omega) (by omega) (by decide) (fun r32 => ?_)
          refine g_iN3_v X w_X11_isWithin ml_X10_53 dX10_isFreeIn_33 rfl ⟨⟨Nat.le_of_ble_eq_true rfl, Nat.le_of_ble_eq_true rfl⟩, Nat.le_of_ble_eq_true rfl, Nat.le_of_ble_eq_true rfl⟩ (Nat.le_of_ble_eq_true rfl) (c_X11_isWithin hN (by omega) (by omega) (by omega)) ?_
          refine g_ifB_eq (tgt := 43) X dX10_isFreeIn_36 rfl rfl (fun h36 => ?_) (fun h36 => ?_)
          · skip
            refine g_iconst X dX10_isFreeIn_43 rfl ?_
            exact cf10 (by omega)
          · skip
            refine g_iconst X dX10_isFreeIn_39 rfl ?_
            refine g_goto (pc' := 44) X dX10_isFreeIn_40 rfl ?_
            exact ct10 (by omega)
      · skip
        have q := hh k (by omega) (by omega)
        refine g_istore_4 X dX10_isFreeIn_44 rfl (lt_kN hNL rfl) rfl ?_
        refine g_iload X dX10_isFreeIn_46 rfl rfl ?_
        refine g_ifB_eq (tgt := 67) X dX10_isFreeIn_48 rfl rfl (fun h48 => ?_) (fun h48 => ?_)
        · skip
          refine g_iinc_3 X dX10_isFreeIn_67 rfl (lt_kN hNL rfl) rfl ?_
          refine g_goto (pc' := 2) X dX10_isFreeIn_70 rfl ?_
          refine g_drop_4 ?_
          exact ih2 (k + 1) (by omega) (by omega) (by omega) (fun j h1 h2 h3 h4 h5 => (Int.lt_or_eq_of_le (Int.le_of_lt_add_one h2)).elim (fun q => ha j h1 q h3 h4 h5) (fun q => by subst q; first | assumption | exact absurd (And.intro h3 (And.intro h4 h5)) (by assumption)))
        · skip
          refine g_aload_n X dX10_isFreeIn_51 rfl rfl ?_
          refine g_get X ci10 (n22 hN (by omega) (by omega)) (en22 _ _ _ _) (by decide) fl_X10_33 rfl dX10_isFreeIn_52 rfl ?_
          refine g_aload_n X dX10_isFreeIn_55 rfl rfl ?_
          refine g_get X ci10 (n22 hN (by omega) (by omega)) (en22 _ _ _ _) (by decide) fl_X10_21 rfl dX10_isFreeIn_56 rfl ?_
          refine g_iload_n X dX10_isFreeIn_59 rfl rfl ?_
          refine g_iald X dX10_isFreeIn_60 rfl (n26 hN (by omega) (by omega)) (en26 _ _ _ _) (t0 := 0) rfl (by omega) (by omega) (by decide) (fun r60 => ?_)
          refine g_zald X dX10_isFreeIn_61 rfl (n30 hN (by omega) (by omega)) (en30 _ _ _ _) (t0 := 2) rfl (by omega) (by omega) (by decide) (fun r61 => ?_)
          refine g_if_ne (tgt := 67) X dX10_isFreeIn_62 rfl rfl (by omega) (fun h62 => ?_) (fun h62 => ?_)
          · skip
            refine g_iinc_3 X dX10_isFreeIn_67 rfl (lt_kN hNL rfl) rfl ?_
            refine g_goto (pc' := 2) X dX10_isFreeIn_70 rfl ?_
            refine g_drop_4 ?_
            exact ih2 (k + 1) (by omega) (by omega) (by omega) (fun j h1 h2 h3 h4 h5 => (Int.lt_or_eq_of_le (Int.le_of_lt_add_one h2)).elim (fun q => ha j h1 q h3 h4 h5) (fun q => by subst q; first | assumption | exact absurd (And.intro h3 (And.intro h4 h5)) (by assumption)))
          · skip
            refine g_iconst X dX10_isFreeIn_65 rfl ?_
            exact g_ret Y dX10_isFreeIn_66 okZ0 (pVf (fun q => q k k0 (by omega) h48.1 h48.2.1 h48.2.2 h62))
  exact lp2 0 (by omega) (by omega) (fun j h1 h2 => absurd h2 (by omega))
set_option maxRecDepth 100000 in
set_option maxHeartbeats 4000000 in
theorem c_X9_add {δ : Dx} {nm : List (Nat × Int)} {ad : Ad} {M : Mem} {c t : Int} (hN : NmOk nm) (s0 : 0 ≤ (M.1 6 0 0 0) ∧ (M.1 6 0 0 0) < 100) (rc : rng c) (rt : rng t) : Ct δ md_X9_add 0 0 nm ad M [.ref (ad 6 0), .int (iI c), .int (iI t)] (pN ad (setI (setI (setI M 7 0 0 (M.1 6 0 0 0) c) 8 0 0 (M.1 6 0 0 0) t) 6 0 0 0 ((M.1 6 0 0 0) + 1))) := by
  refine Ct_of (ins := .return_) (ok := okN) [some (.ref (ad 6 0)), some (.int (iI c)), some (.int (iI t))] (by decide +kernel) rfl (Nat.le_of_ble_eq_true rfl) (fun κ s hs X hr hQ hδ => endN rfl hs X hr hQ hδ) (fun κ X hNL hδ Y => ?_)
  refine g_rm (fun hM => ?_)
  refine g_aload_n X dX9_add_0 rfl rfl ?_
  refine g_get X ci9 (n6 hN) (en6 _ _ _ _) (by decide) fl_X9_9 rfl dX9_add_1 rfl ?_
  refine g_aload_n X dX9_add_4 rfl rfl ?_
  refine g_getI X ci9 (n6 hN) (en6 _ _ _ _) (by decide) fl_X9_21 rfl dX9_add_5 rfl (fun r5 => ?_)
  refine g_iload_n X dX9_add_8 rfl rfl ?_
  refine g_iast X (n7 hN) (en7 _ _ _ _) (en7 _ _ _ _) (t0 := 0) rfl (by omega) (by omega) (by decide) (by omega) dX9_add_9 rfl ?_
  refine g_aload_n X dX9_add_10 rfl rfl ?_
  refine g_get X ci9 (n6 hN) (en6 _ _ _ _) (by decide) fl_X9_15 rfl dX9_add_11 rfl ?_
  refine g_aload_n X dX9_add_14 rfl rfl ?_
  refine g_getI X ci9 (n6 hN) (en6 _ _ _ _) (by decide) fl_X9_21 rfl dX9_add_15 rfl (fun r15 => ?_)
  refine g_int (b := M.1 6 0 0 0) rfl ?_
  have r15x := hM 6 0 0 0
  refine g_iload_n X dX9_add_18 rfl rfl ?_
  refine g_iast X (n8 hN) (en8 _ _ _ _) (en8 _ _ _ _) (t0 := 0) rfl (by first | omega | (simp only [setI_1, setL_1, setI_2, setL_2]; omega) | (simp only [setI_1, setL_1, setI_2, setL_2]; simp; omega)) (by first | omega | (simp only [setI_1, setL_1, setI_2, setL_2]; omega) | (simp only [setI_1, setL_1, setI_2, setL_2]; simp; omega)) (by decide) (by first | omega | (simp only [setI_1, setL_1, setI_2, setL_2]; omega) | (simp only [setI_1, setL_1, setI_2, setL_2]; simp; omega)) dX9_add_19 rfl ?_
  refine g_aload_n X dX9_add_20 rfl rfl ?_
  refine g_dup X dX9_add_21 rfl rfl ?_
  refine g_getI X ci9 (n6 hN) (en6 _ _ _ _) (by decide) fl_X9_21 rfl dX9_add_22 rfl (fun r22 => ?_)
  refine g_int (b := M.1 6 0 0 0) rfl ?_
  have r22x := hM 6 0 0 0
  refine g_iconst X dX9_add_25 rfl ?_
  refine g_iadd X dX9_add_26 rfl ?_
  refine g_putI X ci9 (n6 hN) (en6 _ _ _ _) (ep6_0 _ _ _ _ _) (by first | omega | (simp only [setI_1, setL_1, setI_2, setL_2]; omega) | (simp only [setI_1, setL_1, setI_2, setL_2]; simp; omega)) (by decide) rfl rfl rfl (Nat.le_of_ble_eq_true rfl) fl_X9_21 dX9_add_27 rfl ?_
  exact g_retn Y dX9_add_30 rfl ⟨rfl, rfl, rfl⟩
set_option maxRecDepth 100000 in
set_option maxHeartbeats 4000000 in
theorem c_X9_withCode {δ : Dx} {nm : List (Nat × Int)} {ad : Ad} {M : Mem} {c : Int} (hN : NmOk nm) (s0 : 0 ≤ (M.1 6 0 0 0) ∧ (M.1 6 0 0 0) ≤ 100) (rc : rng c) : Ct δ md_X9_withCode 0 0 nm ad M [.ref (ad 6 0), .int (iI c)] (pV (.int (iI (scN M c))) ad M) := by
  refine Ct_of (ins := .ireturn) (ok := okI) [some (.ref (ad 6 0)), some (.int (iI c)), none, none] (by decide +kernel) rfl (Nat.le_of_ble_eq_true rfl) (fun κ s hs X hr hQ hδ => endI rfl hs X hr hQ hδ) (fun κ X hNL hδ Y => ?_)
  refine g_rm (fun hM => ?_)
  refine g_iconst X dX9_withCode_0 rfl ?_
  refine g_istore_2 X dX9_withCode_1 rfl (lt_kN hNL rfl) rfl ?_
  refine g_iconst X dX9_withCode_2 rfl ?_
  refine g_istore_3 X dX9_withCode_3 rfl (lt_kN hNL rfl) rfl ?_
  have lp4 : ∀ (a : Int) (j : Int) (k0 : 0 ≤ j) (k1 : j ≤ (M.1 6 0 0 0)) (ha : a = sm (scT M c) 0 j), G κ nm ad M 4 [some (.ref (ad 6 0)), some (.int (iI c)), some (.int (iI a)), some (.int (iI j))] [] 0 0 := by
    refine ind2 (fun a j => (100 - j).toNat) ?_
    intro a j ih4 k0 k1 ha
    refine g_rm (fun hM4 => ?_)
    have ps := sm_s (scT M c) (lo := 0) (hi := j) k0
    have pb := sm_b1 (f := scT M c) (lo := 0) (hi := j) k0 (fun k _ _ => bI_b _)
    refine g_iload_n X dX9_withCode_4 rfl rfl ?_
    refine g_aload_n X dX9_withCode_5 rfl rfl ?_
    refine g_getI X ci9 (n6 hN) (en6 _ _ _ _) (by decide) fl_X9_21 rfl dX9_withCode_6 rfl (fun r6 => ?_)
    refine g_icmp_ge (tgt := 31) X dX9_withCode_9 rfl rfl (by omega) (by omega) (fun h9 => ?_) (fun h9 => ?_)
    · skip
      refine g_iload_n X dX9_withCode_31 rfl rfl ?_
      exact g_ret Y dX9_withCode_32 ⟨_, rfl⟩ (pVI (by rw [ha, show j = (M.1 6 0 0 0) by omega]; rfl))
    · skip
      refine g_aload_n X dX9_withCode_12 rfl rfl ?_
      refine g_get X ci9 (n6 hN) (en6 _ _ _ _) (by decide) fl_X9_9 rfl dX9_withCode_13 rfl ?_
      refine g_iload_n X dX9_withCode_16 rfl rfl ?_
      refine g_iald X dX9_withCode_17 rfl (n7 hN) (en7 _ _ _ _) (t0 := 0) rfl (by omega) (by omega) (by decide) (fun r17 => ?_)
      refine g_iload_n X dX9_withCode_18 rfl rfl ?_
      refine g_icmp_ne (tgt := 25) X dX9_withCode_19 rfl rfl (by omega) (by omega) (fun h19 => ?_) (fun h19 => ?_)
      · skip
        refine g_iinc_3 X dX9_withCode_25 rfl (lt_kN hNL rfl) rfl ?_
        refine g_goto (pc' := 4) X dX9_withCode_28 rfl ?_
        exact ih4 _ (j + 1) (by omega) (by omega) (by omega) (by rw [ps, ha]; unfold scT; first | (rw [bI_t (by assumption)]; done) | (rw [bI_f (by assumption)]; omega) | (rw [bI_t (by omega)]; done) | (rw [bI_f (by omega)]; omega))
      · skip
        refine g_iinc_2 X dX9_withCode_22 rfl (lt_kN hNL rfl) rfl ?_
        refine g_iinc_3 X dX9_withCode_25 rfl (lt_kN hNL rfl) rfl ?_
        refine g_goto (pc' := 4) X dX9_withCode_28 rfl ?_
        exact ih4 _ (j + 1) (by omega) (by omega) (by omega) (by rw [ps, ha]; unfold scT; first | (rw [bI_t (by assumption)]; done) | (rw [bI_f (by assumption)]; omega) | (rw [bI_t (by omega)]; done) | (rw [bI_f (by omega)]; omega))
  exact lp4 0 0 (by omega) (by omega) (sm_0 _ (by omega)).symm
