theorem pR_out51 (k f : Nat) (h : pR k f = true) : (k == 51) = false := by
  unfold pR at h
  cases e : (k == 51)
  · rfl
  · simp only [Bool.or_eq_true, beq_iff_eq] at e h
    simp only [Bool.and_eq_true, Bool.or_eq_true, beq_iff_eq] at h
    omega
theorem RelR.bt {C M M' : Mem} (h : RelR C M) (hE : Ex (fun k => k == 51) M M') : RelR C M' := h.ag (Ag.rf C) (Ag.ex hE pR_out51)
theorem RelR.cp {C M : Mem} (hR : RelR C M) {r i q j : Int} (r0 : 0 ≤ r) (r1 : r < (C.1 0 1 0 0)) (q0 : 0 ≤ q) (q1 : q < (C.1 0 1 0 0)) (i0 : 0 ≤ i) (i1 : i < (C.1 16 6 r 0)) (j0 : 0 ≤ j) (j1 : j < (C.1 16 6 q 0)) : dist (M.2 49 0 0 (60 * r + i)) (M.2 49 0 0 (60 * q + j)) ≤ (M.1 40 11 0 0) ↔ canP C r q (C.1 0 3 0 0) i j := by
  unfold canP
  rw [(hR.fr r i r0 r1 i0 i1).2, (hR.fr q j q0 q1 j0 j1).2, hR.e.2.1]
theorem dz_c (p : Int → Int → Prop) {i j : Int} (hi : 1 ≤ i) (hj : 1 ≤ j) : (p (i - 1) (j - 1) ∧ dz p i j = dz p (i - 1) (j - 1) + 1) ∨ (¬ p (i - 1) (j - 1) ∧ dz p i j = if dz p (i - 1) j < dz p i (j - 1) then dz p i (j - 1) else dz p (i - 1) j) := by
  rw [dz_s p hi hj]
  by_cases h : p (i - 1) (j - 1)
  · exact Or.inl ⟨h, cif_t h⟩
  · exact Or.inr ⟨h, cif_f h⟩
theorem dz_z' {p : Int → Int → Prop} {i j : Int} (h : j = 0) : dz p i j = 0 := by rw [h]; exact dz_z p
theorem dz_0' {p : Int → Int → Prop} {i j : Int} (h : i = 0) : dz p i j = 0 := by rw [h]; exact dz_0 p
theorem cif_01 {P : Prop} {a b : Int} : (P ∧ cif P a b = a) ∨ (¬ P ∧ cif P a b = b) := by
  by_cases h : P
  · exact Or.inl ⟨h, cif_t h⟩
  · exact Or.inr ⟨h, cif_f h⟩
set_option maxRecDepth 100000 in
set_option maxHeartbeats 4000000 in
theorem c_X12_pairs {δ : Dx} {nm : List (Nat × Int)} {ad : Ad} {M : Mem} {C : Mem} {r q : Int} (hN : NmOk nm) (hR : RelR C M) (r0 : 0 ≤ r) (q1 : r < (C.1 0 1 0 0)) (q0 : 0 ≤ q) (q2 : q < (C.1 0 1 0 0)) : Ct δ md_X12_pairs 0 0 nm ad M [.ref (ad 40 0), .int (iI r), .int (iI q)] (pG (.int (iI (dz (canP C r q (C.1 0 3 0 0)) (C.1 16 6 r 0) (C.1 16 6 q 0)))) ad (fun M' => Ex (fun k => k == 51) M M' ∧ ∀ i j, 0 ≤ i → i ≤ (C.1 16 6 r 0) → 0 ≤ j → j ≤ (C.1 16 6 q 0) → (M'.1 51 0 0 (61 * i + j)) = dz (canP C r q (C.1 0 3 0 0)) i j)) := by
  refine Ct_of (ins := .ireturn) (ok := okI) [some (.ref (ad 40 0)), some (.int (iI r)), some (.int (iI q)), none, none, none, none, none, none] (by decide +kernel) rfl (Nat.le_of_ble_eq_true rfl) (fun κ s hs X hr hQ hδ => endI rfl hs X hr hQ hδ) (fun κ X hNL hδ Y => ?_)
  refine g_rm (fun hM => ?_)
  have rc := hR.rc
  have he := hR.e
  have hd := hR.rd r r0 q1
  have hd2 := hR.rd q q0 q2
  have fb := hd.fc
  have fb2 := hd2.fc
  have mi := hR.mi r r0 q1
  have mi2 := hR.mi q q0 q2
  refine g_iconst X dX12_pairs_0 rfl ?_
  refine g_istore_3 X dX12_pairs_1 rfl (lt_kN hNL rfl) rfl ?_
  have lp2 : ∀ (i : Int) (M1 : Mem) (i0 : 0 ≤ i) (i1 : i ≤ (C.1 16 6 r 0) + 1) (hE1 : Ex (fun k => k == 51) M M1) (hd1 : ∀ a b, 0 ≤ a → a < i → 0 ≤ b → b ≤ (C.1 16 6 q 0) → (M1.1 51 0 0 (61 * a + b)) = dz (canP C r q (C.1 0 3 0 0)) a b), G κ nm ad M1 2 [some (.ref (ad 40 0)), some (.int (iI r)), some (.int (iI q)), some (.int (iI i)), none, none, none, none, none] [] 0 0 := by
    refine ind2 (fun i M1 => (61 - i).toNat) ?_
    intro i M1 ih2 i0 i1 hE1 hd1
    refine g_rm (fun hM2 => ?_)
    have n1 := hE1.i 47 0 0 r rfl
    have n2 := hE1.i 47 0 0 q rfl
    refine g_iload_n X dX12_pairs_2 rfl rfl ?_
    refine g_aload_n X dX12_pairs_3 rfl rfl ?_
    refine g_get X ci12 (n40 hN) (en40 _ _ _ _) (by decide) fl_X12_28 rfl dX12_pairs_4 rfl ?_
    refine g_iload_n X dX12_pairs_7 rfl rfl ?_
    refine g_iald X dX12_pairs_8 rfl (n47 hN) (en47 _ _ _ _) (t0 := 0) rfl (by omega) (by omega) (by decide) (fun r8 => ?_)
    refine g_icmp_gt (tgt := 168) X dX12_pairs_9 rfl rfl (by omega) (by omega) (fun h9 => ?_) (fun h9 => ?_)
    · skip
      refine g_aload_n X dX12_pairs_168 rfl rfl ?_
      refine g_get X ci12 (n40 hN) (en40 _ _ _ _) (by decide) fl_X12_48 rfl dX12_pairs_169 rfl ?_
      refine g_bipush X dX12_pairs_172 rfl (by decide) ?_
      refine g_aload_n X dX12_pairs_174 rfl rfl ?_
      refine g_get X ci12 (n40 hN) (en40 _ _ _ _) (by decide) fl_X12_28 rfl dX12_pairs_175 rfl ?_
      refine g_iload_n X dX12_pairs_178 rfl rfl ?_
      refine g_iald X dX12_pairs_179 rfl (n47 hN) (en47 _ _ _ _) (t0 := 0) rfl (by omega) (by omega) (by decide) (fun r179 => ?_)
      refine g_imul X dX12_pairs_180 rfl ?_
      refine g_aload_n X dX12_pairs_181 rfl rfl ?_
      refine g_get X ci12 (n40 hN) (en40 _ _ _ _) (by decide) fl_X12_28 rfl dX12_pairs_182 rfl ?_
      refine g_iload_n X dX12_pairs_185 rfl rfl ?_
      refine g_iald X dX12_pairs_186 rfl (n47 hN) (en47 _ _ _ _) (t0 := 0) rfl (by omega) (by omega) (by decide) (fun r186 => ?_)
      refine g_iadd X dX12_pairs_187 rfl ?_
      refine g_iald X dX12_pairs_188 rfl (n51 hN) (en51 _ _ _ _) (t0 := 0) rfl (by omega) (by omega) (by decide) (fun r188 => ?_)
      exact g_ret Y dX12_pairs_189 ⟨_, rfl⟩ ⟨by rw [n1, n2, mi.2.2.2.2.2.2, mi2.2.2.2.2.2.2, hd1 _ _ (by omega) (by omega) (by omega) (by omega)], rfl, hE1, fun a b h1 h2 h3 h4 => hd1 a b h1 (by omega) h3 h4⟩
    · skip
      refine g_iconst X dX12_pairs_12 rfl ?_
      refine g_istore_4 X dX12_pairs_13 rfl (lt_kN hNL rfl) rfl ?_
      have lp15 : ∀ (j : Int) (M2 : Mem) (j0 : 0 ≤ j) (j1 : j ≤ (C.1 16 6 q 0) + 1) (hE2 : Ex (fun k => k == 51) M M2) (hd22 : ∀ a b, 0 ≤ a → a < i → 0 ≤ b → b ≤ (C.1 16 6 q 0) → (M2.1 51 0 0 (61 * a + b)) = dz (canP C r q (C.1 0 3 0 0)) a b) (he2 : ∀ b, 0 ≤ b → b < j → (M2.1 51 0 0 (61 * i + b)) = dz (canP C r q (C.1 0 3 0 0)) i b), G κ nm ad M2 15 [some (.ref (ad 40 0)), some (.int (iI r)), some (.int (iI q)), some (.int (iI i)), some (.int (iI j)), none, none, none, none] [] 0 0 := by
        refine ind2 (fun j M2 => (61 - j).toNat) ?_
        intro j M2 ih15 j0 j1 hE2 hd22 he2
        refine g_rm (fun hM15 => ?_)
        have n1 := hE2.i 47 0 0 r rfl
        have n2 := hE2.i 47 0 0 q rfl
        refine g_iload X dX12_pairs_15 rfl rfl ?_
        refine g_aload_n X dX12_pairs_17 rfl rfl ?_
        refine g_get X ci12 (n40 hN) (en40 _ _ _ _) (by decide) fl_X12_28 rfl dX12_pairs_18 rfl ?_
        refine g_iload_n X dX12_pairs_21 rfl rfl ?_
        refine g_iald X dX12_pairs_22 rfl (n47 hN) (en47 _ _ _ _) (t0 := 0) rfl (by omega) (by omega) (by decide) (fun r22 => ?_)
        refine g_icmp_gt (tgt := 162) X dX12_pairs_23 rfl rfl (by omega) (by omega) (fun h23 => ?_) (fun h23 => ?_)
        · skip
          refine g_iinc_3 X dX12_pairs_162 rfl (lt_kN hNL rfl) rfl ?_
          refine g_goto (pc' := 2) X dX12_pairs_165 rfl ?_
          refine g_drop_4 ?_
          exact ih2 (i + 1) _ (by omega) (by omega) (by omega) hE2 (fun a b h1 h2 h3 h4 => (Int.lt_or_eq_of_le (Int.le_of_lt_add_one h2)).elim (fun z => hd22 a b h1 z h3 h4) (fun z => by subst z; exact he2 b h3 (by omega)))
        · skip
          refine g_iconst X dX12_pairs_26 rfl ?_
          refine g_istore_5 X dX12_pairs_27 rfl (lt_kN hNL rfl) rfl ?_
          refine g_iload_n X dX12_pairs_29 rfl rfl ?_
          refine g_if_le (tgt := 142) X dX12_pairs_30 rfl rfl (by omega) (fun h30 => ?_) (fun h30 => ?_)
          · skip
            refine g_aload_n X dX12_pairs_142 rfl rfl ?_
            refine g_get X ci12 (n40 hN) (en40 _ _ _ _) (by decide) fl_X12_48 rfl dX12_pairs_143 rfl ?_
            refine g_bipush X dX12_pairs_146 rfl (by decide) ?_
            refine g_iload_n X dX12_pairs_148 rfl rfl ?_
            refine g_imul X dX12_pairs_149 rfl ?_
            refine g_iload X dX12_pairs_150 rfl rfl ?_
            refine g_iadd X dX12_pairs_152 rfl ?_
            refine g_iload X dX12_pairs_153 rfl rfl ?_
            refine g_iast X (n51 hN) (en51 _ _ _ _) (en51 _ _ _ _) (t0 := 0) rfl (by omega) (by omega) (by decide) (by omega) dX12_pairs_155 rfl ?_
            refine g_iinc_4 X dX12_pairs_156 rfl (lt_kN hNL rfl) rfl ?_
            refine g_goto (pc' := 15) X dX12_pairs_159 rfl ?_
            refine g_drop_5 ?_
            exact ih15 (j + 1) _ (by omega) (by omega) (by omega) (hE2.setI rfl) (fun a b h1 h2 h3 h4 => by rw [setI_1, if_neg (by omega)]; exact hd22 a b h1 h2 h3 h4) (fun b h1 h2 => by
                    rw [setI_1]
                    by_cases z : b = j
                    · subst z
                      rw [if_pos ⟨rfl, rfl, rfl, rfl⟩]
                      first
                        | done
                        | exact (dz_0' (by omega)).symm
                        | exact (dz_z' (by omega)).symm
                    · rw [if_neg (by omega)]; exact he2 b h1 (by omega))
          · skip
            refine g_iload X dX12_pairs_33 rfl rfl ?_
            refine g_if_le (tgt := 142) X dX12_pairs_35 rfl rfl (by omega) (fun h35 => ?_) (fun h35 => ?_)
            · skip
              refine g_aload_n X dX12_pairs_142 rfl rfl ?_
              refine g_get X ci12 (n40 hN) (en40 _ _ _ _) (by decide) fl_X12_48 rfl dX12_pairs_143 rfl ?_
              refine g_bipush X dX12_pairs_146 rfl (by decide) ?_
              refine g_iload_n X dX12_pairs_148 rfl rfl ?_
              refine g_imul X dX12_pairs_149 rfl ?_
              refine g_iload X dX12_pairs_150 rfl rfl ?_
              refine g_iadd X dX12_pairs_152 rfl ?_
              refine g_iload X dX12_pairs_153 rfl rfl ?_
              refine g_iast X (n51 hN) (en51 _ _ _ _) (en51 _ _ _ _) (t0 := 0) rfl (by omega) (by omega) (by decide) (by omega) dX12_pairs_155 rfl ?_
              refine g_iinc_4 X dX12_pairs_156 rfl (lt_kN hNL rfl) rfl ?_
              refine g_goto (pc' := 15) X dX12_pairs_159 rfl ?_
              refine g_drop_5 ?_
              exact ih15 (j + 1) _ (by omega) (by omega) (by omega) (hE2.setI rfl) (fun a b h1 h2 h3 h4 => by rw [setI_1, if_neg (by omega)]; exact hd22 a b h1 h2 h3 h4) (fun b h1 h2 => by
                      rw [setI_1]
                      by_cases z : b = j
                      · subst z
                        rw [if_pos ⟨rfl, rfl, rfl, rfl⟩]
                        first
                          | done
                          | exact (dz_0' (by omega)).symm
                          | exact (dz_z' (by omega)).symm
                      · rw [if_neg (by omega)]; exact he2 b h1 (by omega))
            · skip
              have hR2 := hR.bt hE2
              have cp := hR2.cp r0 q1 q0 q2 (i := i - 1) (j := j - 1) (by omega) (by omega) (by omega) (by omega)
              have u1 := hd22 (i - 1) j (by omega) (by omega) (by omega) (by omega)
              have u2 := he2 (j - 1) (by omega) (by omega)
              have u3 := hd22 (i - 1) (j - 1) (by omega) (by omega) (by omega) (by omega)
              rw [show 61 * i + (j - 1) = 61 * i + j - 1 by omega] at u2
              rw [show 61 * (i - 1) + (j - 1) = 61 * (i - 1) + j - 1 by omega] at u3
              have d1 := dz_c (canP C r q (C.1 0 3 0 0)) (i := i) (j := j) (by omega) (by omega)
              have d2 := dz_u (canP C r q (C.1 0 3 0 0)) (i := i) (j := j - 1) (by omega) (by omega)
              have d3 := dz_h (canP C r q (C.1 0 3 0 0)) (i := i - 1) (j := j) (by omega) (by omega)
              have d4 := dz_b (canP C r q (C.1 0 3 0 0)) (i := i) (j := j) (by omega)
              have d5 := dz_b (canP C r q (C.1 0 3 0 0)) (i := i - 1) (j := j) (by omega)
              have d6 := dz_b (canP C r q (C.1 0 3 0 0)) (i := i) (j := j - 1) (by omega)
              have d7 := dz_b (canP C r q (C.1 0 3 0 0)) (i := i - 1) (j := j - 1) (by omega)
              have cz := cif_01 (P := (canP C r q (C.1 0 3 0 0) (i - 1) (j - 1))) (a := dz (canP C r q (C.1 0 3 0 0)) (i - 1) (j - 1) + 1) (b := 0)
              refine g_aload_n X dX12_pairs_38 rfl rfl ?_
              refine g_get X ci12 (n40 hN) (en40 _ _ _ _) (by decide) fl_X12_48 rfl dX12_pairs_39 rfl ?_
              refine g_bipush X dX12_pairs_42 rfl (by decide) ?_
              refine g_iload_n X dX12_pairs_44 rfl rfl ?_
              refine g_iconst X dX12_pairs_45 rfl ?_
              refine g_isub X dX12_pairs_46 rfl ?_
              refine g_imul X dX12_pairs_47 rfl ?_
              refine g_iload X dX12_pairs_48 rfl rfl ?_
              refine g_iadd X dX12_pairs_50 rfl ?_
              refine g_iald X dX12_pairs_51 rfl (n51 hN) (en51 _ _ _ _) (t0 := 0) rfl (by omega) (by omega) (by decide) (fun r51 => ?_)
              refine g_istore_6 X dX12_pairs_52 rfl (lt_kN hNL rfl) rfl ?_
              refine g_aload_n X dX12_pairs_54 rfl rfl ?_
              refine g_get X ci12 (n40 hN) (en40 _ _ _ _) (by decide) fl_X12_48 rfl dX12_pairs_55 rfl ?_
              refine g_bipush X dX12_pairs_58 rfl (by decide) ?_
              refine g_iload_n X dX12_pairs_60 rfl rfl ?_
              refine g_imul X dX12_pairs_61 rfl ?_
              refine g_iload X dX12_pairs_62 rfl rfl ?_
              refine g_iadd X dX12_pairs_64 rfl ?_
              refine g_iconst X dX12_pairs_65 rfl ?_
              refine g_isub X dX12_pairs_66 rfl ?_
              refine g_iald X dX12_pairs_67 rfl (n51 hN) (en51 _ _ _ _) (t0 := 0) rfl (by omega) (by omega) (by decide) (fun r67 => ?_)
              refine g_istore_7 X dX12_pairs_68 rfl (lt_kN hNL rfl) rfl ?_
              refine g_cutI 108 (cif (canP C r q (C.1 0 3 0 0) (i - 1) (j - 1)) (dz (canP C r q (C.1 0 3 0 0)) (i - 1) (j - 1) + 1) 0) (fun ci70 => ?_) ?_
              · skip
                refine g_aload_n X dX12_pairs_70 rfl rfl ?_
                refine g_iload_n X dX12_pairs_71 rfl rfl ?_
                refine g_iload_n X dX12_pairs_72 rfl rfl ?_
                refine g_iconst X dX12_pairs_73 rfl ?_
                refine g_isub X dX12_pairs_74 rfl ?_
                refine g_iload_n X dX12_pairs_75 rfl rfl ?_
                refine g_iload X dX12_pairs_76 rfl rfl ?_
                refine g_iconst X dX12_pairs_78 rfl ?_
                refine g_isub X dX12_pairs_79 rfl ?_
                refine g_iV4_v X w_X12_isPair ml_X12_209 dX12_pairs_80 rfl (n40 hN) (en40 _ _ _ _) ⟨⟨Nat.le_of_ble_eq_true rfl, Nat.le_of_ble_eq_true rfl⟩, Nat.le_of_ble_eq_true rfl, Nat.le_of_ble_eq_true rfl⟩ (Nat.le_of_ble_eq_true rfl) (c_X12_isPair hN (by omega) (by omega) (by omega) (by omega)) ?_
                refine g_ifB_eq (tgt := 107) X dX12_pairs_83 rfl rfl (fun h83 => ?_) (fun h83 => ?_)
                · skip
                  refine g_iconst X dX12_pairs_107 rfl ?_
                  exact ci70 _ (by first | (rw [cif_t (cp.mp (by assumption)), u3]; done) | (rw [cif_f (fun z => absurd (cp.mpr z) (by assumption))]; done))
                · skip
                  refine g_aload_n X dX12_pairs_86 rfl rfl ?_
                  refine g_get X ci12 (n40 hN) (en40 _ _ _ _) (by decide) fl_X12_48 rfl dX12_pairs_87 rfl ?_
                  refine g_bipush X dX12_pairs_90 rfl (by decide) ?_
                  refine g_iload_n X dX12_pairs_92 rfl rfl ?_
                  refine g_iconst X dX12_pairs_93 rfl ?_
                  refine g_isub X dX12_pairs_94 rfl ?_
                  refine g_imul X dX12_pairs_95 rfl ?_
                  refine g_iload X dX12_pairs_96 rfl rfl ?_
                  refine g_iadd X dX12_pairs_98 rfl ?_
                  refine g_iconst X dX12_pairs_99 rfl ?_
                  refine g_isub X dX12_pairs_100 rfl ?_
                  refine g_iald X dX12_pairs_101 rfl (n51 hN) (en51 _ _ _ _) (t0 := 0) rfl (by omega) (by omega) (by decide) (fun r101 => ?_)
                  refine g_iconst X dX12_pairs_102 rfl ?_
                  refine g_iadd X dX12_pairs_103 rfl ?_
                  refine g_goto (pc' := 108) X dX12_pairs_104 rfl ?_
                  exact ci70 _ (by first | (rw [cif_t (cp.mp (by assumption)), u3]; done) | (rw [cif_f (fun z => absurd (cp.mpr z) (by assumption))]; done))
              · skip
                refine g_istore_8 X dX12_pairs_108 rfl (lt_kN hNL rfl) rfl ?_
                refine g_cutI 124 (if dz (canP C r q (C.1 0 3 0 0)) i (j - 1) < dz (canP C r q (C.1 0 3 0 0)) (i - 1) j then dz (canP C r q (C.1 0 3 0 0)) (i - 1) j else dz (canP C r q (C.1 0 3 0 0)) i (j - 1)) (fun ci110 => ?_) ?_
                · skip
                  refine g_iload X dX12_pairs_110 rfl rfl ?_
                  refine g_iload X dX12_pairs_112 rfl rfl ?_
                  refine g_icmp_le (tgt := 122) X dX12_pairs_114 rfl rfl (by omega) (by omega) (fun h114 => ?_) (fun h114 => ?_)
                  · skip
                    refine g_iload X dX12_pairs_122 rfl rfl ?_
                    exact ci110 _ (by first | omega | (split <;> omega))
                  · skip
                    refine g_iload X dX12_pairs_117 rfl rfl ?_
                    refine g_goto (pc' := 124) X dX12_pairs_119 rfl ?_
                    exact ci110 _ (by first | omega | (split <;> omega))
                · skip
                  refine g_istore_5 X dX12_pairs_124 rfl (lt_kN hNL rfl) rfl ?_
                  refine g_cutI 140 (dz (canP C r q (C.1 0 3 0 0)) i j) (fun ci126 => ?_) ?_
                  · skip
                    refine g_iload X dX12_pairs_126 rfl rfl ?_
                    refine g_iload X dX12_pairs_128 rfl rfl ?_
                    refine g_icmp_le (tgt := 138) X dX12_pairs_130 rfl rfl (by omega) (by omega) (fun h130 => ?_) (fun h130 => ?_)
                    · skip
                      refine g_iload X dX12_pairs_138 rfl rfl ?_
                      exact ci126 _ (by rcases d1 with ⟨z1, z2⟩ | ⟨z1, z2⟩ <;> rcases cz with ⟨y1, y2⟩ | ⟨y1, y2⟩ <;> first | omega | exact absurd z1 y1 | exact absurd y1 z1)
                    · skip
                      refine g_iload X dX12_pairs_133 rfl rfl ?_
                      refine g_goto (pc' := 140) X dX12_pairs_135 rfl ?_
                      exact ci126 _ (by rcases d1 with ⟨z1, z2⟩ | ⟨z1, z2⟩ <;> rcases cz with ⟨y1, y2⟩ | ⟨y1, y2⟩ <;> first | omega | exact absurd z1 y1 | exact absurd y1 z1)
                  · skip
                    refine g_istore_5 X dX12_pairs_140 rfl (lt_kN hNL rfl) rfl ?_
                    refine g_aload_n X dX12_pairs_142 rfl rfl ?_
                    refine g_get X ci12 (n40 hN) (en40 _ _ _ _) (by decide) fl_X12_48 rfl dX12_pairs_143 rfl ?_
                    refine g_bipush X dX12_pairs_146 rfl (by decide) ?_
                    refine g_iload_n X dX12_pairs_148 rfl rfl ?_
                    refine g_imul X dX12_pairs_149 rfl ?_
                    refine g_iload X dX12_pairs_150 rfl rfl ?_
                    refine g_iadd X dX12_pairs_152 rfl ?_
                    refine g_iload X dX12_pairs_153 rfl rfl ?_
                    refine g_iast X (n51 hN) (en51 _ _ _ _) (en51 _ _ _ _) (t0 := 0) rfl (by omega) (by omega) (by decide) (by omega) dX12_pairs_155 rfl ?_
                    refine g_iinc_4 X dX12_pairs_156 rfl (lt_kN hNL rfl) rfl ?_
                    refine g_goto (pc' := 15) X dX12_pairs_159 rfl ?_
                    refine g_drop_5 ?_
                    refine g_drop_6 ?_
                    refine g_drop_7 ?_
                    refine g_drop_8 ?_
                    exact ih15 (j + 1) _ (by omega) (by omega) (by omega) (hE2.setI rfl) (fun a b h1 h2 h3 h4 => by rw [setI_1, if_neg (by omega)]; exact hd22 a b h1 h2 h3 h4) (fun b h1 h2 => by
                            rw [setI_1]
                            by_cases z : b = j
                            · subst z
                              rw [if_pos ⟨rfl, rfl, rfl, rfl⟩]
                              first
                                | done
                                | exact (dz_0' (by omega)).symm
                                | exact (dz_z' (by omega)).symm
                            · rw [if_neg (by omega)]; exact he2 b h1 (by omega))
      exact lp15 0 _ (by omega) (by omega) hE1 hd1 (fun b h1 h2 => by omega)
  exact lp2 0 M (by omega) (by omega) (Ex.rf M) (fun a b h1 h2 h3 h4 => by omega)
set_option maxRecDepth 100000 in
set_option maxHeartbeats 4000000 in
theorem c_X12_align {δ : Dx} {nm : List (Nat × Int)} {ad : Ad} {M : Mem} {C : Mem} {r q : Int} (hN : NmOk nm) (hR : RelR C M) (rr : rng r) (rq : rng q) : Ct δ md_X12_align 0 0 nm ad M [.ref (ad 40 0), .int (iI r), .int (iI q)] (pRf (if ¬ ((0 ≤ r ∧ r < (C.1 0 1 0 0)) ∧ (0 ≤ q ∧ q < (C.1 0 1 0 0))) then 1 else if (C.1 16 4 r 0) < 300 ∧ (C.1 16 4 q 0) < 300 then 0 else 2) (.int (iI (-1))) (.int (iI (dz (canP C r q (C.1 0 3 0 0)) (C.1 16 6 r 0) (C.1 16 6 q 0)))) ad M (Ex (fun k => k == 51) (setI M 40 46 0 0 0))) := by
  refine Ct_of (ins := .ireturn) (ok := okI) [some (.ref (ad 40 0)), some (.int (iI r)), some (.int (iI q)), none] (by decide +kernel) rfl (Nat.le_of_ble_eq_true rfl) (fun κ s hs X hr hQ hδ => endI rfl hs X hr hQ hδ) (fun κ X hNL hδ Y => ?_)
  refine g_rm (fun hM => ?_)
  have rc := hR.rc
  have he := hR.e
  refine g_cutB 21 ((0 ≤ r ∧ r < (C.1 0 1 0 0)) ∧ (0 ≤ q ∧ q < (C.1 0 1 0 0))) (fun ct0 cf0 => ?_) ?_
  · skip
    refine g_aload_n X dX12_align_0 rfl rfl ?_
    refine g_iload_n X dX12_align_1 rfl rfl ?_
    refine g_iV1_v X w_X12_isReel ml_X12_154 dX12_align_2 rfl (n40 hN) (en40 _ _ _ _) ⟨⟨Nat.le_of_ble_eq_true rfl, Nat.le_of_ble_eq_true rfl⟩, Nat.le_of_ble_eq_true rfl, Nat.le_of_ble_eq_true rfl⟩ (Nat.le_of_ble_eq_true rfl) (c_X12_isReel hN (by omega) (by omega)) ?_
    refine g_ifB_eq (tgt := 20) X dX12_align_5 rfl rfl (fun h5 => ?_) (fun h5 => ?_)
    · skip
      refine g_iconst X dX12_align_20 rfl ?_
      exact cf0 (by omega)
    · skip
      refine g_aload_n X dX12_align_8 rfl rfl ?_
      refine g_iload_n X dX12_align_9 rfl rfl ?_
      refine g_iV1_v X w_X12_isReel ml_X12_154 dX12_align_10 rfl (n40 hN) (en40 _ _ _ _) ⟨⟨Nat.le_of_ble_eq_true rfl, Nat.le_of_ble_eq_true rfl⟩, Nat.le_of_ble_eq_true rfl, Nat.le_of_ble_eq_true rfl⟩ (Nat.le_of_ble_eq_true rfl) (c_X12_isReel hN (by omega) (by omega)) ?_
      refine g_ifB_eq (tgt := 20) X dX12_align_13 rfl rfl (fun h13 => ?_) (fun h13 => ?_)
      · skip
        refine g_iconst X dX12_align_20 rfl ?_
        exact cf0 (by omega)
      · skip
        refine g_iconst X dX12_align_16 rfl ?_
        refine g_goto (pc' := 21) X dX12_align_17 rfl ?_
        exact ct0 (by omega)
  · skip
    refine g_istore_3 X dX12_align_21 rfl (lt_kN hNL rfl) rfl ?_
    refine g_aload_n X dX12_align_22 rfl rfl ?_
    refine g_cutI 52 (if ¬ ((0 ≤ r ∧ r < (C.1 0 1 0 0)) ∧ (0 ≤ q ∧ q < (C.1 0 1 0 0))) then 1 else if (C.1 16 4 r 0) < 300 ∧ (C.1 16 4 q 0) < 300 then 0 else 2) (fun ci23 => ?_) ?_
    · skip
      refine g_iload_n X dX12_align_23 rfl rfl ?_
      refine g_ifB_ne (tgt := 31) X dX12_align_24 rfl rfl (fun h24 => ?_) (fun h24 => ?_)
      · skip
        have mi := hR.mi r (by omega) (by omega)
        have mi2 := hR.mi q (by omega) (by omega)
        refine g_aload_n X dX12_align_31 rfl rfl ?_
        refine g_iload_n X dX12_align_32 rfl rfl ?_
        refine g_iV1_v X w_X12_isGood ml_X12_175 dX12_align_33 rfl (n40 hN) (en40 _ _ _ _) ⟨⟨Nat.le_of_ble_eq_true rfl, Nat.le_of_ble_eq_true rfl⟩, Nat.le_of_ble_eq_true rfl, Nat.le_of_ble_eq_true rfl⟩ (Nat.le_of_ble_eq_true rfl) (c_X12_isGood hN (by omega) (by omega)) ?_
        refine g_ifB_eq (tgt := 51) X dX12_align_36 rfl rfl (fun h36 => ?_) (fun h36 => ?_)
        · skip
          refine g_iconst X dX12_align_51 rfl ?_
          exact ci23 _ (by omega)
        · skip
          refine g_aload_n X dX12_align_39 rfl rfl ?_
          refine g_iload_n X dX12_align_40 rfl rfl ?_
          refine g_iV1_v X w_X12_isGood ml_X12_175 dX12_align_41 rfl (n40 hN) (en40 _ _ _ _) ⟨⟨Nat.le_of_ble_eq_true rfl, Nat.le_of_ble_eq_true rfl⟩, Nat.le_of_ble_eq_true rfl, Nat.le_of_ble_eq_true rfl⟩ (Nat.le_of_ble_eq_true rfl) (c_X12_isGood hN (by omega) (by omega)) ?_
          refine g_ifB_eq (tgt := 51) X dX12_align_44 rfl rfl (fun h44 => ?_) (fun h44 => ?_)
          · skip
            refine g_iconst X dX12_align_51 rfl ?_
            exact ci23 _ (by omega)
          · skip
            refine g_iconst X dX12_align_47 rfl ?_
            refine g_goto (pc' := 52) X dX12_align_48 rfl ?_
            exact ci23 _ (by omega)
      · skip
        refine g_iconst X dX12_align_27 rfl ?_
        refine g_goto (pc' := 52) X dX12_align_28 rfl ?_
        exact ci23 _ (by omega)
    · skip
      refine g_iV1_v X w_X12_holds ml_X12_158 dX12_align_52 rfl (n40 hN) (en40 _ _ _ _) ⟨⟨Nat.le_of_ble_eq_true rfl, Nat.le_of_ble_eq_true rfl⟩, Nat.le_of_ble_eq_true rfl, Nat.le_of_ble_eq_true rfl⟩ (Nat.le_of_ble_eq_true rfl) (c_X12_holds hN (by omega)) ?_
      refine g_ifB_eq (tgt := 60) X dX12_align_55 rfl rfl (fun h55 => ?_) (fun h55 => ?_)
      · skip
        have w0 : (if ¬ ((0 ≤ r ∧ r < (C.1 0 1 0 0)) ∧ (0 ≤ q ∧ q < (C.1 0 1 0 0))) then 1 else if (C.1 16 4 r 0) < 300 ∧ (C.1 16 4 q 0) < 300 then 0 else 2 : Int) = 0 := by omega
        rw [w0]
        refine g_aload_n X dX12_align_60 rfl rfl ?_
        refine g_iload_n X dX12_align_61 rfl rfl ?_
        refine g_iload_n X dX12_align_62 rfl rfl ?_
        refine g_iV2_g X w_X12_pairs ml_X12_213 dX12_align_63 rfl (n40 hN) (en40 _ _ _ _) ⟨⟨Nat.le_of_ble_eq_true rfl, Nat.le_of_ble_eq_true rfl⟩, Nat.le_of_ble_eq_true rfl, Nat.le_of_ble_eq_true rfl⟩ (Nat.le_of_ble_eq_true rfl) (c_X12_pairs hN hR.th (by omega) (by omega) (by omega) (by omega)) (fun Mc63 hc63 => ?_)
        refine g_rm (fun hMc63 => ?_)
        exact g_ret Y dX12_align_66 ⟨_, rfl⟩ (pRo w0 hc63.1)
      · skip
        refine g_iconst X dX12_align_58 rfl ?_
        exact g_ret Y dX12_align_59 ⟨_, rfl⟩ (pRx (by assumption))
set_option maxRecDepth 100000 in
set_option maxHeartbeats 4000000 in
theorem c_X12_pairOf {δ : Dx} {nm : List (Nat × Int)} {ad : Ad} {M : Mem} {C : Mem} {r p q : Int} (hN : NmOk nm) (hR : RelR C M) (rr : rng r) (rp : rng p) (rq : rng q) : Ct δ md_X12_pairOf 0 0 nm ad M [.ref (ad 40 0), .int (iI r), .int (iI p), .int (iI q)] (pRf (if ¬ (((0 ≤ r ∧ r < (C.1 0 1 0 0)) ∧ (0 ≤ p ∧ p < (C.1 16 6 r 0))) ∧ (0 ≤ q ∧ q < (C.1 0 1 0 0))) then 1 else if (C.1 16 4 r 0) < 300 ∧ (C.1 16 4 q 0) < 300 then 0 else 2) (.int (iI (-1))) (.int (iI (pw (canP C r q (C.1 0 3 0 0)) p 121 (C.1 16 6 r 0) (C.1 16 6 q 0)))) ad M (Ex (fun k => k == 51) (setI M 40 46 0 0 0))) := by
  refine Ct_of (ins := .ireturn) (ok := okI) [some (.ref (ad 40 0)), some (.int (iI r)), some (.int (iI p)), some (.int (iI q)), none, none, none, none] (by decide +kernel) rfl (Nat.le_of_ble_eq_true rfl) (fun κ s hs X hr hQ hδ => endI rfl hs X hr hQ hδ) (fun κ X hNL hδ Y => ?_)
  refine g_rm (fun hM => ?_)
  have rc := hR.rc
  have he := hR.e
  refine g_cutB 22 (((0 ≤ r ∧ r < (C.1 0 1 0 0)) ∧ (0 ≤ p ∧ p < (C.1 16 6 r 0))) ∧ (0 ≤ q ∧ q < (C.1 0 1 0 0))) (fun ct0 cf0 => ?_) ?_
  · skip
    refine g_aload_n X dX12_pairOf_0 rfl rfl ?_
    refine g_iload_n X dX12_pairOf_1 rfl rfl ?_
    refine g_iload_n X dX12_pairOf_2 rfl rfl ?_
    refine g_iV2_v X w_X12_isFrame ml_X12_167 dX12_pairOf_3 rfl (n40 hN) (en40 _ _ _ _) ⟨⟨Nat.le_of_ble_eq_true rfl, Nat.le_of_ble_eq_true rfl⟩, Nat.le_of_ble_eq_true rfl, Nat.le_of_ble_eq_true rfl⟩ (Nat.le_of_ble_eq_true rfl) (c_X12_isFrame hN (by omega) (by omega) (by omega) hR.mn) ?_
    have mr : (0 ≤ r ∧ r < (C.1 0 1 0 0)) → (M.1 47 0 0 r) = (C.1 16 6 r 0) := fun z => (hR.mi r z.1 z.2).2.2.2.2.2.2
    refine g_ifB_eq (tgt := 21) X dX12_pairOf_6 rfl rfl (fun h6 => ?_) (fun h6 => ?_)
    · skip
      refine g_iconst X dX12_pairOf_21 rfl ?_
      exact cf0 (by omega)
    · skip
      refine g_aload_n X dX12_pairOf_9 rfl rfl ?_
      refine g_iload_n X dX12_pairOf_10 rfl rfl ?_
      refine g_iV1_v X w_X12_isReel ml_X12_154 dX12_pairOf_11 rfl (n40 hN) (en40 _ _ _ _) ⟨⟨Nat.le_of_ble_eq_true rfl, Nat.le_of_ble_eq_true rfl⟩, Nat.le_of_ble_eq_true rfl, Nat.le_of_ble_eq_true rfl⟩ (Nat.le_of_ble_eq_true rfl) (c_X12_isReel hN (by omega) (by omega)) ?_
      refine g_ifB_eq (tgt := 21) X dX12_pairOf_14 rfl rfl (fun h14 => ?_) (fun h14 => ?_)
      · skip
        refine g_iconst X dX12_pairOf_21 rfl ?_
        exact cf0 (by omega)
      · skip
        refine g_iconst X dX12_pairOf_17 rfl ?_
        refine g_goto (pc' := 22) X dX12_pairOf_18 rfl ?_
        exact ct0 (by omega)
  · skip
    refine g_istore_4 X dX12_pairOf_22 rfl (lt_kN hNL rfl) rfl ?_
    refine g_aload_n X dX12_pairOf_24 rfl rfl ?_
    refine g_cutI 55 (if ¬ (((0 ≤ r ∧ r < (C.1 0 1 0 0)) ∧ (0 ≤ p ∧ p < (C.1 16 6 r 0))) ∧ (0 ≤ q ∧ q < (C.1 0 1 0 0))) then 1 else if (C.1 16 4 r 0) < 300 ∧ (C.1 16 4 q 0) < 300 then 0 else 2) (fun ci25 => ?_) ?_
    · skip
      refine g_iload X dX12_pairOf_25 rfl rfl ?_
      refine g_ifB_ne (tgt := 34) X dX12_pairOf_27 rfl rfl (fun h27 => ?_) (fun h27 => ?_)
      · skip
        have mi := hR.mi r (by omega) (by omega)
        have mi2 := hR.mi q (by omega) (by omega)
        refine g_aload_n X dX12_pairOf_34 rfl rfl ?_
        refine g_iload_n X dX12_pairOf_35 rfl rfl ?_
        refine g_iV1_v X w_X12_isGood ml_X12_175 dX12_pairOf_36 rfl (n40 hN) (en40 _ _ _ _) ⟨⟨Nat.le_of_ble_eq_true rfl, Nat.le_of_ble_eq_true rfl⟩, Nat.le_of_ble_eq_true rfl, Nat.le_of_ble_eq_true rfl⟩ (Nat.le_of_ble_eq_true rfl) (c_X12_isGood hN (by omega) (by omega)) ?_
        refine g_ifB_eq (tgt := 54) X dX12_pairOf_39 rfl rfl (fun h39 => ?_) (fun h39 => ?_)
        · skip
          refine g_iconst X dX12_pairOf_54 rfl ?_
          exact ci25 _ (by omega)
        · skip
          refine g_aload_n X dX12_pairOf_42 rfl rfl ?_
          refine g_iload_n X dX12_pairOf_43 rfl rfl ?_
          refine g_iV1_v X w_X12_isGood ml_X12_175 dX12_pairOf_44 rfl (n40 hN) (en40 _ _ _ _) ⟨⟨Nat.le_of_ble_eq_true rfl, Nat.le_of_ble_eq_true rfl⟩, Nat.le_of_ble_eq_true rfl, Nat.le_of_ble_eq_true rfl⟩ (Nat.le_of_ble_eq_true rfl) (c_X12_isGood hN (by omega) (by omega)) ?_
          refine g_ifB_eq (tgt := 54) X dX12_pairOf_47 rfl rfl (fun h47 => ?_) (fun h47 => ?_)
          · skip
            refine g_iconst X dX12_pairOf_54 rfl ?_
            exact ci25 _ (by omega)
          · skip
            refine g_iconst X dX12_pairOf_50 rfl ?_
            refine g_goto (pc' := 55) X dX12_pairOf_51 rfl ?_
            exact ci25 _ (by omega)
      · skip
        refine g_iconst X dX12_pairOf_30 rfl ?_
        refine g_goto (pc' := 55) X dX12_pairOf_31 rfl ?_
        exact ci25 _ (by omega)
    · skip
      refine g_iV1_v X w_X12_holds ml_X12_158 dX12_pairOf_55 rfl (n40 hN) (en40 _ _ _ _) ⟨⟨Nat.le_of_ble_eq_true rfl, Nat.le_of_ble_eq_true rfl⟩, Nat.le_of_ble_eq_true rfl, Nat.le_of_ble_eq_true rfl⟩ (Nat.le_of_ble_eq_true rfl) (c_X12_holds hN (by omega)) ?_
      refine g_ifB_eq (tgt := 63) X dX12_pairOf_58 rfl rfl (fun h58 => ?_) (fun h58 => ?_)
      · skip
        have w0 : (if ¬ (((0 ≤ r ∧ r < (C.1 0 1 0 0)) ∧ (0 ≤ p ∧ p < (C.1 16 6 r 0))) ∧ (0 ≤ q ∧ q < (C.1 0 1 0 0))) then 1 else if (C.1 16 4 r 0) < 300 ∧ (C.1 16 4 q 0) < 300 then 0 else 2 : Int) = 0 := by omega
        rw [w0]
        refine g_aload_n X dX12_pairOf_63 rfl rfl ?_
        refine g_iload_n X dX12_pairOf_64 rfl rfl ?_
        refine g_iload_n X dX12_pairOf_65 rfl rfl ?_
        refine g_iV2_g X w_X12_pairs ml_X12_213 dX12_pairOf_66 rfl (n40 hN) (en40 _ _ _ _) ⟨⟨Nat.le_of_ble_eq_true rfl, Nat.le_of_ble_eq_true rfl⟩, Nat.le_of_ble_eq_true rfl, Nat.le_of_ble_eq_true rfl⟩ (Nat.le_of_ble_eq_true rfl) (c_X12_pairs hN hR.th (by omega) (by omega) (by omega) (by omega)) (fun Mc66 hc66 => ?_)
        refine g_rm (fun hMc66 => ?_)
        obtain ⟨hE, hdz⟩ := hc66
        have hR2 := (hR.th (z := 0)).bt hE
        have n1 := (hR2.mi r (by omega) (by omega)).2.2.2.2.2.2
        have n2 := (hR2.mi q (by omega) (by omega)).2.2.2.2.2.2
        have fb := (hR.rd r (by omega) (by omega)).fc
        have fb2 := (hR.rd q (by omega) (by omega)).fc
        have dzb := dz_b (canP C r q (C.1 0 3 0 0)) (i := (C.1 16 6 r 0)) (j := (C.1 16 6 q 0)) fb2.1
        refine g_istore_5 X dX12_pairOf_69 rfl (lt_kN hNL rfl) rfl ?_
        refine g_aload_n X dX12_pairOf_71 rfl rfl ?_
        refine g_get X ci12 (n40 hN) (en40 _ _ _ _) (by decide) fl_X12_28 rfl dX12_pairOf_72 rfl ?_
        refine g_iload_n X dX12_pairOf_75 rfl rfl ?_
        refine g_iald X dX12_pairOf_76 rfl (n47 hN) (en47 _ _ _ _) (t0 := 0) rfl (by omega) (by omega) (by decide) (fun r76 => ?_)
        refine g_istore_6 X dX12_pairOf_77 rfl (lt_kN hNL rfl) rfl ?_
        refine g_aload_n X dX12_pairOf_79 rfl rfl ?_
        refine g_get X ci12 (n40 hN) (en40 _ _ _ _) (by decide) fl_X12_28 rfl dX12_pairOf_80 rfl ?_
        refine g_iload_n X dX12_pairOf_83 rfl rfl ?_
        refine g_iald X dX12_pairOf_84 rfl (n47 hN) (en47 _ _ _ _) (t0 := 0) rfl (by omega) (by omega) (by decide) (fun r84 => ?_)
        refine g_istore_7 X dX12_pairOf_85 rfl (lt_kN hNL rfl) rfl ?_
        rw [n1, n2]
        refine g_drop_4 ?_
        refine g_drop_5 ?_
        have lp87 : ∀ (n : Nat) (i : Int) (j : Int) (i0 : 0 ≤ i) (i1 : i ≤ (C.1 16 6 r 0)) (j0 : 0 ≤ j) (j1 : j ≤ (C.1 16 6 q 0)) (n0 : i + j < n) (hr : pw (canP C r q (C.1 0 3 0 0)) p n i j = pw (canP C r q (C.1 0 3 0 0)) p 121 (C.1 16 6 r 0) (C.1 16 6 q 0)), G κ nm ad Mc66 87 [some (.ref (ad 40 0)), some (.int (iI r)), some (.int (iI p)), some (.int (iI q)), none, none, some (.int (iI i)), some (.int (iI j))] [] 0 0 := by
          refine ind3 (fun n i j => n) ?_
          intro n i j ih87 i0 i1 j0 j1 n0 hr
          refine g_rm (fun hM87 => ?_)
          refine g_iload X dX12_pairOf_87 rfl rfl ?_
          refine g_iload_n X dX12_pairOf_89 rfl rfl ?_
          refine g_icmp_le (tgt := 208) X dX12_pairOf_90 rfl rfl (by omega) (by omega) (fun h90 => ?_) (fun h90 => ?_)
          · skip
            refine g_iconst X dX12_pairOf_208 rfl ?_
            have e1 : pw (canP C r q (C.1 0 3 0 0)) p 121 (C.1 16 6 r 0) (C.1 16 6 q 0) = -1 := by rw [← hr]; cases n with
              | zero => omega
              | succ n => rw [pw_s, if_neg (by omega)]
            exact g_ret Y dX12_pairOf_209 ⟨_, rfl⟩ ⟨rfl, Or.inr ⟨w0, by rw [e1], hE⟩⟩
          · skip
            refine g_iload X dX12_pairOf_93 rfl rfl ?_
            refine g_if_le (tgt := 208) X dX12_pairOf_95 rfl rfl (by omega) (fun h95 => ?_) (fun h95 => ?_)
            · skip
              refine g_iconst X dX12_pairOf_208 rfl ?_
              have e1 : pw (canP C r q (C.1 0 3 0 0)) p 121 (C.1 16 6 r 0) (C.1 16 6 q 0) = -1 := by rw [← hr]; cases n with
                | zero => omega
                | succ n => rw [pw_s, if_neg (by omega)]
              exact g_ret Y dX12_pairOf_209 ⟨_, rfl⟩ ⟨rfl, Or.inr ⟨w0, by rw [e1], hE⟩⟩
            · skip
              obtain ⟨n, rfl⟩ : ∃ z, n = z + 1 := ⟨n - 1, by omega⟩
              have cp := hR2.cp (r := r) (q := q) (by omega) (by omega) (by omega) (by omega) (i := i - 1) (j := j - 1) (by omega) (by omega) (by omega) (by omega)
              have u1 := hdz (i - 1) j (by omega) (by omega) (by omega) (by omega)
              have u0 := hdz i j (by omega) (by omega) (by omega) (by omega)
              have u3 := hdz (i - 1) (j - 1) (by omega) (by omega) (by omega) (by omega)
              rw [show 61 * (i - 1) + (j - 1) = 61 * (i - 1) + j - 1 by omega] at u3
              have d1 := dz_c (canP C r q (C.1 0 3 0 0)) (i := i) (j := j) (by omega) (by omega)
              refine g_aload_n X dX12_pairOf_98 rfl rfl ?_
              refine g_iload_n X dX12_pairOf_99 rfl rfl ?_
              refine g_iload X dX12_pairOf_100 rfl rfl ?_
              refine g_iconst X dX12_pairOf_102 rfl ?_
              refine g_isub X dX12_pairOf_103 rfl ?_
              refine g_iload_n X dX12_pairOf_104 rfl rfl ?_
              refine g_iload X dX12_pairOf_105 rfl rfl ?_
              refine g_iconst X dX12_pairOf_107 rfl ?_
              refine g_isub X dX12_pairOf_108 rfl ?_
              refine g_iV4_v X w_X12_isPair ml_X12_209 dX12_pairOf_109 rfl (n40 hN) (en40 _ _ _ _) ⟨⟨Nat.le_of_ble_eq_true rfl, Nat.le_of_ble_eq_true rfl⟩, Nat.le_of_ble_eq_true rfl, Nat.le_of_ble_eq_true rfl⟩ (Nat.le_of_ble_eq_true rfl) (c_X12_isPair hN (by omega) (by omega) (by omega) (by omega)) ?_
              refine g_ifB_eq (tgt := 165) X dX12_pairOf_112 rfl rfl (fun h112 => ?_) (fun h112 => ?_)
              · skip
                have hp : ¬ canP C r q (C.1 0 3 0 0) (i - 1) (j - 1) := fun z => absurd (cp.mpr z) (by assumption)
                refine g_aload_n X dX12_pairOf_165 rfl rfl ?_
                refine g_get X ci12 (n40 hN) (en40 _ _ _ _) (by decide) fl_X12_48 rfl dX12_pairOf_166 rfl ?_
                refine g_bipush X dX12_pairOf_169 rfl (by decide) ?_
                refine g_iload X dX12_pairOf_171 rfl rfl ?_
                refine g_iconst X dX12_pairOf_173 rfl ?_
                refine g_isub X dX12_pairOf_174 rfl ?_
                refine g_imul X dX12_pairOf_175 rfl ?_
                refine g_iload X dX12_pairOf_176 rfl rfl ?_
                refine g_iadd X dX12_pairOf_178 rfl ?_
                refine g_iald X dX12_pairOf_179 rfl (n51 hN) (en51 _ _ _ _) (t0 := 0) rfl (by omega) (by omega) (by decide) (fun r179 => ?_)
                refine g_aload_n X dX12_pairOf_180 rfl rfl ?_
                refine g_get X ci12 (n40 hN) (en40 _ _ _ _) (by decide) fl_X12_48 rfl dX12_pairOf_181 rfl ?_
                refine g_bipush X dX12_pairOf_184 rfl (by decide) ?_
                refine g_iload X dX12_pairOf_186 rfl rfl ?_
                refine g_imul X dX12_pairOf_188 rfl ?_
                refine g_iload X dX12_pairOf_189 rfl rfl ?_
                refine g_iadd X dX12_pairOf_191 rfl ?_
                refine g_iald X dX12_pairOf_192 rfl (n51 hN) (en51 _ _ _ _) (t0 := 0) rfl (by omega) (by omega) (by decide) (fun r192 => ?_)
                refine g_icmp_ne (tgt := 202) X dX12_pairOf_193 rfl rfl (by omega) (by omega) (fun h193 => ?_) (fun h193 => ?_)
                · skip
                  have hq : ¬ dz (canP C r q (C.1 0 3 0 0)) (i - 1) j = dz (canP C r q (C.1 0 3 0 0)) i j := by omega
                  refine g_iinc_7 X dX12_pairOf_202 rfl (lt_kN hNL rfl) rfl ?_
                  refine g_goto (pc' := 87) X dX12_pairOf_205 rfl ?_
                  exact ih87 n _ _ (by omega) (by omega) (by omega) (by omega) (by omega) (by omega) (by rw [← hr, pw_s, if_pos (by omega), cif_f hp, if_neg hq]; first | done | rfl)
                · skip
                  have hq : dz (canP C r q (C.1 0 3 0 0)) (i - 1) j = dz (canP C r q (C.1 0 3 0 0)) i j := by omega
                  refine g_iinc_6 X dX12_pairOf_196 rfl (lt_kN hNL rfl) rfl ?_
                  refine g_goto (pc' := 87) X dX12_pairOf_199 rfl ?_
                  exact ih87 n _ _ (by omega) (by omega) (by omega) (by omega) (by omega) (by omega) (by rw [← hr, pw_s, if_pos (by omega), cif_f hp, if_pos hq]; first | done | rfl)
              · skip
                have hp := cp.mp (by assumption)
                have d8 : dz (canP C r q (C.1 0 3 0 0)) i j = dz (canP C r q (C.1 0 3 0 0)) (i - 1) (j - 1) + 1 := d1.elim (fun z => z.2) (fun z => absurd hp z.1)
                refine g_aload_n X dX12_pairOf_115 rfl rfl ?_
                refine g_get X ci12 (n40 hN) (en40 _ _ _ _) (by decide) fl_X12_48 rfl dX12_pairOf_116 rfl ?_
                refine g_bipush X dX12_pairOf_119 rfl (by decide) ?_
                refine g_iload X dX12_pairOf_121 rfl rfl ?_
                refine g_iconst X dX12_pairOf_123 rfl ?_
                refine g_isub X dX12_pairOf_124 rfl ?_
                refine g_imul X dX12_pairOf_125 rfl ?_
                refine g_iload X dX12_pairOf_126 rfl rfl ?_
                refine g_iadd X dX12_pairOf_128 rfl ?_
                refine g_iconst X dX12_pairOf_129 rfl ?_
                refine g_isub X dX12_pairOf_130 rfl ?_
                refine g_iald X dX12_pairOf_131 rfl (n51 hN) (en51 _ _ _ _) (t0 := 0) rfl (by omega) (by omega) (by decide) (fun r131 => ?_)
                refine g_iconst X dX12_pairOf_132 rfl ?_
                refine g_iadd X dX12_pairOf_133 rfl ?_
                refine g_aload_n X dX12_pairOf_134 rfl rfl ?_
                refine g_get X ci12 (n40 hN) (en40 _ _ _ _) (by decide) fl_X12_48 rfl dX12_pairOf_135 rfl ?_
                refine g_bipush X dX12_pairOf_138 rfl (by decide) ?_
                refine g_iload X dX12_pairOf_140 rfl rfl ?_
                refine g_imul X dX12_pairOf_142 rfl ?_
                refine g_iload X dX12_pairOf_143 rfl rfl ?_
                refine g_iadd X dX12_pairOf_145 rfl ?_
                refine g_iald X dX12_pairOf_146 rfl (n51 hN) (en51 _ _ _ _) (t0 := 0) rfl (by omega) (by omega) (by decide) (fun r146 => ?_)
                refine g_icmp_ne (tgt := 165) X dX12_pairOf_147 rfl rfl (by omega) (by omega) (fun h147 => ?_) (fun h147 => ?_)
                · skip
                  exact absurd (show (Mc66.1 51 0 0 (61 * (i - 1) + j - 1)) + 1 = (Mc66.1 51 0 0 (61 * i + j)) by omega) (by assumption)
                  skip
                · skip
                  refine g_iinc_6 X dX12_pairOf_150 rfl (lt_kN hNL rfl) rfl ?_
                  refine g_iinc_7 X dX12_pairOf_153 rfl (lt_kN hNL rfl) rfl ?_
                  refine g_iload X dX12_pairOf_156 rfl rfl ?_
                  refine g_iload_n X dX12_pairOf_158 rfl rfl ?_
                  refine g_icmp_ne (tgt := 87) X dX12_pairOf_159 rfl rfl (by omega) (by omega) (fun h159 => ?_) (fun h159 => ?_)
                  · skip
                    exact ih87 n _ _ (by omega) (by omega) (by omega) (by omega) (by omega) (by omega) (by rw [← hr, pw_s, if_pos (by omega), cif_t hp, if_neg (by omega)]; first | done | rfl)
                  · skip
                    refine g_iload X dX12_pairOf_162 rfl rfl ?_
                    have e1 : pw (canP C r q (C.1 0 3 0 0)) p 121 (C.1 16 6 r 0) (C.1 16 6 q 0) = j + -1 := by rw [← hr, pw_s, if_pos (by omega), cif_t hp, if_pos (by omega)]; rfl
                    exact g_ret Y dX12_pairOf_164 ⟨_, rfl⟩ ⟨rfl, Or.inr ⟨w0, by rw [e1], hE⟩⟩
        exact lp87 121 _ _ (by omega) (by omega) (by omega) (by omega) (by omega) rfl
      · skip
        refine g_iconst X dX12_pairOf_61 rfl ?_
        exact g_ret Y dX12_pairOf_62 ⟨_, rfl⟩ (pRx (by assumption))
set_option maxRecDepth 100000 in
set_option maxHeartbeats 4000000 in
theorem c_X12_alike {δ : Dx} {nm : List (Nat × Int)} {ad : Ad} {M : Mem} {C : Mem} {r p q t : Int} (hN : NmOk nm) (hR : RelR C M) (rr : rng r) (rp : rng p) (rq : rng q) (rt : rng t) : Ct δ md_X12_alike 0 0 nm ad M [.ref (ad 40 0), .int (iI r), .int (iI p), .int (iI q), .int (iI t)] (pRf (if ((0 ≤ r ∧ r < (C.1 0 1 0 0)) ∧ (0 ≤ p ∧ p < (C.1 16 6 r 0))) ∧ ((0 ≤ q ∧ q < (C.1 0 1 0 0)) ∧ (0 ≤ t ∧ t < (C.1 16 6 q 0))) then 0 else 1) (.float 3212836864) (.float (alkF (dist (C.2 18 0 r p) (C.2 18 0 q t)))) ad M (fun M' => M' = (setI M 40 46 0 0 0))) := by
  refine Ct_of (ins := .freturn) (ok := okF) [some (.ref (ad 40 0)), some (.int (iI r)), some (.int (iI p)), some (.int (iI q)), some (.int (iI t))] (by decide +kernel) rfl (Nat.le_of_ble_eq_true rfl) (fun κ s hs X hr hQ hδ => endF rfl hs X hr hQ hδ) (fun κ X hNL hδ Y => ?_)
  refine g_rm (fun hM => ?_)
  have rc := hR.rc
  have he := hR.e
  refine g_aload_n X dX12_alike_0 rfl rfl ?_
  refine g_cutI 25 (if ((0 ≤ r ∧ r < (C.1 0 1 0 0)) ∧ (0 ≤ p ∧ p < (C.1 16 6 r 0))) ∧ ((0 ≤ q ∧ q < (C.1 0 1 0 0)) ∧ (0 ≤ t ∧ t < (C.1 16 6 q 0))) then 0 else 1) (fun ci1 => ?_) ?_
  · skip
    refine g_aload_n X dX12_alike_1 rfl rfl ?_
    refine g_iload_n X dX12_alike_2 rfl rfl ?_
    refine g_iload_n X dX12_alike_3 rfl rfl ?_
    refine g_iV2_v X w_X12_isFrame ml_X12_167 dX12_alike_4 rfl (n40 hN) (en40 _ _ _ _) ⟨⟨Nat.le_of_ble_eq_true rfl, Nat.le_of_ble_eq_true rfl⟩, Nat.le_of_ble_eq_true rfl, Nat.le_of_ble_eq_true rfl⟩ (Nat.le_of_ble_eq_true rfl) (c_X12_isFrame hN (by omega) (by omega) (by omega) hR.mn) ?_
    have mr : (0 ≤ r ∧ r < (C.1 0 1 0 0)) → (M.1 47 0 0 r) = (C.1 16 6 r 0) := fun z => (hR.mi r z.1 z.2).2.2.2.2.2.2
    refine g_ifB_eq (tgt := 24) X dX12_alike_7 rfl rfl (fun h7 => ?_) (fun h7 => ?_)
    · skip
      refine g_iconst X dX12_alike_24 rfl ?_
      exact ci1 _ (by omega)
    · skip
      refine g_aload_n X dX12_alike_10 rfl rfl ?_
      refine g_iload_n X dX12_alike_11 rfl rfl ?_
      refine g_iload X dX12_alike_12 rfl rfl ?_
      refine g_iV2_v X w_X12_isFrame ml_X12_167 dX12_alike_14 rfl (n40 hN) (en40 _ _ _ _) ⟨⟨Nat.le_of_ble_eq_true rfl, Nat.le_of_ble_eq_true rfl⟩, Nat.le_of_ble_eq_true rfl, Nat.le_of_ble_eq_true rfl⟩ (Nat.le_of_ble_eq_true rfl) (c_X12_isFrame hN (by omega) (by omega) (by omega) hR.mn) ?_
      have mr2 : (0 ≤ q ∧ q < (C.1 0 1 0 0)) → (M.1 47 0 0 q) = (C.1 16 6 q 0) := fun z => (hR.mi q z.1 z.2).2.2.2.2.2.2
      refine g_ifB_eq (tgt := 24) X dX12_alike_17 rfl rfl (fun h17 => ?_) (fun h17 => ?_)
      · skip
        refine g_iconst X dX12_alike_24 rfl ?_
        exact ci1 _ (by omega)
      · skip
        refine g_iconst X dX12_alike_20 rfl ?_
        refine g_goto (pc' := 25) X dX12_alike_21 rfl ?_
        exact ci1 _ (by omega)
  · skip
    refine g_iV1_v X w_X12_holds ml_X12_158 dX12_alike_25 rfl (n40 hN) (en40 _ _ _ _) ⟨⟨Nat.le_of_ble_eq_true rfl, Nat.le_of_ble_eq_true rfl⟩, Nat.le_of_ble_eq_true rfl, Nat.le_of_ble_eq_true rfl⟩ (Nat.le_of_ble_eq_true rfl) (c_X12_holds hN (by omega)) ?_
    refine g_ifB_eq (tgt := 34) X dX12_alike_28 rfl rfl (fun h28 => ?_) (fun h28 => ?_)
    · skip
      have w0 : (if ((0 ≤ r ∧ r < (C.1 0 1 0 0)) ∧ (0 ≤ p ∧ p < (C.1 16 6 r 0))) ∧ ((0 ≤ q ∧ q < (C.1 0 1 0 0)) ∧ (0 ≤ t ∧ t < (C.1 16 6 q 0))) then 0 else 1 : Int) = 0 := by omega
      rw [w0]
      have fb := (hR.rd r (by omega) (by omega)).fc
      have fb2 := (hR.rd q (by omega) (by omega)).fc
      refine g_fconst1 X dX12_alike_34 rfl ?_
      refine g_aload_n X dX12_alike_35 rfl rfl ?_
      refine g_aload_n X dX12_alike_36 rfl rfl ?_
      refine g_get X ci12 (n40 hN) (en40 _ _ _ _) (by decide) fl_X12_34 rfl dX12_alike_37 rfl ?_
      refine g_bipush X dX12_alike_40 rfl (by decide) ?_
      refine g_iload_n X dX12_alike_42 rfl rfl ?_
      refine g_imul X dX12_alike_43 rfl ?_
      refine g_iload_n X dX12_alike_44 rfl rfl ?_
      refine g_iadd X dX12_alike_45 rfl ?_
      refine g_lald X dX12_alike_46 rfl (n49 hN) (en49 _ _ _ _) (t0 := 1) rfl (by first | omega | (simp only [setI_1, setL_1, setI_2, setL_2]; omega) | (simp only [setI_1, setL_1, setI_2, setL_2]; simp; omega)) (by first | omega | (simp only [setI_1, setL_1, setI_2, setL_2]; omega) | (simp only [setI_1, setL_1, setI_2, setL_2]; simp; omega)) (by decide) ?_
      refine g_lng (b := M.2 49 0 0 ((60 * r) + p)) rfl ?_
      refine g_aload_n X dX12_alike_47 rfl rfl ?_
      refine g_get X ci12 (n40 hN) (en40 _ _ _ _) (by decide) fl_X12_34 rfl dX12_alike_48 rfl ?_
      refine g_bipush X dX12_alike_51 rfl (by decide) ?_
      refine g_iload_n X dX12_alike_53 rfl rfl ?_
      refine g_imul X dX12_alike_54 rfl ?_
      refine g_iload X dX12_alike_55 rfl rfl ?_
      refine g_iadd X dX12_alike_57 rfl ?_
      refine g_lald X dX12_alike_58 rfl (n49 hN) (en49 _ _ _ _) (t0 := 1) rfl (by first | omega | (simp only [setI_1, setL_1, setI_2, setL_2]; omega) | (simp only [setI_1, setL_1, setI_2, setL_2]; simp; omega)) (by first | omega | (simp only [setI_1, setL_1, setI_2, setL_2]; omega) | (simp only [setI_1, setL_1, setI_2, setL_2]; simp; omega)) (by decide) ?_
      refine g_lng (b := M.2 49 0 0 ((60 * q) + t)) rfl ?_
      refine g_iV2_v X w_X12_apart ml_X12_205 dX12_alike_59 rfl (n40 hN) (en40 _ _ _ _) ⟨⟨Nat.le_of_ble_eq_true rfl, Nat.le_of_ble_eq_true rfl⟩, Nat.le_of_ble_eq_true rfl, Nat.le_of_ble_eq_true rfl⟩ (Nat.le_of_ble_eq_true rfl) (c_X12_apart hN) ?_
      refine g_int (b := dist (C.2 18 0 r p) (C.2 18 0 q t)) (by rw [← (hR.fr r p (by omega) (by omega) (by omega) (by omega)).2, ← (hR.fr q t (by omega) (by omega) (by omega) (by omega)).2]) ?_
      have db := dist_b (C.2 18 0 r p) (C.2 18 0 q t)
      have an := alk_n db.1 db.2
      refine g_i2f X dX12_alike_62 rfl ?_
      refine g_ldcf X dX12_alike_63 rfl kc_X12_218 ?_
      refine g_fdiv X dX12_alike_65 rfl an.1 ?_
      refine g_fsub X dX12_alike_66 rfl an.2 ?_
      exact g_ret Y dX12_alike_67 ⟨_, rfl⟩ (pRo w0 rfl)
    · skip
      refine g_ldcf X dX12_alike_31 rfl kc_X12_217 ?_
      exact g_ret Y dX12_alike_33 ⟨_, rfl⟩ (pRx (by assumption))
set_option maxRecDepth 100000 in
set_option maxHeartbeats 4000000 in
theorem c_X12_firstOf_C {δ : Dx} {nm : List (Nat × Int)} {ad : Ad} {M : Mem} {C : Mem} {r c : Int} (hN : NmOk nm) (hR : RelR C M) (r0 : 0 ≤ r) (q1 : r < (C.1 0 1 0 0)) (c0 : 0 ≤ c) (c1 : c ≤ 999) : Ct δ md_X12_firstOf 0 0 nm ad M [.ref (ad 40 0), .int (iI r), .int (iI c)] (pV (.int (iI (C.1 20 0 r c))) ad M) := by
  refine Ct_of (ins := .ireturn) (ok := okI) [some (.ref (ad 40 0)), some (.int (iI r)), some (.int (iI c)), none] (by decide +kernel) rfl (Nat.le_of_ble_eq_true rfl) (fun κ s hs X hr hQ hδ => endI rfl hs X hr hQ hδ) (fun κ X hNL hδ Y => ?_)
  refine g_rm (fun hM => ?_)
  have rc := hR.rc
  have hd := hR.rd r r0 q1
  have fb := hd.fc
  have mi := hR.mi r r0 q1
  have ft := hd.ft c c0 c1
  refine g_iconst X dX12_firstOf_0 rfl ?_
  refine g_istore_3 X dX12_firstOf_1 rfl (lt_kN hNL rfl) rfl ?_
  have lp2 : ∀ (k : Int) (k0 : 0 ≤ k) (k1 : k ≤ (C.1 16 6 r 0)) (ha : ∀ j, 0 ≤ j → j < k → (C.1 17 0 r j) ≠ c), G κ nm ad M 2 [some (.ref (ad 40 0)), some (.int (iI r)), some (.int (iI c)), some (.int (iI k))] [] 0 0 := by
    refine ind1 (fun k => (60 - k).toNat) ?_
    intro k ih2 k0 k1 ha
    refine g_rm (fun hM2 => ?_)
    refine g_iload_n X dX12_firstOf_2 rfl rfl ?_
    refine g_aload_n X dX12_firstOf_3 rfl rfl ?_
    refine g_get X ci12 (n40 hN) (en40 _ _ _ _) (by decide) fl_X12_28 rfl dX12_firstOf_4 rfl ?_
    refine g_iload_n X dX12_firstOf_7 rfl rfl ?_
    refine g_iald X dX12_firstOf_8 rfl (n47 hN) (en47 _ _ _ _) (t0 := 0) rfl (by omega) (by omega) (by decide) (fun r8 => ?_)
    refine g_icmp_ge (tgt := 35) X dX12_firstOf_9 rfl rfl (by omega) (by omega) (fun h9 => ?_) (fun h9 => ?_)
    · skip
      refine g_iconst X dX12_firstOf_35 rfl ?_
      exact g_ret Y dX12_firstOf_36 ⟨_, rfl⟩ (pVI (by
                rcases ft with ⟨a1, a2⟩ | ⟨a1, a2, a3, a4⟩
                · exact a1.symm
                · exact absurd a3 (ha _ a1 (by omega))))
    · skip
      have f1 := (hR.fr r k r0 q1 k0 (by omega)).1
      have d1 := hd.cd k k0 (by omega)
      refine g_aload_n X dX12_firstOf_12 rfl rfl ?_
      refine g_get X ci12 (n40 hN) (en40 _ _ _ _) (by decide) fl_X12_31 rfl dX12_firstOf_13 rfl ?_
      refine g_bipush X dX12_firstOf_16 rfl (by decide) ?_
      refine g_iload_n X dX12_firstOf_18 rfl rfl ?_
      refine g_imul X dX12_firstOf_19 rfl ?_
      refine g_iload_n X dX12_firstOf_20 rfl rfl ?_
      refine g_iadd X dX12_firstOf_21 rfl ?_
      refine g_iald X dX12_firstOf_22 rfl (n48 hN) (en48 _ _ _ _) (t0 := 0) rfl (by omega) (by omega) (by decide) (fun r22 => ?_)
      refine g_iload_n X dX12_firstOf_23 rfl rfl ?_
      refine g_icmp_ne (tgt := 29) X dX12_firstOf_24 rfl rfl (by omega) (by omega) (fun h24 => ?_) (fun h24 => ?_)
      · skip
        refine g_iinc_3 X dX12_firstOf_29 rfl (lt_kN hNL rfl) rfl ?_
        refine g_goto (pc' := 2) X dX12_firstOf_32 rfl ?_
        exact ih2 (k + 1) (by omega) (by omega) (by omega) (fun j h1 h2 => by
                by_cases e : j = k
                · rw [e]; omega
                · exact ha j h1 (by omega))
      · skip
        refine g_iload_n X dX12_firstOf_27 rfl rfl ?_
        exact g_ret Y dX12_firstOf_28 ⟨_, rfl⟩ (pVI (by
                  rcases ft with ⟨a1, a2⟩ | ⟨a1, a2, a3, a4⟩
                  · exact absurd (show (C.1 17 0 r k) = c by omega) (a2 k k0 (by omega))
                  · rcases Int.lt_trichotomy k (C.1 20 0 r c) with z | z | z
                    · exact absurd (show (C.1 17 0 r k) = c by omega) (a4 k k0 z)
                    · exact z
                    · exact absurd a3 (ha _ a1 z)))
  exact lp2 0 (by omega) (by omega) (fun j h1 h2 => by omega)
set_option maxRecDepth 100000 in
set_option maxHeartbeats 4000000 in
theorem c_X12_reelFor {δ : Dx} {nm : List (Nat × Int)} {ad : Ad} {M : Mem} {C : Mem} {c : Int} (hN : NmOk nm) (hR : RelR C M) (c0 : 0 ≤ c) (c1 : c ≤ 999) : Ct δ md_X12_reelFor 0 0 nm ad M [.ref (ad 40 0), .int (iI c)] (pV (.int (iI (best C c))) ad M) := by
  refine Ct_of (ins := .ireturn) (ok := okI) [some (.ref (ad 40 0)), some (.int (iI c)), none, none, none, none] (by decide +kernel) rfl (Nat.le_of_ble_eq_true rfl) (fun κ s hs X hr hQ hδ => endI rfl hs X hr hQ hδ) (fun κ X hNL hδ Y => ?_)
  refine g_rm (fun hM => ?_)
  have rc := hR.rc
  have he := hR.e
  refine g_iconst X dX12_reelFor_0 rfl ?_
  refine g_istore_2 X dX12_reelFor_1 rfl (lt_kN hNL rfl) rfl ?_
  refine g_iconst X dX12_reelFor_2 rfl ?_
  refine g_istore_3 X dX12_reelFor_3 rfl (lt_kN hNL rfl) rfl ?_
  have lp4 : ∀ (r : Int) (r0 : 0 ≤ r) (r1 : r ≤ (C.1 0 1 0 0)), G κ nm ad M 4 [some (.ref (ad 40 0)), some (.int (iI c)), some (.int (iI (bst C c r.toNat))), some (.int (iI r)), none, none] [] 0 0 := by
    refine ind1 (fun r => (12 - r).toNat) ?_
    intro r ih4 r0 r1
    refine g_rm (fun hM4 => ?_)
    have bb := bst_b C c r.toNat
    refine g_iload_n X dX12_reelFor_4 rfl rfl ?_
    refine g_aload_n X dX12_reelFor_5 rfl rfl ?_
    refine g_getI X ci12 (n40 hN) (en40 _ _ _ _) (by decide) fl_X12_143 rfl dX12_reelFor_6 rfl (fun r6 => ?_)
    refine g_icmp_ge (tgt := 114) X dX12_reelFor_9 rfl rfl (by omega) (by omega) (fun h9 => ?_) (fun h9 => ?_)
    · skip
      refine g_iload_n X dX12_reelFor_114 rfl rfl ?_
      exact g_ret Y dX12_reelFor_115 ⟨_, rfl⟩ (pVI (by rw [show r = (C.1 0 1 0 0) by omega]; rfl))
    · skip
      have mi := hR.mi r r0 (by omega)
      have fb := (hR.rd r r0 (by omega)).fc
      have ft := (hR.rd r r0 (by omega)).ft c c0 c1
      refine g_cutB 34 (((C.1 16 4 r 0) < 300 ∧ (C.1 20 0 r c) ≠ -1)) (fun ct12 cf12 => ?_) ?_
      · skip
        have mi := hR.mi r r0 (by omega)
        have fb := (hR.rd r r0 (by omega)).fc
        have ft := (hR.rd r r0 (by omega)).ft c c0 c1
        refine g_aload_n X dX12_reelFor_12 rfl rfl ?_
        refine g_iload_n X dX12_reelFor_13 rfl rfl ?_
        refine g_iV1_v X w_X12_isGood ml_X12_175 dX12_reelFor_14 rfl (n40 hN) (en40 _ _ _ _) ⟨⟨Nat.le_of_ble_eq_true rfl, Nat.le_of_ble_eq_true rfl⟩, Nat.le_of_ble_eq_true rfl, Nat.le_of_ble_eq_true rfl⟩ (Nat.le_of_ble_eq_true rfl) (c_X12_isGood hN (by omega) (by omega)) ?_
        refine g_ifB_eq (tgt := 33) X dX12_reelFor_17 rfl rfl (fun h17 => ?_) (fun h17 => ?_)
        · skip
          refine g_iconst X dX12_reelFor_33 rfl ?_
          exact cf12 (by omega)
        · skip
          refine g_aload_n X dX12_reelFor_20 rfl rfl ?_
          refine g_iload_n X dX12_reelFor_21 rfl rfl ?_
          refine g_iload_n X dX12_reelFor_22 rfl rfl ?_
          refine g_iV2_v X w_X12_firstOf ml_X12_231 dX12_reelFor_23 rfl (n40 hN) (en40 _ _ _ _) ⟨⟨Nat.le_of_ble_eq_true rfl, Nat.le_of_ble_eq_true rfl⟩, Nat.le_of_ble_eq_true rfl, Nat.le_of_ble_eq_true rfl⟩ (Nat.le_of_ble_eq_true rfl) (c_X12_firstOf_C hN hR r0 (by omega) c0 c1) ?_
          refine g_if_lt (tgt := 33) X dX12_reelFor_26 rfl rfl (by omega) (fun h26 => ?_) (fun h26 => ?_)
          · skip
            refine g_iconst X dX12_reelFor_33 rfl ?_
            exact cf12 (by omega)
          · skip
            refine g_iconst X dX12_reelFor_29 rfl ?_
            refine g_goto (pc' := 34) X dX12_reelFor_30 rfl ?_
            exact ct12 (by omega)
      · skip
        refine g_istore_4 X dX12_reelFor_34 rfl (lt_kN hNL rfl) rfl ?_
        refine g_cutB 90 ((bst C c r.toNat = -1 ∨ btr C r (bst C c r.toNat))) (fun ct36 cf36 => ?_) ?_
        · skip
          refine g_iload_n X dX12_reelFor_36 rfl rfl ?_
          refine g_if_lt (tgt := 85) X dX12_reelFor_37 rfl rfl (by omega) (fun h37 => ?_) (fun h37 => ?_)
          · skip
            refine g_iconst X dX12_reelFor_85 rfl ?_
            refine g_goto (pc' := 90) X dX12_reelFor_86 rfl ?_
            exact ct36 (by unfold btr; omega)
          · skip
            have mb := hR.mi (bst C c r.toNat) (by omega) (by omega)
            refine g_aload_n X dX12_reelFor_40 rfl rfl ?_
            refine g_get X ci12 (n40 hN) (en40 _ _ _ _) (by decide) fl_X12_22 rfl dX12_reelFor_41 rfl ?_
            refine g_iload_n X dX12_reelFor_44 rfl rfl ?_
            refine g_iald X dX12_reelFor_45 rfl (n45 hN) (en45 _ _ _ _) (t0 := 0) rfl (by omega) (by omega) (by decide) (fun r45 => ?_)
            refine g_aload_n X dX12_reelFor_46 rfl rfl ?_
            refine g_get X ci12 (n40 hN) (en40 _ _ _ _) (by decide) fl_X12_22 rfl dX12_reelFor_47 rfl ?_
            refine g_iload_n X dX12_reelFor_50 rfl rfl ?_
            refine g_iald X dX12_reelFor_51 rfl (n45 hN) (en45 _ _ _ _) (t0 := 0) rfl (by omega) (by omega) (by decide) (fun r51 => ?_)
            refine g_icmp_lt (tgt := 85) X dX12_reelFor_52 rfl rfl (by omega) (by omega) (fun h52 => ?_) (fun h52 => ?_)
            · skip
              refine g_iconst X dX12_reelFor_85 rfl ?_
              refine g_goto (pc' := 90) X dX12_reelFor_86 rfl ?_
              exact ct36 (by unfold btr; omega)
            · skip
              refine g_aload_n X dX12_reelFor_55 rfl rfl ?_
              refine g_get X ci12 (n40 hN) (en40 _ _ _ _) (by decide) fl_X12_22 rfl dX12_reelFor_56 rfl ?_
              refine g_iload_n X dX12_reelFor_59 rfl rfl ?_
              refine g_iald X dX12_reelFor_60 rfl (n45 hN) (en45 _ _ _ _) (t0 := 0) rfl (by omega) (by omega) (by decide) (fun r60 => ?_)
              refine g_aload_n X dX12_reelFor_61 rfl rfl ?_
              refine g_get X ci12 (n40 hN) (en40 _ _ _ _) (by decide) fl_X12_22 rfl dX12_reelFor_62 rfl ?_
              refine g_iload_n X dX12_reelFor_65 rfl rfl ?_
              refine g_iald X dX12_reelFor_66 rfl (n45 hN) (en45 _ _ _ _) (t0 := 0) rfl (by omega) (by omega) (by decide) (fun r66 => ?_)
              refine g_icmp_ne (tgt := 89) X dX12_reelFor_67 rfl rfl (by omega) (by omega) (fun h67 => ?_) (fun h67 => ?_)
              · skip
                refine g_iconst X dX12_reelFor_89 rfl ?_
                exact cf36 (by unfold btr; omega)
              · skip
                refine g_aload_n X dX12_reelFor_70 rfl rfl ?_
                refine g_get X ci12 (n40 hN) (en40 _ _ _ _) (by decide) fl_X12_19 rfl dX12_reelFor_71 rfl ?_
                refine g_iload_n X dX12_reelFor_74 rfl rfl ?_
                refine g_iald X dX12_reelFor_75 rfl (n44 hN) (en44 _ _ _ _) (t0 := 0) rfl (by omega) (by omega) (by decide) (fun r75 => ?_)
                refine g_aload_n X dX12_reelFor_76 rfl rfl ?_
                refine g_get X ci12 (n40 hN) (en40 _ _ _ _) (by decide) fl_X12_19 rfl dX12_reelFor_77 rfl ?_
                refine g_iload_n X dX12_reelFor_80 rfl rfl ?_
                refine g_iald X dX12_reelFor_81 rfl (n44 hN) (en44 _ _ _ _) (t0 := 0) rfl (by omega) (by omega) (by decide) (fun r81 => ?_)
                refine g_icmp_ge (tgt := 89) X dX12_reelFor_82 rfl rfl (by omega) (by omega) (fun h82 => ?_) (fun h82 => ?_)
                · skip
                  refine g_iconst X dX12_reelFor_89 rfl ?_
                  exact cf36 (by unfold btr; omega)
                · skip
                  refine g_iconst X dX12_reelFor_85 rfl ?_
                  refine g_goto (pc' := 90) X dX12_reelFor_86 rfl ?_
                  exact ct36 (by unfold btr; omega)
        · skip
          refine g_istore_5 X dX12_reelFor_90 rfl (lt_kN hNL rfl) rfl ?_
          refine g_cutI 107 (bst C c (r + 1).toNat) (fun ci92 => ?_) ?_
          · skip
            refine g_iload X dX12_reelFor_92 rfl rfl ?_
            refine g_ifB_eq (tgt := 106) X dX12_reelFor_94 rfl rfl (fun h94 => ?_) (fun h94 => ?_)
            · skip
              refine g_iload_n X dX12_reelFor_106 rfl rfl ?_
              exact ci92 _ (by 
                        rw [bst_s C c r0]
                        first
                          | (rw [cif_t (by first | exact ⟨(by assumption : ((C.1 16 4 r 0) < 300 ∧ (C.1 20 0 r c) ≠ -1)).1, (by assumption : ((C.1 16 4 r 0) < 300 ∧ (C.1 20 0 r c) ≠ -1)).2, by assumption⟩)]; done)
                          | (rw [cif_f (fun z => by first | exact absurd (show ((C.1 16 4 r 0) < 300 ∧ (C.1 20 0 r c) ≠ -1) from ⟨z.1, z.2.1⟩) (by assumption) | exact absurd z.2.2 (by assumption))]; done))
            · skip
              refine g_iload X dX12_reelFor_97 rfl rfl ?_
              refine g_ifB_eq (tgt := 106) X dX12_reelFor_99 rfl rfl (fun h99 => ?_) (fun h99 => ?_)
              · skip
                refine g_iload_n X dX12_reelFor_106 rfl rfl ?_
                exact ci92 _ (by 
                          rw [bst_s C c r0]
                          first
                            | (rw [cif_t (by first | exact ⟨(by assumption : ((C.1 16 4 r 0) < 300 ∧ (C.1 20 0 r c) ≠ -1)).1, (by assumption : ((C.1 16 4 r 0) < 300 ∧ (C.1 20 0 r c) ≠ -1)).2, by assumption⟩)]; done)
                            | (rw [cif_f (fun z => by first | exact absurd (show ((C.1 16 4 r 0) < 300 ∧ (C.1 20 0 r c) ≠ -1) from ⟨z.1, z.2.1⟩) (by assumption) | exact absurd z.2.2 (by assumption))]; done))
              · skip
                refine g_iload_n X dX12_reelFor_102 rfl rfl ?_
                refine g_goto (pc' := 107) X dX12_reelFor_103 rfl ?_
                exact ci92 _ (by 
                          rw [bst_s C c r0]
                          first
                            | (rw [cif_t (by first | exact ⟨(by assumption : ((C.1 16 4 r 0) < 300 ∧ (C.1 20 0 r c) ≠ -1)).1, (by assumption : ((C.1 16 4 r 0) < 300 ∧ (C.1 20 0 r c) ≠ -1)).2, by assumption⟩)]; done)
                            | (rw [cif_f (fun z => by first | exact absurd (show ((C.1 16 4 r 0) < 300 ∧ (C.1 20 0 r c) ≠ -1) from ⟨z.1, z.2.1⟩) (by assumption) | exact absurd z.2.2 (by assumption))]; done))
          · skip
            refine g_istore_2 X dX12_reelFor_107 rfl (lt_kN hNL rfl) rfl ?_
            refine g_iinc_3 X dX12_reelFor_108 rfl (lt_kN hNL rfl) rfl ?_
            refine g_goto (pc' := 4) X dX12_reelFor_111 rfl ?_
            refine g_drop_4 ?_
            refine g_drop_5 ?_
            exact ih4 (r + 1) (by omega) (by omega) (by omega)
  exact lp4 0 (by omega) (by omega)
