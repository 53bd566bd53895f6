theorem dc_mended : Cond.declares ⟨RX5, "mended", "(JJJ)J"⟩ ∈ lw_tbl := List.mem_of_getElem? (i := 386) (by decide +kernel)
/-- the mending's own method -/
theorem g_mendV {κ : Kx} {cc : ByteArray} {rm : Room} {nm : List (Nat × Int)} {ad : Ad} {M : Mem} {pc pc' : Nat} {lv : List (Option Value)} {rest : List Value} {cl sl : Nat} (X : Cx κ cc RX2 rm) {d : Md} {ci k : Nat} {fs : List Value} {a h b x : Int64} (hsel : Cond.selects d.1.cls ⟨RX5, "mended", "(JJJ)J"⟩ d.1 ∈ Tb) (hin : Cond.instanceMethod d.1 ∈ Tb) (hini : Cond.initialized d.1.cls ∈ Tb) (hco : mcode d ∈ Tb) (hci : (vwCl[ci]?).map (fun q => q.1) = some d.1.cls) (dd : decode cc pc = .ok (.invokevirtual 48, 3)) (e : pc + 3 = pc') (hn : (k, 0) ∈ nm) (he : ent (kC κ) ad M k 0 = .inr (ci, fs)) (hr : Rmo rm d 0 0 cl sl) (hcat : (rest.map fun v => v.category).sum ≤ 8) (hC : Ct (kδ κ) d 0 0 nm ad M [.ref (ad k 0), .long a, .long h, .long b] (pV (.long x) ad M)) (kk : G κ nm ad M pc' lv (.long x :: rest) cl sl) : G κ nm ad M pc lv (.long b :: .long h :: .long a :: .ref (ad k 0) :: rest) cl sl := by
  subst e
  have cw : va_CU (kR κ) (ks κ) (ka κ) RX2 d.1.cls RX5 48 ⟨RX5, "mended", "(JJJ)J"⟩ d.1 d.2.1 d.2.2.1 d.2.2.2.1 (mcode d :: Tb) { frames := d.2.2.2.2.1, cells := 0, slots := 0, locals := d.2.2.2.2.2 } 0 0 3 := by
    rw [X.2.2.2.2.2.2.2.1]
    refine va_cwA (Ts := Tb) (ws' := Tb) 3 X.2.2.2.2.1 (Tb_gi (fun w hw => ?_)) rfl rfl rfl (X.2.2.2.2.2.2.2.2.2.2.2.2.2.2.2.2.2.2.2.2.2 _ dc_mended) ⟨by decide, by decide, by decide +kernel⟩ hr.1
    unfold va_wsU at hw
    rcases List.mem_append.mp hw with q | q
    · simp only [List.mem_cons, List.mem_nil_iff, or_false] at q
      rcases q with q | q | q | q | q <;> rw [q]
      · exact ml_X2_48
      · exact sm_mended
      · exact hsel
      · exact hin
      · exact hini
    · exact Tb_cons hco w q
  refine G_run (mc := 0) (ms := 0) (rest := rest) (post := pV (.long x) ad M) (fun _ _ _ h => h) (fun hM H locs ls hP hD hS hl => ?_) (fun v ad' M' ⟨h1, h2, h3⟩ => by subst h1; subst h2; subst h3; exact kk)
  exact va_runU (As := [.long a, .long h, .long b]) (fix_ X) (hC X.2.2.2.2.2.2.2.2.1) cw ⟨Pre_blind, recv_ X hn he hci hP, fun U hU hW => ⟨rfl, Pre_on X hM hP hD hS U hU hW⟩⟩ rfl rfl hl.1 rfl (lv_room hcat) dd (by rw [X.2.2.2.2.2.2.2.1]; exact hr.2)
def mvN (M : Mem) (mend : Int64 → Int64 → Int64 → Int64) (k : Int) : Int64 := mend (M.2 31 4 (k - 1) 0) (M.2 31 4 k 0) (M.2 31 4 (k + 1) 0)
def decN (M : Mem) (mend : Int64 → Int64 → Int64 → Int64) (k : Int) : Prop := mayB M (k - 1) ∧ mayB M k ∧ mayB M (k + 1) ∧ chgP M k (mvN M mend k)
def hiN (M : Mem) : Int := if (M.1 10 0 0 0) ≤ 1 then 1 else (M.1 10 0 0 0) - 1
set_option maxRecDepth 100000 in
set_option maxHeartbeats 4000000 in
theorem c_X2_mend95 {δ : Dx} {nm : List (Nat × Int)} {ad : Ad} {M : Mem} {mc ms : Nat} (hN : NmOk nm) (e0 : 0 ≤ (M.1 10 0 0 0) ∧ (M.1 10 0 0 0) ≤ 120) (hc : CapOk M) (cm : (M.1 12 0 0 0) + 120 ≤ 61440) (nb : ∀ k, 0 ≤ k → k < 120 → 0 ≤ (M.1 31 6 k 0) ∧ (M.1 31 6 k 0) ≤ 99000) (hroom : (M.1 13 1 0 0) < (M.1 12 0 0 0) + sm (dI (decN M (fun a h b => mdD (M.1 95 0 0 0) a h b 8))) 1 (hiN M) → 3 ≤ mc ∧ 6 * (M.1 13 1 0 0) ≤ ms) (hq0 : (95, 0) ∈ nm) : Ct δ md_X2_mendByNeighbours mc ms nm ad M [.ref (ad 10 0), .ref (ad 95 0)] (fun v ad' M' => v = some (.int (iI (sm (dI (decN M (fun a h b => mdD (M.1 95 0 0 0) a h b 8))) 1 (hiN M)))) ∧ AdG ad ad' ∧ MdR (decN M (fun a h b => mdD (M.1 95 0 0 0) a h b 8)) (mvN M (fun a h b => mdD (M.1 95 0 0 0) a h b 8)) 1 (hiN M) M M') := by
  refine Ct_of (ins := .ireturn) (ok := okI) [some (.ref (ad 10 0)), some (.ref (ad 95 0)), none, none, none, none, none, none] (by decide +kernel) rfl (Nat.le_of_ble_eq_true rfl) (fun κ s hs X hr hQ hδ => endI rfl hs X hr hQ hδ) (fun κ X hNL hδ Y => ?_)
  refine g_rm (fun hM => ?_)
  have eh : hiN M = if (M.1 10 0 0 0) ≤ 1 then 1 else (M.1 10 0 0 0) - 1 := rfl
  have hh : ((M.1 10 0 0 0) ≤ 1 ∧ hiN M = 1) ∨ (1 < (M.1 10 0 0 0) ∧ hiN M = (M.1 10 0 0 0) - 1) := by
      rw [eh]
      split <;> omega
  refine g_iconst X dX2_mendByNeighbours_0 rfl ?_
  refine g_istore_2 X dX2_mendByNeighbours_1 rfl (lt_kN hNL rfl) rfl ?_
  refine g_aload_n X dX2_mendByNeighbours_2 rfl rfl ?_
  refine g_get X ci2 (n10 hN) (en10 _ _ _ _) (by decide) fl_X2_17 rfl dX2_mendByNeighbours_3 rfl ?_
  refine g_iconst X dX2_mendByNeighbours_6 rfl ?_
  refine g_rald X (n11 hN) (en11 _ _ _ _) (t0 := 6) rfl (by omega) (by omega) (by decide) dX2_mendByNeighbours_7 rfl ?_
  refine g_get X ci3 (n31 hN (by omega) (by omega)) (en31 _ _ _ _) (by decide) fl_X2_41 rfl dX2_mendByNeighbours_8 rfl ?_
  refine g_lstore_3 X dX2_mendByNeighbours_11 rfl (lt_kN hNL rfl) rfl ?_
  refine g_iconst X dX2_mendByNeighbours_12 rfl ?_
  refine g_istore_5 X dX2_mendByNeighbours_13 rfl (lt_kN hNL rfl) rfl ?_
  have lp15 : ∀ (j : Int) (a : Int) (M1 : Mem) (ad1 : Ad) (cl : Nat) (sl : Nat) (i0 : 0 ≤ j) (i1 : j + 1 ≤ hiN M) (hA : AdG ad ad1) (hd : MdR (decN M (fun a h b => mdD (M.1 95 0 0 0) a h b 8)) (mvN M (fun a h b => mdD (M.1 95 0 0 0) a h b 8)) 1 (j + 1) M M1) (ha : a = sm (dI (decN M (fun a h b => mdD (M.1 95 0 0 0) a h b 8))) 1 (j + 1)) (hcl : (cl ≤ mc ∧ sl ≤ ms) ∧ ((M1.1 12 0 0 0) ≤ (M.1 13 1 0 0) → cl = 0 ∧ sl = 0)), G κ nm ad1 M1 15 [some (.ref (ad1 10 0)), some (.ref (ad1 95 0)), some (.int (iI a)), some (.long (M.2 31 4 j 0)), none, some (.int (iI (j + 1))), none, none] [] cl sl := by
    refine ind6 (fun j a M1 ad1 cl sl => (120 - j).toNat) ?_
    intro j a M1 ad1 cl sl ih15 i0 i1 hA hd ha hcl
    refine g_rm (fun hM15 => ?_)
    obtain ⟨hcl1, hcl2⟩ := hcl.1
    have sb := sm_b1 (f := dI (decN M (fun a h b => mdD (M.1 95 0 0 0) a h b 8))) (lo := 1) (hi := j + 1) (by omega) (fun k _ _ => bI_b _)
    have hnow := hd.2.2.2.2.1 (j + 1) (fun q => by omega)
    have hnow2 := hd.2.2.2.2.1 (j + 1 + 1) (fun q => by omega)
    have hcc := hd.2.2.2.2.2.1
    have hq := hc.2.2.1
    have eec := hd.1.i 10 0 0 0 rfl
    refine g_iload X dX2_mendByNeighbours_15 rfl rfl ?_
    refine g_aload_n X dX2_mendByNeighbours_17 rfl rfl ?_
    refine g_getI X ci2 (n10 hN) (en10 _ _ _ _) (by decide) fl_X2_29 rfl dX2_mendByNeighbours_18 rfl (fun r18 => ?_)
    refine g_iconst X dX2_mendByNeighbours_21 rfl ?_
    refine g_isub X dX2_mendByNeighbours_22 rfl ?_
    refine g_icmp_ge (tgt := 121) X dX2_mendByNeighbours_23 rfl rfl (by omega) (by omega) (fun h23 => ?_) (fun h23 => ?_)
    · skip
      refine g_iload_n X dX2_mendByNeighbours_121 rfl rfl ?_
      refine g_widen (cl' := mc) (sl' := ms) hcl1 hcl2 ?_
      have ei : j + 1 = hiN M := by omega
      rw [ei] at ha hd
      exact g_ret Y dX2_mendByNeighbours_122 ⟨_, rfl⟩ ⟨by rw [ha], hA, hd⟩
    · skip
      obtain ⟨g1, g2, g3, g4, g5⟩ := room_step (mc := mc) (ms := ms) hd hc (show 1 ≤ j + 1 by omega) (show j + 1 < hiN M by omega) (by omega) hroom hcl
      refine g_aload_n X dX2_mendByNeighbours_26 rfl rfl ?_
      refine g_get X ci2 (n10 hN) (en10 _ _ _ _) (by decide) fl_X2_17 rfl dX2_mendByNeighbours_27 rfl ?_
      refine g_iload X dX2_mendByNeighbours_30 rfl rfl ?_
      refine g_rald X (n11 hN) (en11 _ _ _ _) (t0 := 6) rfl (by omega) (by omega) (by decide) dX2_mendByNeighbours_32 rfl ?_
      refine g_get X ci3 (n31 hN (by omega) (by omega)) (en31 _ _ _ _) (by decide) fl_X2_41 rfl dX2_mendByNeighbours_33 rfl ?_
      refine g_lng (b := (M.2 31 4 (j + 1) 0)) hnow.1 ?_
      refine g_lstore_6 X dX2_mendByNeighbours_36 rfl (lt_kN hNL rfl) rfl ?_
      refine g_aload_n X dX2_mendByNeighbours_38 rfl rfl ?_
      refine g_get X ci2 (n10 hN) (en10 _ _ _ _) (by decide) fl_X2_17 rfl dX2_mendByNeighbours_39 rfl ?_
      refine g_iload X dX2_mendByNeighbours_42 rfl rfl ?_
      refine g_iconst X dX2_mendByNeighbours_44 rfl ?_
      refine g_isub X dX2_mendByNeighbours_45 rfl ?_
      refine g_rald X (n11 hN) (en11 _ _ _ _) (t0 := 6) rfl (by omega) (by omega) (by decide) dX2_mendByNeighbours_46 rfl ?_
      refine g_iV0_v X w_X3_mayBeMended ml_X2_45 dX2_mendByNeighbours_47 rfl (n31 hN (by omega) (by omega)) (en31 _ _ _ _) ⟨⟨Nat.le_of_ble_eq_true rfl, Nat.le_of_ble_eq_true rfl⟩, by show _ + 0 ≤ mc; omega, by show _ + 0 ≤ ms; omega⟩ (Nat.le_of_ble_eq_true rfl) (c_X3_mayBeMended hN (by omega) (by omega)) ?_
      refine g_ifB_eq (tgt := 112) X dX2_mendByNeighbours_50 rfl rfl (fun h50 => ?_) (fun h50 => ?_)
      · skip
        have hnd : ¬ decN M (fun a h b => mdD (M.1 95 0 0 0) a h b 8) (j + 1) := fun q => absurd ((hd.mb _).mpr (q.1)) (by assumption)
        have hA2 := hA
        have hd2 := hd.no (by omega) hnd
        have ha2 : a = sm (dI (decN M (fun a h b => mdD (M.1 95 0 0 0) a h b 8))) 1 (j + 1 + 1) := by rw [sm_s _ (by omega), show dI (decN M (fun a h b => mdD (M.1 95 0 0 0) a h b 8)) (j + 1) = 0 from bI_f hnd]; omega
        have hcl2' := hcl
        refine g_lload X dX2_mendByNeighbours_112 rfl rfl ?_
        refine g_lstore_3 X dX2_mendByNeighbours_114 rfl (lt_kN hNL rfl) rfl ?_
        refine g_iinc_5 X dX2_mendByNeighbours_115 rfl (lt_kN hNL rfl) rfl ?_
        refine g_goto (pc' := 15) X dX2_mendByNeighbours_118 rfl ?_
        refine g_drop_6 ?_
        exact ih15 (j + 1) _ _ _ _ _ (by omega) (by omega) (by omega) hA2 hd2 ha2 hcl2'
      · skip
        refine g_aload_n X dX2_mendByNeighbours_53 rfl rfl ?_
        refine g_get X ci2 (n10 hN) (en10 _ _ _ _) (by decide) fl_X2_17 rfl dX2_mendByNeighbours_54 rfl ?_
        refine g_iload X dX2_mendByNeighbours_57 rfl rfl ?_
        refine g_rald X (n11 hN) (en11 _ _ _ _) (t0 := 6) rfl (by omega) (by omega) (by decide) dX2_mendByNeighbours_59 rfl ?_
        refine g_iV0_v X w_X3_mayBeMended ml_X2_45 dX2_mendByNeighbours_60 rfl (n31 hN (by omega) (by omega)) (en31 _ _ _ _) ⟨⟨Nat.le_of_ble_eq_true rfl, Nat.le_of_ble_eq_true rfl⟩, by show _ + 0 ≤ mc; omega, by show _ + 0 ≤ ms; omega⟩ (Nat.le_of_ble_eq_true rfl) (c_X3_mayBeMended hN (by omega) (by omega)) ?_
        refine g_ifB_eq (tgt := 112) X dX2_mendByNeighbours_63 rfl rfl (fun h63 => ?_) (fun h63 => ?_)
        · skip
          have hnd : ¬ decN M (fun a h b => mdD (M.1 95 0 0 0) a h b 8) (j + 1) := fun q => absurd ((hd.mb _).mpr (q.2.1)) (by assumption)
          have hA2 := hA
          have hd2 := hd.no (by omega) hnd
          have ha2 : a = sm (dI (decN M (fun a h b => mdD (M.1 95 0 0 0) a h b 8))) 1 (j + 1 + 1) := by rw [sm_s _ (by omega), show dI (decN M (fun a h b => mdD (M.1 95 0 0 0) a h b 8)) (j + 1) = 0 from bI_f hnd]; omega
          have hcl2' := hcl
          refine g_lload X dX2_mendByNeighbours_112 rfl rfl ?_
          refine g_lstore_3 X dX2_mendByNeighbours_114 rfl (lt_kN hNL rfl) rfl ?_
          refine g_iinc_5 X dX2_mendByNeighbours_115 rfl (lt_kN hNL rfl) rfl ?_
          refine g_goto (pc' := 15) X dX2_mendByNeighbours_118 rfl ?_
          refine g_drop_6 ?_
          exact ih15 (j + 1) _ _ _ _ _ (by omega) (by omega) (by omega) hA2 hd2 ha2 hcl2'
        · skip
          refine g_aload_n X dX2_mendByNeighbours_66 rfl rfl ?_
          refine g_get X ci2 (n10 hN) (en10 _ _ _ _) (by decide) fl_X2_17 rfl dX2_mendByNeighbours_67 rfl ?_
          refine g_iload X dX2_mendByNeighbours_70 rfl rfl ?_
          refine g_iconst X dX2_mendByNeighbours_72 rfl ?_
          refine g_iadd X dX2_mendByNeighbours_73 rfl ?_
          refine g_rald X (n11 hN) (en11 _ _ _ _) (t0 := 6) rfl (by omega) (by omega) (by decide) dX2_mendByNeighbours_74 rfl ?_
          refine g_iV0_v X w_X3_mayBeMended ml_X2_45 dX2_mendByNeighbours_75 rfl (n31 hN (by omega) (by omega)) (en31 _ _ _ _) ⟨⟨Nat.le_of_ble_eq_true rfl, Nat.le_of_ble_eq_true rfl⟩, by show _ + 0 ≤ mc; omega, by show _ + 0 ≤ ms; omega⟩ (Nat.le_of_ble_eq_true rfl) (c_X3_mayBeMended hN (by omega) (by omega)) ?_
          refine g_ifB_eq (tgt := 112) X dX2_mendByNeighbours_78 rfl rfl (fun h78 => ?_) (fun h78 => ?_)
          · skip
            have hnd : ¬ decN M (fun a h b => mdD (M.1 95 0 0 0) a h b 8) (j + 1) := fun q => absurd ((hd.mb _).mpr (q.2.2.1)) (by assumption)
            have hA2 := hA
            have hd2 := hd.no (by omega) hnd
            have ha2 : a = sm (dI (decN M (fun a h b => mdD (M.1 95 0 0 0) a h b 8))) 1 (j + 1 + 1) := by rw [sm_s _ (by omega), show dI (decN M (fun a h b => mdD (M.1 95 0 0 0) a h b 8)) (j + 1) = 0 from bI_f hnd]; omega
            have hcl2' := hcl
            refine g_lload X dX2_mendByNeighbours_112 rfl rfl ?_
            refine g_lstore_3 X dX2_mendByNeighbours_114 rfl (lt_kN hNL rfl) rfl ?_
            refine g_iinc_5 X dX2_mendByNeighbours_115 rfl (lt_kN hNL rfl) rfl ?_
            refine g_goto (pc' := 15) X dX2_mendByNeighbours_118 rfl ?_
            refine g_drop_6 ?_
            exact ih15 (j + 1) _ _ _ _ _ (by omega) (by omega) (by omega) hA2 hd2 ha2 hcl2'
          · skip
            have m1 : mayB M (j + 1 - 1) := (hd.mb _).mp (by assumption)
            have m2 : mayB M (j + 1) := (hd.mb _).mp (by assumption)
            have m3 : mayB M (j + 1 + 1) := (hd.mb _).mp (by assumption)
            refine g_aload_n X dX2_mendByNeighbours_81 rfl rfl ?_
            refine g_iload X dX2_mendByNeighbours_82 rfl rfl ?_
            refine g_aload_n X dX2_mendByNeighbours_84 rfl rfl ?_
            refine g_lload_n X dX2_mendByNeighbours_85 rfl rfl ?_
            refine g_lload X dX2_mendByNeighbours_86 rfl rfl ?_
            refine g_aload_n X dX2_mendByNeighbours_88 rfl rfl ?_
            refine g_get X ci2 (n10 hN) (en10 _ _ _ _) (by decide) fl_X2_17 rfl dX2_mendByNeighbours_89 rfl ?_
            refine g_iload X dX2_mendByNeighbours_92 rfl rfl ?_
            refine g_iconst X dX2_mendByNeighbours_94 rfl ?_
            refine g_iadd X dX2_mendByNeighbours_95 rfl ?_
            refine g_rald X (n11 hN) (en11 _ _ _ _) (t0 := 6) rfl (by omega) (by omega) (by decide) dX2_mendByNeighbours_96 rfl ?_
            refine g_get X ci3 (n31 hN (by omega) (by omega)) (en31 _ _ _ _) (by decide) fl_X2_41 rfl dX2_mendByNeighbours_97 rfl ?_
            refine g_lng (b := (M.2 31 4 (j + 1 + 1) 0)) hnow2.1 ?_
            refine g_mendV X sel_X1_mended in_X1_mended ini_X1 co_X1_mended rfl dX2_mendByNeighbours_100 rfl hq0 (en95 _ _ _ _) ⟨⟨Nat.le_of_ble_eq_true rfl, Nat.le_of_ble_eq_true rfl⟩, by show _ + 0 ≤ mc; omega, by show _ + 0 ≤ ms; omega⟩ (Nat.le_of_ble_eq_true rfl) (c_X1_mended hN hq0) ?_
            refine g_lng (b := (mvN M (fun a h b => mdD (M.1 95 0 0 0) a h b 8)) (j + 1)) (by show mdD _ _ _ _ _ = mdD _ _ _ _ _; rw [hd.1.i 95 0 0 0 rfl, show j + 1 - 1 = j by omega]) ?_
            refine g_iV2 (mc := gN (decN M (fun a h b => mdD (M.1 95 0 0 0) a h b 8) (j + 1) ∧ (M1.1 13 1 0 0) ≤ (M1.1 12 0 0 0)) mc) (ms := gN (decN M (fun a h b => mdD (M.1 95 0 0 0) a h b 8) (j + 1) ∧ (M1.1 13 1 0 0) ≤ (M1.1 12 0 0 0)) ms) X w_X2_change ml_X2_54 dX2_mendByNeighbours_103 rfl (n10 hN) (en10 _ _ _ _) ⟨⟨Nat.le_of_ble_eq_true rfl, Nat.le_of_ble_eq_true rfl⟩, g1.1, g1.2⟩ (Nat.le_of_ble_eq_true rfl) (c_X2_change (p := j + 1) (x := (mvN M (fun a h b => mdD (M.1 95 0 0 0) a h b 8)) (j + 1)) hN (by omega) (by omega) hd.2.2.2.2.2.2.2.1 (by omega) (by rw [hnow.2.1]; have := nb (j + 1) (by omega) (by omega); omega) (fun q => g2 ⟨m1, m2, m3, (hd.chg _).mp q⟩)) (fun v103 ad103 Mc103 hc103 => ?_)
            obtain ⟨hv103, hA103, hR103, hS103⟩ := hc103
            subst hv103
            refine g_rm (fun hMc103 => ?_)
            rw [← hA103 10 0 (by decide) (by decide) (by decide), ← hA103 95 0 (by decide) (by decide) (by decide)]
            refine g_ifB_eq (tgt := 112) X dX2_mendByNeighbours_106 rfl rfl (fun h106 => ?_) (fun h106 => ?_)
            · skip
              have hnc : ¬ chgP M1 (j + 1) ((mvN M (fun a h b => mdD (M.1 95 0 0 0) a h b 8)) (j + 1)) := by assumption
              have hnd : ¬ decN M (fun a h b => mdD (M.1 95 0 0 0) a h b 8) (j + 1) := fun q => hnc ((hd.chg _).mpr q.2.2.2)
              have hA2 := hA.tr hA103
              have hd2 : MdR (decN M (fun a h b => mdD (M.1 95 0 0 0) a h b 8)) (mvN M (fun a h b => mdD (M.1 95 0 0 0) a h b 8)) 1 (j + 1 + 1) M Mc103 := by rw [hS103 hnc]; exact hd.no (by omega) hnd
              have ha2 : a = sm (dI (decN M (fun a h b => mdD (M.1 95 0 0 0) a h b 8))) 1 (j + 1 + 1) := by rw [sm_s _ (by omega), show dI (decN M (fun a h b => mdD (M.1 95 0 0 0) a h b 8)) (j + 1) = 0 from bI_f hnd]; omega
              have hcl2' : (cl + gN (decN M (fun a h b => mdD (M.1 95 0 0 0) a h b 8) (j + 1) ∧ (M1.1 13 1 0 0) ≤ (M1.1 12 0 0 0)) mc ≤ mc ∧ sl + gN (decN M (fun a h b => mdD (M.1 95 0 0 0) a h b 8) (j + 1) ∧ (M1.1 13 1 0 0) ≤ (M1.1 12 0 0 0)) ms ≤ ms) ∧ ((Mc103.1 12 0 0 0) ≤ (M.1 13 1 0 0) → cl + gN (decN M (fun a h b => mdD (M.1 95 0 0 0) a h b 8) (j + 1) ∧ (M1.1 13 1 0 0) ≤ (M1.1 12 0 0 0)) mc = 0 ∧ sl + gN (decN M (fun a h b => mdD (M.1 95 0 0 0) a h b 8) (j + 1) ∧ (M1.1 13 1 0 0) ≤ (M1.1 12 0 0 0)) ms = 0) := by
                rw [hS103 hnc, (g3 hnd).1, (g3 hnd).2]
                exact hcl
              refine g_lload X dX2_mendByNeighbours_112 rfl rfl ?_
              refine g_lstore_3 X dX2_mendByNeighbours_114 rfl (lt_kN hNL rfl) rfl ?_
              refine g_iinc_5 X dX2_mendByNeighbours_115 rfl (lt_kN hNL rfl) rfl ?_
              refine g_goto (pc' := 15) X dX2_mendByNeighbours_118 rfl ?_
              refine g_drop_6 ?_
              exact ih15 (j + 1) _ _ _ _ _ (by omega) (by omega) (by omega) hA2 hd2 ha2 hcl2'
            · skip
              have hdec : decN M (fun a h b => mdD (M.1 95 0 0 0) a h b 8) (j + 1) := ⟨m1, m2, m3, (hd.chg _).mp (by assumption)⟩
              refine g_iinc_2 X dX2_mendByNeighbours_109 rfl (lt_kN hNL rfl) rfl ?_
              have hA2 := hA.tr hA103
              have hR2 := hR103 (by assumption)
              have hd2 : MdR (decN M (fun a h b => mdD (M.1 95 0 0 0) a h b 8)) (mvN M (fun a h b => mdD (M.1 95 0 0 0) a h b 8)) 1 (j + 1 + 1) M Mc103 := hd.yes (by omega) hdec hc hR2 g5
              have ha2 : a + 1 = sm (dI (decN M (fun a h b => mdD (M.1 95 0 0 0) a h b 8))) 1 (j + 1 + 1) := by rw [sm_s _ (by omega), show dI (decN M (fun a h b => mdD (M.1 95 0 0 0) a h b 8)) (j + 1) = 1 from bI_t hdec]; omega
              have hcl2' : (cl + gN (decN M (fun a h b => mdD (M.1 95 0 0 0) a h b 8) (j + 1) ∧ (M1.1 13 1 0 0) ≤ (M1.1 12 0 0 0)) mc ≤ mc ∧ sl + gN (decN M (fun a h b => mdD (M.1 95 0 0 0) a h b 8) (j + 1) ∧ (M1.1 13 1 0 0) ≤ (M1.1 12 0 0 0)) ms ≤ ms) ∧ ((Mc103.1 12 0 0 0) ≤ (M.1 13 1 0 0) → cl + gN (decN M (fun a h b => mdD (M.1 95 0 0 0) a h b 8) (j + 1) ∧ (M1.1 13 1 0 0) ≤ (M1.1 12 0 0 0)) mc = 0 ∧ sl + gN (decN M (fun a h b => mdD (M.1 95 0 0 0) a h b 8) (j + 1) ∧ (M1.1 13 1 0 0) ≤ (M1.1 12 0 0 0)) ms = 0) := ⟨g1, fun q => g4 hdec (by have := hR2.2.2.2.2.2.2.2.1; omega)⟩
              refine g_lload X dX2_mendByNeighbours_112 rfl rfl ?_
              refine g_lstore_3 X dX2_mendByNeighbours_114 rfl (lt_kN hNL rfl) rfl ?_
              refine g_iinc_5 X dX2_mendByNeighbours_115 rfl (lt_kN hNL rfl) rfl ?_
              refine g_goto (pc' := 15) X dX2_mendByNeighbours_118 rfl ?_
              refine g_drop_6 ?_
              exact ih15 (j + 1) _ _ _ _ _ (by omega) (by omega) (by omega) hA2 hd2 ha2 hcl2'
  exact lp15 0 0 _ ad 0 0 (by omega) (by omega) (AdG.rf ad) (MdR.rf (by decide) hc) (sm_0 _ (by decide)).symm ⟨⟨Nat.zero_le _, Nat.zero_le _⟩, fun _ => ⟨rfl, rfl⟩⟩
set_option maxRecDepth 100000 in
set_option maxHeartbeats 4000000 in
theorem c_X2_mend96 {δ : Dx} {nm : List (Nat × Int)} {ad : Ad} {M : Mem} {mc ms : Nat} (hN : NmOk nm) (e0 : 0 ≤ (M.1 10 0 0 0) ∧ (M.1 10 0 0 0) ≤ 120) (hc : CapOk M) (cm : (M.1 12 0 0 0) + 120 ≤ 61440) (nb : ∀ k, 0 ≤ k → k < 120 → 0 ≤ (M.1 31 6 k 0) ∧ (M.1 31 6 k 0) ≤ 99000) (hroom : (M.1 13 1 0 0) < (M.1 12 0 0 0) + sm (dI (decN M (fun a h b => mfF (flk a h b) h 8))) 1 (hiN M) → 3 ≤ mc ∧ 6 * (M.1 13 1 0 0) ≤ ms) (hq0 : (96, 0) ∈ nm) : Ct δ md_X2_mendByNeighbours mc ms nm ad M [.ref (ad 10 0), .ref (ad 96 0)] (fun v ad' M' => v = some (.int (iI (sm (dI (decN M (fun a h b => mfF (flk a h b) h 8))) 1 (hiN M)))) ∧ AdG ad ad' ∧ MdR (decN M (fun a h b => mfF (flk a h b) h 8)) (mvN M (fun a h b => mfF (flk a h b) h 8)) 1 (hiN M) M M') := by
  refine Ct_of (ins := .ireturn) (ok := okI) [some (.ref (ad 10 0)), some (.ref (ad 96 0)), none, none, none, none, none, none] (by decide +kernel) rfl (Nat.le_of_ble_eq_true rfl) (fun κ s hs X hr hQ hδ => endI rfl hs X hr hQ hδ) (fun κ X hNL hδ Y => ?_)
  refine g_rm (fun hM => ?_)
  have eh : hiN M = if (M.1 10 0 0 0) ≤ 1 then 1 else (M.1 10 0 0 0) - 1 := rfl
  have hh : ((M.1 10 0 0 0) ≤ 1 ∧ hiN M = 1) ∨ (1 < (M.1 10 0 0 0) ∧ hiN M = (M.1 10 0 0 0) - 1) := by
      rw [eh]
      split <;> omega
  refine g_iconst X dX2_mendByNeighbours_0 rfl ?_
  refine g_istore_2 X dX2_mendByNeighbours_1 rfl (lt_kN hNL rfl) rfl ?_
  refine g_aload_n X dX2_mendByNeighbours_2 rfl rfl ?_
  refine g_get X ci2 (n10 hN) (en10 _ _ _ _) (by decide) fl_X2_17 rfl dX2_mendByNeighbours_3 rfl ?_
  refine g_iconst X dX2_mendByNeighbours_6 rfl ?_
  refine g_rald X (n11 hN) (en11 _ _ _ _) (t0 := 6) rfl (by omega) (by omega) (by decide) dX2_mendByNeighbours_7 rfl ?_
  refine g_get X ci3 (n31 hN (by omega) (by omega)) (en31 _ _ _ _) (by decide) fl_X2_41 rfl dX2_mendByNeighbours_8 rfl ?_
  refine g_lstore_3 X dX2_mendByNeighbours_11 rfl (lt_kN hNL rfl) rfl ?_
  refine g_iconst X dX2_mendByNeighbours_12 rfl ?_
  refine g_istore_5 X dX2_mendByNeighbours_13 rfl (lt_kN hNL rfl) rfl ?_
  have lp15 : ∀ (j : Int) (a : Int) (M1 : Mem) (ad1 : Ad) (cl : Nat) (sl : Nat) (i0 : 0 ≤ j) (i1 : j + 1 ≤ hiN M) (hA : AdG ad ad1) (hd : MdR (decN M (fun a h b => mfF (flk a h b) h 8)) (mvN M (fun a h b => mfF (flk a h b) h 8)) 1 (j + 1) M M1) (ha : a = sm (dI (decN M (fun a h b => mfF (flk a h b) h 8))) 1 (j + 1)) (hcl : (cl ≤ mc ∧ sl ≤ ms) ∧ ((M1.1 12 0 0 0) ≤ (M.1 13 1 0 0) → cl = 0 ∧ sl = 0)), G κ nm ad1 M1 15 [some (.ref (ad1 10 0)), some (.ref (ad1 96 0)), some (.int (iI a)), some (.long (M.2 31 4 j 0)), none, some (.int (iI (j + 1))), none, none] [] cl sl := by
    refine ind6 (fun j a M1 ad1 cl sl => (120 - j).toNat) ?_
    intro j a M1 ad1 cl sl ih15 i0 i1 hA hd ha hcl
    refine g_rm (fun hM15 => ?_)
    obtain ⟨hcl1, hcl2⟩ := hcl.1
    have sb := sm_b1 (f := dI (decN M (fun a h b => mfF (flk a h b) h 8))) (lo := 1) (hi := j + 1) (by omega) (fun k _ _ => bI_b _)
    have hnow := hd.2.2.2.2.1 (j + 1) (fun q => by omega)
    have hnow2 := hd.2.2.2.2.1 (j + 1 + 1) (fun q => by omega)
    have hcc := hd.2.2.2.2.2.1
    have hq := hc.2.2.1
    have eec := hd.1.i 10 0 0 0 rfl
    refine g_iload X dX2_mendByNeighbours_15 rfl rfl ?_
    refine g_aload_n X dX2_mendByNeighbours_17 rfl rfl ?_
    refine g_getI X ci2 (n10 hN) (en10 _ _ _ _) (by decide) fl_X2_29 rfl dX2_mendByNeighbours_18 rfl (fun r18 => ?_)
    refine g_iconst X dX2_mendByNeighbours_21 rfl ?_
    refine g_isub X dX2_mendByNeighbours_22 rfl ?_
    refine g_icmp_ge (tgt := 121) X dX2_mendByNeighbours_23 rfl rfl (by omega) (by omega) (fun h23 => ?_) (fun h23 => ?_)
    · skip
      refine g_iload_n X dX2_mendByNeighbours_121 rfl rfl ?_
      refine g_widen (cl' := mc) (sl' := ms) hcl1 hcl2 ?_
      have ei : j + 1 = hiN M := by omega
      rw [ei] at ha hd
      exact g_ret Y dX2_mendByNeighbours_122 ⟨_, rfl⟩ ⟨by rw [ha], hA, hd⟩
    · skip
      obtain ⟨g1, g2, g3, g4, g5⟩ := room_step (mc := mc) (ms := ms) hd hc (show 1 ≤ j + 1 by omega) (show j + 1 < hiN M by omega) (by omega) hroom hcl
      refine g_aload_n X dX2_mendByNeighbours_26 rfl rfl ?_
      refine g_get X ci2 (n10 hN) (en10 _ _ _ _) (by decide) fl_X2_17 rfl dX2_mendByNeighbours_27 rfl ?_
      refine g_iload X dX2_mendByNeighbours_30 rfl rfl ?_
      refine g_rald X (n11 hN) (en11 _ _ _ _) (t0 := 6) rfl (by omega) (by omega) (by decide) dX2_mendByNeighbours_32 rfl ?_
      refine g_get X ci3 (n31 hN (by omega) (by omega)) (en31 _ _ _ _) (by decide) fl_X2_41 rfl dX2_mendByNeighbours_33 rfl ?_
      refine g_lng (b := (M.2 31 4 (j + 1) 0)) hnow.1 ?_
      refine g_lstore_6 X dX2_mendByNeighbours_36 rfl (lt_kN hNL rfl) rfl ?_
      refine g_aload_n X dX2_mendByNeighbours_38 rfl rfl ?_
      refine g_get X ci2 (n10 hN) (en10 _ _ _ _) (by decide) fl_X2_17 rfl dX2_mendByNeighbours_39 rfl ?_
      refine g_iload X dX2_mendByNeighbours_42 rfl rfl ?_
      refine g_iconst X dX2_mendByNeighbours_44 rfl ?_
      refine g_isub X dX2_mendByNeighbours_45 rfl ?_
      refine g_rald X (n11 hN) (en11 _ _ _ _) (t0 := 6) rfl (by omega) (by omega) (by decide) dX2_mendByNeighbours_46 rfl ?_
      refine g_iV0_v X w_X3_mayBeMended ml_X2_45 dX2_mendByNeighbours_47 rfl (n31 hN (by omega) (by omega)) (en31 _ _ _ _) ⟨⟨Nat.le_of_ble_eq_true rfl, Nat.le_of_ble_eq_true rfl⟩, by show _ + 0 ≤ mc; omega, by show _ + 0 ≤ ms; omega⟩ (Nat.le_of_ble_eq_true rfl) (c_X3_mayBeMended hN (by omega) (by omega)) ?_
      refine g_ifB_eq (tgt := 112) X dX2_mendByNeighbours_50 rfl rfl (fun h50 => ?_) (fun h50 => ?_)
      · skip
        have hnd : ¬ decN M (fun a h b => mfF (flk a h b) h 8) (j + 1) := fun q => absurd ((hd.mb _).mpr (q.1)) (by assumption)
        have hA2 := hA
        have hd2 := hd.no (by omega) hnd
        have ha2 : a = sm (dI (decN M (fun a h b => mfF (flk a h b) h 8))) 1 (j + 1 + 1) := by rw [sm_s _ (by omega), show dI (decN M (fun a h b => mfF (flk a h b) h 8)) (j + 1) = 0 from bI_f hnd]; omega
        have hcl2' := hcl
        refine g_lload X dX2_mendByNeighbours_112 rfl rfl ?_
        refine g_lstore_3 X dX2_mendByNeighbours_114 rfl (lt_kN hNL rfl) rfl ?_
        refine g_iinc_5 X dX2_mendByNeighbours_115 rfl (lt_kN hNL rfl) rfl ?_
        refine g_goto (pc' := 15) X dX2_mendByNeighbours_118 rfl ?_
        refine g_drop_6 ?_
        exact ih15 (j + 1) _ _ _ _ _ (by omega) (by omega) (by omega) hA2 hd2 ha2 hcl2'
      · skip
        refine g_aload_n X dX2_mendByNeighbours_53 rfl rfl ?_
        refine g_get X ci2 (n10 hN) (en10 _ _ _ _) (by decide) fl_X2_17 rfl dX2_mendByNeighbours_54 rfl ?_
        refine g_iload X dX2_mendByNeighbours_57 rfl rfl ?_
        refine g_rald X (n11 hN) (en11 _ _ _ _) (t0 := 6) rfl (by omega) (by omega) (by decide) dX2_mendByNeighbours_59 rfl ?_
        refine g_iV0_v X w_X3_mayBeMended ml_X2_45 dX2_mendByNeighbours_60 rfl (n31 hN (by omega) (by omega)) (en31 _ _ _ _) ⟨⟨Nat.le_of_ble_eq_true rfl, Nat.le_of_ble_eq_true rfl⟩, by show _ + 0 ≤ mc; omega, by show _ + 0 ≤ ms; omega⟩ (Nat.le_of_ble_eq_true rfl) (c_X3_mayBeMended hN (by omega) (by omega)) ?_
        refine g_ifB_eq (tgt := 112) X dX2_mendByNeighbours_63 rfl rfl (fun h63 => ?_) (fun h63 => ?_)
        · skip
          have hnd : ¬ decN M (fun a h b => mfF (flk a h b) h 8) (j + 1) := fun q => absurd ((hd.mb _).mpr (q.2.1)) (by assumption)
          have hA2 := hA
          have hd2 := hd.no (by omega) hnd
          have ha2 : a = sm (dI (decN M (fun a h b => mfF (flk a h b) h 8))) 1 (j + 1 + 1) := by rw [sm_s _ (by omega), show dI (decN M (fun a h b => mfF (flk a h b) h 8)) (j + 1) = 0 from bI_f hnd]; omega
          have hcl2' := hcl
          refine g_lload X dX2_mendByNeighbours_112 rfl rfl ?_
          refine g_lstore_3 X dX2_mendByNeighbours_114 rfl (lt_kN hNL rfl) rfl ?_
          refine g_iinc_5 X dX2_mendByNeighbours_115 rfl (lt_kN hNL rfl) rfl ?_
          refine g_goto (pc' := 15) X dX2_mendByNeighbours_118 rfl ?_
          refine g_drop_6 ?_
          exact ih15 (j + 1) _ _ _ _ _ (by omega) (by omega) (by omega) hA2 hd2 ha2 hcl2'
        · skip
          refine g_aload_n X dX2_mendByNeighbours_66 rfl rfl ?_
          refine g_get X ci2 (n10 hN) (en10 _ _ _ _) (by decide) fl_X2_17 rfl dX2_mendByNeighbours_67 rfl ?_
          refine g_iload X dX2_mendByNeighbours_70 rfl rfl ?_
          refine g_iconst X dX2_mendByNeighbours_72 rfl ?_
          refine g_iadd X dX2_mendByNeighbours_73 rfl ?_
          refine g_rald X (n11 hN) (en11 _ _ _ _) (t0 := 6) rfl (by omega) (by omega) (by decide) dX2_mendByNeighbours_74 rfl ?_
          refine g_iV0_v X w_X3_mayBeMended ml_X2_45 dX2_mendByNeighbours_75 rfl (n31 hN (by omega) (by omega)) (en31 _ _ _ _) ⟨⟨Nat.le_of_ble_eq_true rfl, Nat.le_of_ble_eq_true rfl⟩, by show _ + 0 ≤ mc; omega, by show _ + 0 ≤ ms; omega⟩ (Nat.le_of_ble_eq_true rfl) (c_X3_mayBeMended hN (by omega) (by omega)) ?_
          refine g_ifB_eq (tgt := 112) X dX2_mendByNeighbours_78 rfl rfl (fun h78 => ?_) (fun h78 => ?_)
          · skip
            have hnd : ¬ decN M (fun a h b => mfF (flk a h b) h 8) (j + 1) := fun q => absurd ((hd.mb _).mpr (q.2.2.1)) (by assumption)
            have hA2 := hA
            have hd2 := hd.no (by omega) hnd
            have ha2 : a = sm (dI (decN M (fun a h b => mfF (flk a h b) h 8))) 1 (j + 1 + 1) := by rw [sm_s _ (by omega), show dI (decN M (fun a h b => mfF (flk a h b) h 8)) (j + 1) = 0 from bI_f hnd]; omega
            have hcl2' := hcl
            refine g_lload X dX2_mendByNeighbours_112 rfl rfl ?_
            refine g_lstore_3 X dX2_mendByNeighbours_114 rfl (lt_kN hNL rfl) rfl ?_
            refine g_iinc_5 X dX2_mendByNeighbours_115 rfl (lt_kN hNL rfl) rfl ?_
            refine g_goto (pc' := 15) X dX2_mendByNeighbours_118 rfl ?_
            refine g_drop_6 ?_
            exact ih15 (j + 1) _ _ _ _ _ (by omega) (by omega) (by omega) hA2 hd2 ha2 hcl2'
          · skip
            have m1 : mayB M (j + 1 - 1) := (hd.mb _).mp (by assumption)
            have m2 : mayB M (j + 1) := (hd.mb _).mp (by assumption)
            have m3 : mayB M (j + 1 + 1) := (hd.mb _).mp (by assumption)
            refine g_aload_n X dX2_mendByNeighbours_81 rfl rfl ?_
            refine g_iload X dX2_mendByNeighbours_82 rfl rfl ?_
            refine g_aload_n X dX2_mendByNeighbours_84 rfl rfl ?_
            refine g_lload_n X dX2_mendByNeighbours_85 rfl rfl ?_
            refine g_lload X dX2_mendByNeighbours_86 rfl rfl ?_
            refine g_aload_n X dX2_mendByNeighbours_88 rfl rfl ?_
            refine g_get X ci2 (n10 hN) (en10 _ _ _ _) (by decide) fl_X2_17 rfl dX2_mendByNeighbours_89 rfl ?_
            refine g_iload X dX2_mendByNeighbours_92 rfl rfl ?_
            refine g_iconst X dX2_mendByNeighbours_94 rfl ?_
            refine g_iadd X dX2_mendByNeighbours_95 rfl ?_
            refine g_rald X (n11 hN) (en11 _ _ _ _) (t0 := 6) rfl (by omega) (by omega) (by decide) dX2_mendByNeighbours_96 rfl ?_
            refine g_get X ci3 (n31 hN (by omega) (by omega)) (en31 _ _ _ _) (by decide) fl_X2_41 rfl dX2_mendByNeighbours_97 rfl ?_
            refine g_lng (b := (M.2 31 4 (j + 1 + 1) 0)) hnow2.1 ?_
            refine g_mendV X sel_X4_mended in_X4_mended ini_X4 co_X4_mended rfl dX2_mendByNeighbours_100 rfl hq0 (en96 _ _ _ _) ⟨⟨Nat.le_of_ble_eq_true rfl, Nat.le_of_ble_eq_true rfl⟩, by show _ + 0 ≤ mc; omega, by show _ + 0 ≤ ms; omega⟩ (Nat.le_of_ble_eq_true rfl) (c_X4_mended hN) ?_
            refine g_lng (b := (mvN M (fun a h b => mfF (flk a h b) h 8)) (j + 1)) (by show mfF (flk _ _ _) _ _ = mfF (flk _ _ _) _ _; rw [show j + 1 - 1 = j by omega]) ?_
            refine g_iV2 (mc := gN (decN M (fun a h b => mfF (flk a h b) h 8) (j + 1) ∧ (M1.1 13 1 0 0) ≤ (M1.1 12 0 0 0)) mc) (ms := gN (decN M (fun a h b => mfF (flk a h b) h 8) (j + 1) ∧ (M1.1 13 1 0 0) ≤ (M1.1 12 0 0 0)) ms) X w_X2_change ml_X2_54 dX2_mendByNeighbours_103 rfl (n10 hN) (en10 _ _ _ _) ⟨⟨Nat.le_of_ble_eq_true rfl, Nat.le_of_ble_eq_true rfl⟩, g1.1, g1.2⟩ (Nat.le_of_ble_eq_true rfl) (c_X2_change (p := j + 1) (x := (mvN M (fun a h b => mfF (flk a h b) h 8)) (j + 1)) hN (by omega) (by omega) hd.2.2.2.2.2.2.2.1 (by omega) (by rw [hnow.2.1]; have := nb (j + 1) (by omega) (by omega); omega) (fun q => g2 ⟨m1, m2, m3, (hd.chg _).mp q⟩)) (fun v103 ad103 Mc103 hc103 => ?_)
            obtain ⟨hv103, hA103, hR103, hS103⟩ := hc103
            subst hv103
            refine g_rm (fun hMc103 => ?_)
            rw [← hA103 10 0 (by decide) (by decide) (by decide), ← hA103 96 0 (by decide) (by decide) (by decide)]
            refine g_ifB_eq (tgt := 112) X dX2_mendByNeighbours_106 rfl rfl (fun h106 => ?_) (fun h106 => ?_)
            · skip
              have hnc : ¬ chgP M1 (j + 1) ((mvN M (fun a h b => mfF (flk a h b) h 8)) (j + 1)) := by assumption
              have hnd : ¬ decN M (fun a h b => mfF (flk a h b) h 8) (j + 1) := fun q => hnc ((hd.chg _).mpr q.2.2.2)
              have hA2 := hA.tr hA103
              have hd2 : MdR (decN M (fun a h b => mfF (flk a h b) h 8)) (mvN M (fun a h b => mfF (flk a h b) h 8)) 1 (j + 1 + 1) M Mc103 := by rw [hS103 hnc]; exact hd.no (by omega) hnd
              have ha2 : a = sm (dI (decN M (fun a h b => mfF (flk a h b) h 8))) 1 (j + 1 + 1) := by rw [sm_s _ (by omega), show dI (decN M (fun a h b => mfF (flk a h b) h 8)) (j + 1) = 0 from bI_f hnd]; omega
              have hcl2' : (cl + gN (decN M (fun a h b => mfF (flk a h b) h 8) (j + 1) ∧ (M1.1 13 1 0 0) ≤ (M1.1 12 0 0 0)) mc ≤ mc ∧ sl + gN (decN M (fun a h b => mfF (flk a h b) h 8) (j + 1) ∧ (M1.1 13 1 0 0) ≤ (M1.1 12 0 0 0)) ms ≤ ms) ∧ ((Mc103.1 12 0 0 0) ≤ (M.1 13 1 0 0) → cl + gN (decN M (fun a h b => mfF (flk a h b) h 8) (j + 1) ∧ (M1.1 13 1 0 0) ≤ (M1.1 12 0 0 0)) mc = 0 ∧ sl + gN (decN M (fun a h b => mfF (flk a h b) h 8) (j + 1) ∧ (M1.1 13 1 0 0) ≤ (M1.1 12 0 0 0)) ms = 0) := by
                rw [hS103 hnc, (g3 hnd).1, (g3 hnd).2]
                exact hcl
              refine g_lload X dX2_mendByNeighbours_112 rfl rfl ?_
              refine g_lstore_3 X dX2_mendByNeighbours_114 rfl (lt_kN hNL rfl) rfl ?_
              refine g_iinc_5 X dX2_mendByNeighbours_115 rfl (lt_kN hNL rfl) rfl ?_
              refine g_goto (pc' := 15) X dX2_mendByNeighbours_118 rfl ?_
              refine g_drop_6 ?_
              exact ih15 (j + 1) _ _ _ _ _ (by omega) (by omega) (by omega) hA2 hd2 ha2 hcl2'
            · skip
              have hdec : decN M (fun a h b => mfF (flk a h b) h 8) (j + 1) := ⟨m1, m2, m3, (hd.chg _).mp (by assumption)⟩
              refine g_iinc_2 X dX2_mendByNeighbours_109 rfl (lt_kN hNL rfl) rfl ?_
              have hA2 := hA.tr hA103
              have hR2 := hR103 (by assumption)
              have hd2 : MdR (decN M (fun a h b => mfF (flk a h b) h 8)) (mvN M (fun a h b => mfF (flk a h b) h 8)) 1 (j + 1 + 1) M Mc103 := hd.yes (by omega) hdec hc hR2 g5
              have ha2 : a + 1 = sm (dI (decN M (fun a h b => mfF (flk a h b) h 8))) 1 (j + 1 + 1) := by rw [sm_s _ (by omega), show dI (decN M (fun a h b => mfF (flk a h b) h 8)) (j + 1) = 1 from bI_t hdec]; omega
              have hcl2' : (cl + gN (decN M (fun a h b => mfF (flk a h b) h 8) (j + 1) ∧ (M1.1 13 1 0 0) ≤ (M1.1 12 0 0 0)) mc ≤ mc ∧ sl + gN (decN M (fun a h b => mfF (flk a h b) h 8) (j + 1) ∧ (M1.1 13 1 0 0) ≤ (M1.1 12 0 0 0)) ms ≤ ms) ∧ ((Mc103.1 12 0 0 0) ≤ (M.1 13 1 0 0) → cl + gN (decN M (fun a h b => mfF (flk a h b) h 8) (j + 1) ∧ (M1.1 13 1 0 0) ≤ (M1.1 12 0 0 0)) mc = 0 ∧ sl + gN (decN M (fun a h b => mfF (flk a h b) h 8) (j + 1) ∧ (M1.1 13 1 0 0) ≤ (M1.1 12 0 0 0)) ms = 0) := ⟨g1, fun q => g4 hdec (by have := hR2.2.2.2.2.2.2.2.1; omega)⟩
              refine g_lload X dX2_mendByNeighbours_112 rfl rfl ?_
              refine g_lstore_3 X dX2_mendByNeighbours_114 rfl (lt_kN hNL rfl) rfl ?_
              refine g_iinc_5 X dX2_mendByNeighbours_115 rfl (lt_kN hNL rfl) rfl ?_
              refine g_goto (pc' := 15) X dX2_mendByNeighbours_118 rfl ?_
              refine g_drop_6 ?_
              exact ih15 (j + 1) _ _ _ _ _ (by omega) (by omega) (by omega) hA2 hd2 ha2 hcl2'
  exact lp15 0 0 _ ad 0 0 (by omega) (by omega) (AdG.rf ad) (MdR.rf (by decide) hc) (sm_0 _ (by decide)).symm ⟨⟨Nat.zero_le _, Nat.zero_le _⟩, fun _ => ⟨rfl, rfl⟩⟩
