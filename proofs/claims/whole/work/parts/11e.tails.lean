theorem ik_eq {k j : Int} (rk : rng k) (rj : rng j) (h : (some (.int (iI k)) : Option Value) = some (.int (iI j))) : k = j := by
  have h2 : iI k = iI j := by
    have := Option.some.inj h
    injection this
  exact (iI_eq rk rj).mp h2
theorem iv_eq {x y : Int32} (h : (some (.int x) : Option Value) = some (.int y)) : x = y := by
  have := Option.some.inj h
  injection this
theorem lv_eq {x y : Int64} (h : (some (.long x) : Option Value) = some (.long y)) : x = y := by
  have := Option.some.inj h
  injection this
theorem fv_eq {x y : UInt32} (h : (some (.float x) : Option Value) = some (.float y)) : x = y := by
  have := Option.some.inj h
  injection this
theorem es1 {A E : String} {j : Nat} (h : ([A] : List String)[j]? = some E) : j = 0 ∧ E = A := by
  match j, h with
  | 0, h => exact ⟨rfl, (Option.some.inj h).symm⟩
  | j + 1, h => simp at h
theorem es2 {A B E : String} {j : Nat} (h : ([A, B] : List String)[j]? = some E) : (j = 0 ∧ E = A) ∨ (j = 1 ∧ E = B) := by
  match j, h with
  | 0, h => exact Or.inl ⟨rfl, (Option.some.inj h).symm⟩
  | 1, h => exact Or.inr ⟨rfl, (Option.some.inj h).symm⟩
  | j + 2, h => simp at h
theorem es3 {A B C E : String} {j : Nat} (h : ([A, B, C] : List String)[j]? = some E) : (j = 0 ∧ E = A) ∨ (j = 1 ∧ E = B) ∨ (j = 2 ∧ E = C) := by
  match j, h with
  | 0, h => exact Or.inl ⟨rfl, (Option.some.inj h).symm⟩
  | 1, h => exact Or.inr (Or.inl ⟨rfl, (Option.some.inj h).symm⟩)
  | 2, h => exact Or.inr (Or.inr ⟨rfl, (Option.some.inj h).symm⟩)
  | j + 3, h => simp at h
theorem wrI_ag (x : Value) (M : Mem) : Ag (cM [90, 91] []) M (wrI x M) := by unfold wrI; exact (Ag.rf M).setL rfl
theorem wrZ_ag (x : Value) (M : Mem) : Ag (cM [90, 91] []) M (wrZ x M) := by unfold wrZ; exact (Ag.rf M).setL rfl
theorem wrD_ag (x : Value) (M : Mem) : Ag (cM [90, 91] []) M (wrD x M) := by unfold wrD; exact (Ag.rf M).setL rfl
theorem wrI_i (i : Int32) (M : Mem) : (wrI (.int i) M).2 90 0 0 0 = i.toInt64 := by simp [wrI, setL_2]
theorem wrI_l (i : Int64) (M : Mem) : (wrI (.long i) M).2 90 0 0 0 = i := by simp [wrI, setL_2]
theorem wrZ_i (i : Int32) (M : Mem) : (wrZ (.int i) M).2 90 0 0 0 = (if i = iI 0 then 0 else 1) := by simp [wrZ, setL_2]
theorem wrD_f (i : UInt32) (M : Mem) : (wrD (.float i) M).2 91 0 0 0 = (FP.f2d i).toInt64 := by simp [wrD, setL_2]
theorem cM9_kMo {C M : Mem} (h : Ag (cM [90, 91] []) C M) : Ag kMo C M := h.mono (fun k f q => cM_t (by
  have := kMo_e q
  simp only [List.mem_cons, List.not_mem_nil, or_false]
  omega) (by simp))
/-- the room of a mending: b, and where G, that of longer rows -/
def MsOk (b : Int) (G : Prop) (cap : Int) (ms : Nat) : Prop := (G → (ms : Int) = b + 6 * cap) ∧ (¬ G → (ms : Int) = b)
theorem MsOk.ex {b cap : Int} (hb : 0 ≤ b) (hc : 0 ≤ cap) (G : Prop) : ∃ ms : Nat, MsOk b G cap ms := by
  by_cases g : G
  · exact ⟨(b + 6 * cap).toNat, fun _ => by omega, fun q => absurd g q⟩
  · exact ⟨b.toNat, fun q => absurd q g, fun _ => by omega⟩
theorem MsOk.le {b cap : Int} {G : Prop} {ms : Nat} (h : MsOk b G cap ms) (hc : 0 ≤ cap ∧ cap ≤ 61440) : b ≤ (ms : Int) ∧ (ms : Int) ≤ b + 368640 := by
  by_cases g : G
  · have := h.1 g; omega
  · have := h.2 g; omega
/-- the loop goes on behind the n-th call -/
def Goon (κ : Kx) (nm : List (Nat × Int)) (b : Nat) (n : Int) : Prop := ∀ (ad : Ad) (M : Mem) (cl sl : Nat), Inv (n + 1) M M → cl ≤ 2000 + 8 * (n + 1).toNat → sl ≤ 900000 + 32 * (n + 1).toNat + 6 * ((M.1 13 1 0 0)).toNat → G κ nm ad M 2397 [some (.ref b), some (.ref (ad 0 0)), some (.ref (ad 40 0)), some (.ref (ad 90 0)), some (.ref (ad 91 0)), some (.int (iI (6 * n))), none, none, none] [] cl sl
/-- a call that was refused by both: nothing is changed but the number -/
theorem Inv.refused {n z : Int} {M : Mem} (h : Inv n M M) : Inv (n + 1) (setI M 40 46 0 0 z) (setI M 40 46 0 0 z) := (h.up.th (z := z)).ag ((Ag.rf M).setI rfl) (Ag.rf _)
theorem ref_46 {M : Mem} {z : Int} : (setI M 40 46 0 0 z).1 40 46 0 0 = z := by simp [setI_1]
theorem ref_cap {M : Mem} {z : Int} : (setI M 40 46 0 0 z).1 13 1 0 0 = M.1 13 1 0 0 := by simp [setI_1]
section TL
variable {κ : Kx} {nm : List (Nat × Int)} {ad : Ad} {M : Mem} {b p : Nat} {q k : Int} {cl sl : Nat}
theorem g_tailI (X : Cx κ cL_law RL room_1) (hNL : kN κ = 9) (hN : NmOk nm) {z : Int} (hc1 : cl ≤ 601024) (hc2 : sl ≤ 7293034) (d0 : decode cL_law p = .ok (.aload_n 2, 1)) (d1 : decode cL_law (p + 1) = .ok (.invokevirtual 123, 3)) (d4 : decode cL_law (p + 4) = .ok (.iload 6, 2)) (d6 : decode cL_law (p + 6) = .ok (.if_icmp .eq 5, 3)) (d11 : decode cL_law (p + 11) = .ok (.iload 6, 2)) (d13 : decode cL_law (p + 13) = .ok (.ifCond .ne 15, 3)) (d16 : decode cL_law (p + 16) = .ok (.aload_n 3, 1)) (d17 : decode cL_law (p + 17) = .ok (.iconst 0, 1)) (d18 : decode cL_law (p + 18) = .ok (.laload, 1)) (d19 : decode cL_law (p + 19) = .ok (.iload 7, 2)) (d21 : decode cL_law (p + 21) = .ok (.i2l, 1)) (d22 : decode cL_law (p + 22) = .ok (.lcmp, 1)) (d23 : decode cL_law (p + 23) = .ok (.ifCond .eq 5, 3)) {off : Int} (dE : decode cL_law (p + 28) = .ok (.goto off, 3)) (eE : ((p + 28 : Nat) : Int) + off = ((2397 : Nat) : Int)) (rk : rng k) (ew : (M.1 40 46 0 0) = k) (eo : k = 0 → M.2 90 0 0 0 = (iI z).toInt64) (kk : G κ nm ad M 2397 [some (.ref b), some (.ref (ad 0 0)), some (.ref (ad 40 0)), some (.ref (ad 90 0)), some (.ref (ad 91 0)), some (.int (iI q)), none, none, none] [] cl sl) : G κ nm ad M p [some (.ref b), some (.ref (ad 0 0)), some (.ref (ad 40 0)), some (.ref (ad 90 0)), some (.ref (ad 91 0)), some (.int (iI q)), some (.int (iI k)), some (.int (iI z)), none] [] cl sl := by
  refine g_rm (fun hM => ?_)
  have fin : G κ nm ad M (p + 28) [some (.ref b), some (.ref (ad 0 0)), some (.ref (ad 40 0)), some (.ref (ad 90 0)), some (.ref (ad 91 0)), some (.int (iI q)), some (.int (iI k)), some (.int (iI z)), none] [] cl sl := by
    refine g_goto (pc' := 2397) X dE eE ?_
    refine g_drop_6 ?_
    refine g_drop_7 ?_
    exact kk
  refine g_aload_n X d0 rfl rfl ?_
  refine g_iV0_v X w_X12_thrown ml_L_123 d1 rfl (n40 hN) (en40 _ _ _ _) ⟨⟨Nat.le_of_ble_eq_true rfl, Nat.le_of_ble_eq_true rfl⟩, hc1, hc2⟩ (Nat.le_of_ble_eq_true rfl) (c_X12_thrown hN) ?_
  refine g_iload X d4 rfl rfl ?_
  refine g_icmp_eq (tgt := p + 11) X d6 (by omega) rfl (hM 40 46 0 0) rk (fun _ => ?_) (fun h => absurd ew h)
  refine g_iload X d11 rfl rfl ?_
  refine g_if_ne (tgt := p + 28) X d13 (by omega) rfl rk (fun _ => fin) (fun hk => ?_)
  refine g_aload_n X d16 rfl rfl ?_
  refine g_iconst X d17 rfl ?_
  refine g_lald X d18 rfl (n90 hN) (en90 _ _ _ _) (t0 := 1) rfl (by omega) (by omega) (by decide) ?_
  refine g_iload X d19 rfl rfl ?_
  refine g_i2l X d21 rfl ?_
  refine g_lcmp X d22 rfl ?_
  exact g_ifL_eq (tgt := p + 28) X d23 (by omega) rfl (fun _ => fin) (fun h => absurd (eo hk) h)
theorem g_tailJ (X : Cx κ cL_law RL room_1) (hNL : kN κ = 9) (hN : NmOk nm) {z : Int64} (hc1 : cl ≤ 601024) (hc2 : sl ≤ 7293034) (d0 : decode cL_law p = .ok (.aload_n 2, 1)) (d1 : decode cL_law (p + 1) = .ok (.invokevirtual 123, 3)) (d4 : decode cL_law (p + 4) = .ok (.iload 6, 2)) (d6 : decode cL_law (p + 6) = .ok (.if_icmp .eq 5, 3)) (d11 : decode cL_law (p + 11) = .ok (.iload 6, 2)) (d13 : decode cL_law (p + 13) = .ok (.ifCond .ne 14, 3)) (d16 : decode cL_law (p + 16) = .ok (.aload_n 3, 1)) (d17 : decode cL_law (p + 17) = .ok (.iconst 0, 1)) (d18 : decode cL_law (p + 18) = .ok (.laload, 1)) (d19 : decode cL_law (p + 19) = .ok (.lload 7, 2)) (d21 : decode cL_law (p + 21) = .ok (.lcmp, 1)) (d22 : decode cL_law (p + 22) = .ok (.ifCond .eq 5, 3)) {off : Int} (dE : decode cL_law (p + 27) = .ok (.goto off, 3)) (eE : ((p + 27 : Nat) : Int) + off = ((2397 : Nat) : Int)) (rk : rng k) (ew : (M.1 40 46 0 0) = k) (eo : k = 0 → M.2 90 0 0 0 = z) (kk : G κ nm ad M 2397 [some (.ref b), some (.ref (ad 0 0)), some (.ref (ad 40 0)), some (.ref (ad 90 0)), some (.ref (ad 91 0)), some (.int (iI q)), none, none, none] [] cl sl) : G κ nm ad M p [some (.ref b), some (.ref (ad 0 0)), some (.ref (ad 40 0)), some (.ref (ad 90 0)), some (.ref (ad 91 0)), some (.int (iI q)), some (.int (iI k)), some (.long z), none] [] cl sl := by
  refine g_rm (fun hM => ?_)
  have fin : G κ nm ad M (p + 27) [some (.ref b), some (.ref (ad 0 0)), some (.ref (ad 40 0)), some (.ref (ad 90 0)), some (.ref (ad 91 0)), some (.int (iI q)), some (.int (iI k)), some (.long z), none] [] cl sl := by
    refine g_goto (pc' := 2397) X dE eE ?_
    refine g_drop_6 ?_
    refine g_drop_7 ?_
    exact kk
  refine g_aload_n X d0 rfl rfl ?_
  refine g_iV0_v X w_X12_thrown ml_L_123 d1 rfl (n40 hN) (en40 _ _ _ _) ⟨⟨Nat.le_of_ble_eq_true rfl, Nat.le_of_ble_eq_true rfl⟩, hc1, hc2⟩ (Nat.le_of_ble_eq_true rfl) (c_X12_thrown hN) ?_
  refine g_iload X d4 rfl rfl ?_
  refine g_icmp_eq (tgt := p + 11) X d6 (by omega) rfl (hM 40 46 0 0) rk (fun _ => ?_) (fun h => absurd ew h)
  refine g_iload X d11 rfl rfl ?_
  refine g_if_ne (tgt := p + 27) X d13 (by omega) rfl rk (fun _ => fin) (fun hk => ?_)
  refine g_aload_n X d16 rfl rfl ?_
  refine g_iconst X d17 rfl ?_
  refine g_lald X d18 rfl (n90 hN) (en90 _ _ _ _) (t0 := 1) rfl (by omega) (by omega) (by decide) ?_
  refine g_lload X d19 rfl rfl ?_
  refine g_lcmp X d21 rfl ?_
  exact g_ifL_eq (tgt := p + 27) X d22 (by omega) rfl (fun _ => fin) (fun h => absurd (eo hk) h)
theorem g_tailZ (X : Cx κ cL_law RL room_1) (hNL : kN κ = 9) (hN : NmOk nm) {z : Int} (hc1 : cl ≤ 601024) (hc2 : sl ≤ 7293034) (d0 : decode cL_law p = .ok (.aload_n 2, 1)) (d1 : decode cL_law (p + 1) = .ok (.invokevirtual 123, 3)) (d4 : decode cL_law (p + 4) = .ok (.iload 6, 2)) (d6 : decode cL_law (p + 6) = .ok (.if_icmp .eq 5, 3)) (d11 : decode cL_law (p + 11) = .ok (.iload 6, 2)) (d13 : decode cL_law (p + 13) = .ok (.ifCond .ne 22, 3)) (d16 : decode cL_law (p + 16) = .ok (.aload_n 3, 1)) (d17 : decode cL_law (p + 17) = .ok (.iconst 0, 1)) (d18 : decode cL_law (p + 18) = .ok (.laload, 1)) (d19 : decode cL_law (p + 19) = .ok (.iload 7, 2)) (d21 : decode cL_law (p + 21) = .ok (.ifCond .eq 7, 3)) (d24 : decode cL_law (p + 24) = .ok (.lconst 1, 1)) (d25 : decode cL_law (p + 25) = .ok (.goto 4, 3)) (d28 : decode cL_law (p + 28) = .ok (.lconst 0, 1)) (d29 : decode cL_law (p + 29) = .ok (.lcmp, 1)) (d30 : decode cL_law (p + 30) = .ok (.ifCond .eq 5, 3)) {off : Int} (dE : decode cL_law (p + 35) = .ok (.goto off, 3)) (eE : ((p + 35 : Nat) : Int) + off = ((2397 : Nat) : Int)) (rk : rng k) (ew : (M.1 40 46 0 0) = k) (rz : rng z) (eo : k = 0 → M.2 90 0 0 0 = (if iI z = iI 0 then 0 else 1)) (kk : G κ nm ad M 2397 [some (.ref b), some (.ref (ad 0 0)), some (.ref (ad 40 0)), some (.ref (ad 90 0)), some (.ref (ad 91 0)), some (.int (iI q)), none, none, none] [] cl sl) : G κ nm ad M p [some (.ref b), some (.ref (ad 0 0)), some (.ref (ad 40 0)), some (.ref (ad 90 0)), some (.ref (ad 91 0)), some (.int (iI q)), some (.int (iI k)), some (.int (iI z)), none] [] cl sl := by
  refine g_rm (fun hM => ?_)
  have fin : G κ nm ad M (p + 35) [some (.ref b), some (.ref (ad 0 0)), some (.ref (ad 40 0)), some (.ref (ad 90 0)), some (.ref (ad 91 0)), some (.int (iI q)), some (.int (iI k)), some (.int (iI z)), none] [] cl sl := by
    refine g_goto (pc' := 2397) X dE eE ?_
    refine g_drop_6 ?_
    refine g_drop_7 ?_
    exact kk
  refine g_aload_n X d0 rfl rfl ?_
  refine g_iV0_v X w_X12_thrown ml_L_123 d1 rfl (n40 hN) (en40 _ _ _ _) ⟨⟨Nat.le_of_ble_eq_true rfl, Nat.le_of_ble_eq_true rfl⟩, hc1, hc2⟩ (Nat.le_of_ble_eq_true rfl) (c_X12_thrown hN) ?_
  refine g_iload X d4 rfl rfl ?_
  refine g_icmp_eq (tgt := p + 11) X d6 (by omega) rfl (hM 40 46 0 0) rk (fun _ => ?_) (fun h => absurd ew h)
  refine g_iload X d11 rfl rfl ?_
  refine g_if_ne (tgt := p + 35) X d13 (by omega) rfl rk (fun _ => fin) (fun hk => ?_)
  refine g_aload_n X d16 rfl rfl ?_
  refine g_iconst X d17 rfl ?_
  refine g_lald X d18 rfl (n90 hN) (en90 _ _ _ _) (t0 := 1) rfl (by omega) (by omega) (by decide) ?_
  refine g_iload X d19 rfl rfl ?_
  refine g_if_eq (tgt := p + 28) X d21 (by omega) rfl rz (fun h => ?_) (fun h => ?_)
  · refine g_lconst X d28 rfl rfl ?_
    refine g_lcmp X d29 rfl ?_
    exact g_ifL_eq (tgt := p + 35) X d30 (by omega) rfl (fun _ => fin) (fun h2 => absurd ((eo hk).trans (by rw [h, if_pos rfl]; rfl)) h2)
  · refine g_lconst X d24 rfl rfl ?_
    refine g_goto (pc' := p + 29) X d25 (by omega) ?_
    refine g_lcmp X d29 rfl ?_
    exact g_ifL_eq (tgt := p + 35) X d30 (by omega) rfl (fun _ => fin) (fun h2 => absurd ((eo hk).trans (by rw [if_neg (fun q => h ((iI_eq rz (by decide)).mp q))]; rfl)) h2)
theorem g_tailF (X : Cx κ cL_law RL room_1) (hNL : kN κ = 9) (hN : NmOk nm) {z : UInt32} (hc1 : cl ≤ 601024) (hc2 : sl ≤ 7293034) (d0 : decode cL_law p = .ok (.aload_n 2, 1)) (d1 : decode cL_law (p + 1) = .ok (.invokevirtual 123, 3)) (d4 : decode cL_law (p + 4) = .ok (.iload 6, 2)) (d6 : decode cL_law (p + 6) = .ok (.if_icmp .eq 5, 3)) (d11 : decode cL_law (p + 11) = .ok (.iload 6, 2)) (d13 : decode cL_law (p + 13) = .ok (.ifCond .ne 36, 3)) (d16 : decode cL_law (p + 16) = .ok (.aload 4, 2)) (d18 : decode cL_law (p + 18) = .ok (.iconst 0, 1)) (d19 : decode cL_law (p + 19) = .ok (.daload, 1)) (d20 : decode cL_law (p + 20) = .ok (.fload 7, 2)) (d22 : decode cL_law (p + 22) = .ok (.f2d, 1)) (d23 : decode cL_law (p + 23) = .ok (.dcmp .l, 1)) (d24 : decode cL_law (p + 24) = .ok (.ifCond .eq 25, 3)) {off : Int} (dE : decode cL_law (p + 49) = .ok (.goto off, 3)) (eE : ((p + 49 : Nat) : Int) + off = ((2397 : Nat) : Int)) (rk : rng k) (ew : (M.1 40 46 0 0) = k) (eo : k = 0 → M.2 91 0 0 0 = (FP.f2d z).toInt64 ∧ vf_n64 (FP.f2d z) ∧ Op.cmpValue (FP.dcmp (FP.f2d z) (FP.f2d z)) .l = iI 0) (kk : G κ nm ad M 2397 [some (.ref b), some (.ref (ad 0 0)), some (.ref (ad 40 0)), some (.ref (ad 90 0)), some (.ref (ad 91 0)), some (.int (iI q)), none, none, none] [] cl sl) : G κ nm ad M p [some (.ref b), some (.ref (ad 0 0)), some (.ref (ad 40 0)), some (.ref (ad 90 0)), some (.ref (ad 91 0)), some (.int (iI q)), some (.int (iI k)), some (.float z), none] [] cl sl := by
  refine g_rm (fun hM => ?_)
  have fin : G κ nm ad M (p + 49) [some (.ref b), some (.ref (ad 0 0)), some (.ref (ad 40 0)), some (.ref (ad 90 0)), some (.ref (ad 91 0)), some (.int (iI q)), some (.int (iI k)), some (.float z), none] [] cl sl := by
    refine g_goto (pc' := 2397) X dE eE ?_
    refine g_drop_6 ?_
    refine g_drop_7 ?_
    exact kk
  refine g_aload_n X d0 rfl rfl ?_
  refine g_iV0_v X w_X12_thrown ml_L_123 d1 rfl (n40 hN) (en40 _ _ _ _) ⟨⟨Nat.le_of_ble_eq_true rfl, Nat.le_of_ble_eq_true rfl⟩, hc1, hc2⟩ (Nat.le_of_ble_eq_true rfl) (c_X12_thrown hN) ?_
  refine g_iload X d4 rfl rfl ?_
  refine g_icmp_eq (tgt := p + 11) X d6 (by omega) rfl (hM 40 46 0 0) rk (fun _ => ?_) (fun h => absurd ew h)
  refine g_iload X d11 rfl rfl ?_
  refine g_if_ne (tgt := p + 49) X d13 (by omega) rfl rk (fun _ => fin) (fun hk => ?_)
  obtain ⟨o1, o2, o3⟩ := eo hk
  refine g_aload X d16 rfl rfl ?_
  refine g_iconst X d18 rfl ?_
  refine g_dald X d19 rfl (n91 hN) (en91 _ _ _ _) (t0 := 3) rfl (by omega) (by omega) (by decide) ?_
  refine g_fload X d20 rfl rfl ?_
  refine g_f2d X d22 rfl o2 ?_
  refine g_dcmp0 X d23 rfl (by rw [o1]; exact o3) ?_
  exact g_if_eq (tgt := p + 49) X d24 (by omega) rfl (by decide) (fun _ => fin) (fun h => absurd rfl h)
end TL
theorem m_reel {b y l p d : Int} {M C1 : Mem} (q3 : C1 = reelM M b y l p d) : Ag kMo M C1 ∧ (C1.1 13 1 0 0) = (M.1 13 1 0 0) := by
  have f2 : Ag (cM [16, 20] [(0, 1)]) M C1 := by rw [q3]; exact reelM_ag
  exact ⟨f2.mono (fun k f h => cM_t (by
    have := kMo_e h
    first | exact List.not_mem_nil | (simp only [List.mem_cons, List.not_mem_nil, or_false]; omega)) (by
    have := kMo_e h
    first | exact List.not_mem_nil | (simp only [List.mem_cons, List.not_mem_nil, or_false, Prod.mk.injEq]; omega))), f2.i 13 1 0 0 rfl⟩
theorem m_frame {r c : Int} {x : Int64} {M C1 : Mem} (q3 : C1 = addF M r c x) : Ag kMo M C1 ∧ (C1.1 13 1 0 0) = (M.1 13 1 0 0) := by
  have f2 : Ag (cM [16, 17, 18, 19, 20, 21] []) M C1 := by rw [q3]; exact Ag.ofEx (addF_ex (Ex.rf M)) (by
    intro k hk
    (try simp only [List.mem_cons, List.not_mem_nil, or_false, not_or] at hk)
    unfold exR; simp only [Bool.or_eq_false_iff, beq_eq_false_iff_ne]
    omega)
  exact ⟨f2.mono (fun k f h => cM_t (by
    have := kMo_e h
    first | exact List.not_mem_nil | (simp only [List.mem_cons, List.not_mem_nil, or_false]; omega)) (by
    have := kMo_e h
    first | exact List.not_mem_nil | (simp only [List.mem_cons, List.not_mem_nil, or_false, Prod.mk.injEq]; omega))), f2.i 13 1 0 0 rfl⟩
theorem m_splice {r p : Int} {M C1 : Mem} (q3 : C1 = addS M r p) : Ag kMo M C1 ∧ (C1.1 13 1 0 0) = (M.1 13 1 0 0) := by
  have f2 : Ag (cM [16, 17, 18, 19, 20, 21] []) M C1 := by rw [q3]; exact Ag.ofEx (addS_ex (Ex.rf M)) (by
    intro k hk
    (try simp only [List.mem_cons, List.not_mem_nil, or_false, not_or] at hk)
    unfold exR; simp only [Bool.or_eq_false_iff, beq_eq_false_iff_ne]
    omega)
  exact ⟨f2.mono (fun k f h => cM_t (by
    have := kMo_e h
    first | exact List.not_mem_nil | (simp only [List.mem_cons, List.not_mem_nil, or_false]; omega)) (by
    have := kMo_e h
    first | exact List.not_mem_nil | (simp only [List.mem_cons, List.not_mem_nil, or_false, Prod.mk.injEq]; omega))), f2.i 13 1 0 0 rfl⟩
theorem m_cold {r : Int} {P : Prop} {M C1 : Mem} (q3 : C1 = setI M 16 5 r 0 (bI P)) : Ag kMo M C1 ∧ (C1.1 13 1 0 0) = (M.1 13 1 0 0) := by
  have f2 : Ag (cM [16] []) M C1 := by rw [q3]; exact (Ag.rf _).setI rfl
  exact ⟨f2.mono (fun k f h => cM_t (by
    have := kMo_e h
    first | exact List.not_mem_nil | (simp only [List.mem_cons, List.not_mem_nil, or_false]; omega)) (by
    have := kMo_e h
    first | exact List.not_mem_nil | (simp only [List.mem_cons, List.not_mem_nil, or_false, Prod.mk.injEq]; omega))), f2.i 13 1 0 0 rfl⟩
theorem m_copy {r : Int} {M C1 : Mem} (q3 : ∃ M2, CpR (beginR M (M.1 0 1 0 0) 1 (M.1 0 2 0 0) (M.1 16 2 r 0) ((M.1 16 3 r 0) + 1) 0) (M.1 0 1 0 0) r (M.1 16 6 r 0) M2 ∧ C1 = setI M2 0 1 0 0 ((M.1 0 1 0 0) + 1)) : Ag kMo M C1 ∧ (C1.1 13 1 0 0) = (M.1 13 1 0 0) := by
  have f2 : Ag (cM [16, 17, 18, 19, 20, 21] [(0, 1)]) M C1 := by
    obtain ⟨M9, ⟨hx, -⟩, e⟩ := q3
    rw [e]
    exact ((beginR_ag.mono (fun k f h => cM_t (fun z => (cM_e h).1 (by simp only [List.mem_cons, List.not_mem_nil, or_false] at z ⊢; omega)) (by simp))).tr (Ag.ofEx hx (by
      intro k hk
      (try simp only [List.mem_cons, List.not_mem_nil, or_false, not_or] at hk)
      unfold exR; simp only [Bool.or_eq_false_iff, beq_eq_false_iff_ne]
      omega))).setI rfl
  exact ⟨f2.mono (fun k f h => cM_t (by
    have := kMo_e h
    first | exact List.not_mem_nil | (simp only [List.mem_cons, List.not_mem_nil, or_false]; omega)) (by
    have := kMo_e h
    first | exact List.not_mem_nil | (simp only [List.mem_cons, List.not_mem_nil, or_false, Prod.mk.injEq]; omega))), f2.i 13 1 0 0 rfl⟩
theorem m_none {M C1 : Mem} (q3 : C1 = M) : Ag kMo M C1 ∧ (C1.1 13 1 0 0) = (M.1 13 1 0 0) := by
  have f2 : Ag (cM [] []) M C1 := by rw [q3]; exact Ag.rf M
  exact ⟨f2.mono (fun k f h => cM_t (by
    have := kMo_e h
    first | exact List.not_mem_nil | (simp only [List.mem_cons, List.not_mem_nil, or_false]; omega)) (by
    have := kMo_e h
    first | exact List.not_mem_nil | (simp only [List.mem_cons, List.not_mem_nil, or_false, Prod.mk.injEq]; omega))), f2.i 13 1 0 0 rfl⟩
theorem m_ofReel {M C1 : Mem} (q3 : C1 = M) : Ag kMo M C1 ∧ (C1.1 13 1 0 0) = (M.1 13 1 0 0) := by
  have f2 : Ag (cM [] []) M C1 := by rw [q3]; exact Ag.rf M
  exact ⟨f2.mono (fun k f h => cM_t (by
    have := kMo_e h
    first | exact List.not_mem_nil | (simp only [List.mem_cons, List.not_mem_nil, or_false]; omega)) (by
    have := kMo_e h
    first | exact List.not_mem_nil | (simp only [List.mem_cons, List.not_mem_nil, or_false, Prod.mk.injEq]; omega))), f2.i 13 1 0 0 rfl⟩
theorem m_tolerance {t : Int} {M C1 : Mem} (q3 : C1 = setI M 0 3 0 0 t) : Ag kMo M C1 ∧ (C1.1 13 1 0 0) = (M.1 13 1 0 0) := by
  have f2 : Ag (cM [] [(0, 3)]) M C1 := by rw [q3]; exact (Ag.rf _).setI rfl
  exact ⟨f2.mono (fun k f h => cM_t (by
    have := kMo_e h
    first | exact List.not_mem_nil | (simp only [List.mem_cons, List.not_mem_nil, or_false]; omega)) (by
    have := kMo_e h
    first | exact List.not_mem_nil | (simp only [List.mem_cons, List.not_mem_nil, or_false, Prod.mk.injEq]; omega))), f2.i 13 1 0 0 rfl⟩
theorem m_align {M C1 : Mem} (q3 : Ex (fun k => k == 4) M C1 ∧ Bz C1) : Ag kMo M C1 ∧ (C1.1 13 1 0 0) = (M.1 13 1 0 0) := by
  have f2 : Ag (cM [4] []) M C1 := Ag.ofEx q3.1 (by
    intro k hk
    (try simp only [List.mem_cons, List.not_mem_nil, or_false, not_or] at hk)
    simp only [Bool.or_eq_false_iff, beq_eq_false_iff_ne]
    omega)
  exact ⟨f2.mono (fun k f h => cM_t (by
    have := kMo_e h
    first | exact List.not_mem_nil | (simp only [List.mem_cons, List.not_mem_nil, or_false]; omega)) (by
    have := kMo_e h
    first | exact List.not_mem_nil | (simp only [List.mem_cons, List.not_mem_nil, or_false, Prod.mk.injEq]; omega))), f2.i 13 1 0 0 rfl⟩
theorem m_version {l y : Int} {M C1 : Mem} (q3 : C1 = setI (setI (setI M 22 0 (M.1 0 6 0 0) 0 l) 22 1 (M.1 0 6 0 0) 0 y) 0 6 0 0 ((M.1 0 6 0 0) + 1)) : Ag kMo M C1 ∧ (C1.1 13 1 0 0) = (M.1 13 1 0 0) := by
  have f2 : Ag (cM [] [(22, 0), (22, 1), (0, 6)]) M C1 := by rw [q3]; exact (((Ag.rf _).setI rfl).setI rfl).setI rfl
  exact ⟨f2.mono (fun k f h => cM_t (by
    have := kMo_e h
    first | exact List.not_mem_nil | (simp only [List.mem_cons, List.not_mem_nil, or_false]; omega)) (by
    have := kMo_e h
    first | exact List.not_mem_nil | (simp only [List.mem_cons, List.not_mem_nil, or_false, Prod.mk.injEq]; omega))), f2.i 13 1 0 0 rfl⟩
theorem m_shot {v f t : Int} {M C1 : Mem} (q3 : C1 = addShotM M v f t) : Ag kMo M C1 ∧ (C1.1 13 1 0 0) = (M.1 13 1 0 0) := by
  have f2 : Ag (cM [23, 24, 25] [(22, 3), (22, 4)]) M C1 := by rw [q3]; exact (((((Ag.rf _).setI rfl).setI rfl).setI rfl).setI rfl).setI rfl
  exact ⟨f2.mono (fun k f h => cM_t (by
    have := kMo_e h
    first | exact List.not_mem_nil | (simp only [List.mem_cons, List.not_mem_nil, or_false]; omega)) (by
    have := kMo_e h
    first | exact List.not_mem_nil | (simp only [List.mem_cons, List.not_mem_nil, or_false, Prod.mk.injEq]; omega))), f2.i 13 1 0 0 rfl⟩
theorem m_proof {v : Int} {M C1 : Mem} (q3 : C1 = setI M 22 2 v 0 ((M.1 22 2 v 0) + 1)) : Ag kMo M C1 ∧ (C1.1 13 1 0 0) = (M.1 13 1 0 0) := by
  have f2 : Ag (cM [] [(22, 2)]) M C1 := by rw [q3]; exact (Ag.rf _).setI rfl
  exact ⟨f2.mono (fun k f h => cM_t (by
    have := kMo_e h
    first | exact List.not_mem_nil | (simp only [List.mem_cons, List.not_mem_nil, or_false]; omega)) (by
    have := kMo_e h
    first | exact List.not_mem_nil | (simp only [List.mem_cons, List.not_mem_nil, or_false, Prod.mk.injEq]; omega))), f2.i 13 1 0 0 rfl⟩
theorem m_speed {v s x : Int} {M C1 : Mem} (q3 : C1 = setI M 25 0 v s x) : Ag kMo M C1 ∧ (C1.1 13 1 0 0) = (M.1 13 1 0 0) := by
  have f2 : Ag (cM [25] []) M C1 := by rw [q3]; exact (Ag.rf _).setI rfl
  exact ⟨f2.mono (fun k f h => cM_t (by
    have := kMo_e h
    first | exact List.not_mem_nil | (simp only [List.mem_cons, List.not_mem_nil, or_false]; omega)) (by
    have := kMo_e h
    first | exact List.not_mem_nil | (simp only [List.mem_cons, List.not_mem_nil, or_false, Prod.mk.injEq]; omega))), f2.i 13 1 0 0 rfl⟩
theorem m_scrap {c t : Int} {M C1 : Mem} (q3 : C1 = setI (setI (setI M 7 0 0 (M.1 6 0 0 0) c) 8 0 0 (M.1 6 0 0 0) t) 6 0 0 0 ((M.1 6 0 0 0) + 1)) : Ag kMo M C1 ∧ (C1.1 13 1 0 0) = (M.1 13 1 0 0) := by
  have f2 : Ag (cM [6, 7, 8] []) M C1 := by rw [q3]; exact (((Ag.rf _).setI rfl).setI rfl).setI rfl
  exact ⟨f2.mono (fun k f h => cM_t (by
    have := kMo_e h
    first | exact List.not_mem_nil | (simp only [List.mem_cons, List.not_mem_nil, or_false]; omega)) (by
    have := kMo_e h
    first | exact List.not_mem_nil | (simp only [List.mem_cons, List.not_mem_nil, or_false, Prod.mk.injEq]; omega))), f2.i 13 1 0 0 rfl⟩
theorem m_tint {M C1 : Mem} (q3 : Ex (fun k => k == 9) M C1) : Ag kMo M C1 ∧ (C1.1 13 1 0 0) = (M.1 13 1 0 0) := by
  have f2 : Ag (cM [9] []) M C1 := Ag.ofEx q3 (by
    intro k hk
    (try simp only [List.mem_cons, List.not_mem_nil, or_false, not_or] at hk)
    simp only [Bool.or_eq_false_iff, beq_eq_false_iff_ne]
    omega)
  exact ⟨f2.mono (fun k f h => cM_t (by
    have := kMo_e h
    first | exact List.not_mem_nil | (simp only [List.mem_cons, List.not_mem_nil, or_false]; omega)) (by
    have := kMo_e h
    first | exact List.not_mem_nil | (simp only [List.mem_cons, List.not_mem_nil, or_false, Prod.mk.injEq]; omega))), f2.i 13 1 0 0 rfl⟩
theorem m_right {v h l f t : Int} {M C1 : Mem} (q3 : C1 = setI (addRightM M v h l f t) 0 7 0 0 ((M.1 0 7 0 0) + 1)) : Ag kMo M C1 ∧ (C1.1 13 1 0 0) = (M.1 13 1 0 0) := by
  have f2 : Ag (cM [26, 27, 28, 29] [(22, 8), (0, 7)]) M C1 := by rw [q3]; exact ((((((Ag.rf _).setI rfl).setI rfl).setI rfl).setI rfl).setI rfl).setI rfl
  exact ⟨f2.mono (fun k f h => cM_t (by
    have := kMo_e h
    first | exact List.not_mem_nil | (simp only [List.mem_cons, List.not_mem_nil, or_false]; omega)) (by
    have := kMo_e h
    first | exact List.not_mem_nil | (simp only [List.mem_cons, List.not_mem_nil, or_false, Prod.mk.injEq]; omega))), f2.i 13 1 0 0 rfl⟩
theorem m_allow {v h : Int} {P : Prop} {M C1 : Mem} (q3 : C1 = setI M 30 0 v h (bI P)) : Ag kMo M C1 ∧ (C1.1 13 1 0 0) = (M.1 13 1 0 0) := by
  have f2 : Ag (cM [30] []) M C1 := by rw [q3]; exact (Ag.rf _).setI rfl
  exact ⟨f2.mono (fun k f h => cM_t (by
    have := kMo_e h
    first | exact List.not_mem_nil | (simp only [List.mem_cons, List.not_mem_nil, or_false]; omega)) (by
    have := kMo_e h
    first | exact List.not_mem_nil | (simp only [List.mem_cons, List.not_mem_nil, or_false, Prod.mk.injEq]; omega))), f2.i 13 1 0 0 rfl⟩
theorem m_edition {v : Int} {M C1 : Mem} (q3 : EdL M v (M.1 22 3 v 0) 0 C1) : Ag kMo M C1 ∧ (C1.1 13 1 0 0) = (M.1 13 1 0 0) := by
  have f2 : Ag (cM [10, 12, 31] []) M C1 := Ag.ofEx q3.1 (by
    intro k hk
    (try simp only [List.mem_cons, List.not_mem_nil, or_false, not_or] at hk)
    unfold exD; simp only [Bool.or_eq_false_iff, beq_eq_false_iff_ne]
    omega)
  exact ⟨f2.mono (fun k f h => cM_t (by
    have := kMo_e h
    first | exact List.not_mem_nil | (simp only [List.mem_cons, List.not_mem_nil, or_false]; omega)) (by
    have := kMo_e h
    first | exact List.not_mem_nil | (simp only [List.mem_cons, List.not_mem_nil, or_false, Prod.mk.injEq]; omega))), f2.i 13 1 0 0 rfl⟩
theorem m_protect {p : Int} {P : Prop} {M C1 : Mem} (q3 : C1 = setI M 31 5 p 0 (bI P)) : Ag kMo M C1 ∧ (C1.1 13 1 0 0) = (M.1 13 1 0 0) := by
  have f2 : Ag (cM [] [(31, 5)]) M C1 := by rw [q3]; exact (Ag.rf _).setI rfl
  exact ⟨f2.mono (fun k f h => cM_t (by
    have := kMo_e h
    first | exact List.not_mem_nil | (simp only [List.mem_cons, List.not_mem_nil, or_false]; omega)) (by
    have := kMo_e h
    first | exact List.not_mem_nil | (simp only [List.mem_cons, List.not_mem_nil, or_false, Prod.mk.injEq]; omega))), f2.i 13 1 0 0 rfl⟩
theorem m_limit {l : Int} {M C1 : Mem} (q3 : C1 = setI M 10 1 0 0 l) : Ag kMo M C1 ∧ (C1.1 13 1 0 0) = (M.1 13 1 0 0) := by
  have f2 : Ag (cM [] [(10, 1)]) M C1 := by rw [q3]; exact (Ag.rf _).setI rfl
  exact ⟨f2.mono (fun k f h => cM_t (by
    have := kMo_e h
    first | exact List.not_mem_nil | (simp only [List.mem_cons, List.not_mem_nil, or_false]; omega)) (by
    have := kMo_e h
    first | exact List.not_mem_nil | (simp only [List.mem_cons, List.not_mem_nil, or_false, Prod.mk.injEq]; omega))), f2.i 13 1 0 0 rfl⟩
theorem m_takeBack {c : Int} {M C1 : Mem} (q3 : C1 = undoM M c) : Ag kMo M C1 ∧ (C1.1 13 1 0 0) = (M.1 13 1 0 0) := by
  have f2 : Ag (cM [] [(31, 4), (31, 6), (31, 7)]) M C1 := by rw [q3]; exact (((Ag.rf _).setL rfl).setI rfl).setI rfl
  exact ⟨f2.mono (fun k f h => cM_t (by
    have := kMo_e h
    first | exact List.not_mem_nil | (simp only [List.mem_cons, List.not_mem_nil, or_false]; omega)) (by
    have := kMo_e h
    first | exact List.not_mem_nil | (simp only [List.mem_cons, List.not_mem_nil, or_false, Prod.mk.injEq]; omega))), f2.i 13 1 0 0 rfl⟩
theorem m_pass {z : Int} {M C1 : Mem} (q3 : PsR M z (M.1 0 1 0 0) C1) : Ag kMo M C1 ∧ (C1.1 13 1 0 0) = (M.1 13 1 0 0) := by
  have f2 : Ag (cM [0, 16] []) M C1 := Ag.ofEx q3.1 (by
    intro k hk
    (try simp only [List.mem_cons, List.not_mem_nil, or_false, not_or] at hk)
    simp only [Bool.or_eq_false_iff, beq_eq_false_iff_ne]
    omega)
  exact ⟨f2.mono (fun k f h => cM_t (by
    have := kMo_e h
    first | exact List.not_mem_nil | (simp only [List.mem_cons, List.not_mem_nil, or_false]; omega)) (by
    have := kMo_e h
    first | exact List.not_mem_nil | (simp only [List.mem_cons, List.not_mem_nil, or_false, Prod.mk.injEq]; omega))), f2.i 13 1 0 0 rfl⟩
theorem m_mend {lo hi : Int} {dec : Int → Prop} {mv : Int → Int64} {M C0 C1 : Mem} (f0 : Ag (cM [95] []) M C0) (q3 : MdR dec mv lo hi C0 C1) : Ag kMo M C1 ∧ ((M.1 12 0 0 0) + sm (dI dec) lo hi ≤ (M.1 13 1 0 0) → (C1.1 13 1 0 0) = (M.1 13 1 0 0)) ∧ ((M.1 13 1 0 0) < (M.1 12 0 0 0) + sm (dI dec) lo hi → (C1.1 13 1 0 0) = 2 * (M.1 13 1 0 0)) := by
  have f2 : Ag (cM [95, 12, 13, 14, 15, 31] []) M C1 := (f0.mono (fun k f h => cM_t (fun z => (cM_e h).1 (by simp only [List.mem_cons, List.not_mem_nil, or_false] at z ⊢; omega)) (by simp))).tr (Ag.ofEx q3.1 (by
    intro k hk
    (try simp only [List.mem_cons, List.not_mem_nil, or_false, not_or] at hk)
    unfold exE; simp only [Bool.or_eq_false_iff, beq_eq_false_iff_ne]
    omega))
  have e1 : (C0.1 12 0 0 0) = (M.1 12 0 0 0) := f0.i 12 0 0 0 rfl
  have e2 : (C0.1 13 1 0 0) = (M.1 13 1 0 0) := f0.i 13 1 0 0 rfl
  obtain ⟨-, -, -, -, -, r6, -, -, r9, r10⟩ := q3
  rw [e1] at r6
  rw [e2] at r9 r10
  refine ⟨f2.mono (fun k f h => cM_t (by
    have := kMo_e h
    simp only [List.mem_cons, List.not_mem_nil, or_false]
    omega) (by simp)), fun h => r9 (by omega), fun h => r10 (by omega)⟩
