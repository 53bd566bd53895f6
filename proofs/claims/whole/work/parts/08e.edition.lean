theorem sm_nn {f : Int → Int} {lo : Int} : ∀ n : Nat, (∀ k, lo ≤ k → k < lo + n → 0 ≤ f k) → 0 ≤ sm f lo (lo + n)
  | 0, _ => by rw [sm_0 _ (by omega)]; decide
  | n + 1, h => by
    rw [show lo + ((n + 1 : Nat) : Int) = lo + n + 1 by omega, sm_s _ (by omega)]
    have a := sm_nn n (fun k k0 k1 => h k k0 (by omega))
    have b := h (lo + n) (by omega) (by omega)
    omega
theorem sm_nng {f : Int → Int} {lo hi : Int} (h : ∀ k, lo ≤ k → k < hi → 0 ≤ f k) : 0 ≤ sm f lo hi := by
  by_cases q : hi ≤ lo
  · rw [sm_0 _ q]; decide
  · have := sm_nn (f := f) (lo := lo) (hi - lo).toNat (fun k k0 k1 => h k k0 (by omega))
    rw [show lo + ((hi - lo).toNat : Int) = hi by omega] at this
    exact this
def exD (k : Nat) : Bool := k == 10 || k == 12 || k == 31
theorem bst_ex {p : Nat → Bool} {M M1 : Mem} (h : Ex p M M1) (h6 : p 16 = false) (h20 : p 20 = false) (c : Int) : ∀ n : Nat, bst M1 c n = bst M c n
  | 0 => rfl
  | n + 1 => by
    have ih := bst_ex h h6 h20 c n
    unfold bst btr
    rw [ih, h.i 16 4 _ _ h6, h.i 20 0 _ _ h20, h.i 16 4 _ _ h6, h.i 16 3 _ _ h6, h.i 16 3 _ _ h6]
theorem best_ex {p : Nat → Bool} {M M1 : Mem} (h : Ex p M M1) (h0 : p 0 = false) (h6 : p 16 = false) (h20 : p 20 = false) (c : Int) : best M1 c = best M c := by
  unfold best
  rw [h.i 0 1 0 0 h0, bst_ex h h6 h20]
/-- the frame k of the edition is what the reels of M have of code c -/
def EnR (M M1 : Mem) (k c : Int) : Prop := (M1.1 31 0 k 0) = c ∧ (M1.1 31 1 k 0) = best M c ∧ (M1.1 31 2 k 0) = (if best M c = -1 then -1 else (M.1 20 0 (best M c) c)) ∧ (M1.2 31 3 k 0) = (if best M c = -1 then 0 else (M.2 18 0 (best M c) ((M.1 20 0 (best M c) c)))) ∧ (M1.2 31 4 k 0) = (M1.2 31 3 k 0) ∧ (M1.1 31 5 k 0) = 0 ∧ (M1.1 31 6 k 0) = 0 ∧ (M1.1 31 7 k 0) = -1
theorem begM_k {M : Mem} {k c r p : Int} {x : Int64} : (begM M k c r p x).1 31 0 k 0 = c ∧ (begM M k c r p x).1 31 1 k 0 = r ∧ (begM M k c r p x).1 31 2 k 0 = p ∧ (begM M k c r p x).2 31 3 k 0 = x ∧ (begM M k c r p x).2 31 4 k 0 = x ∧ (begM M k c r p x).1 31 5 k 0 = 0 ∧ (begM M k c r p x).1 31 6 k 0 = 0 ∧ (begM M k c r p x).1 31 7 k 0 = -1 := by
  unfold begM
  simp [setI_1, setI_2, setL_1, setL_2]
theorem begM_o {M : Mem} {k c r p q : Int} {x : Int64} (h : q ≠ k) : ∀ f, (begM M k c r p x).1 31 f q 0 = M.1 31 f q 0 ∧ (begM M k c r p x).2 31 f q 0 = M.2 31 f q 0 := fun f => by
  unfold begM
  simp [setI_1, setI_2, setL_1, setL_2, h]
theorem begM_ex {M M' : Mem} {k c r p : Int} {x : Int64} (h : Ex exD M M') : Ex exD M (begM M' k c r p x) := by
  unfold begM
  exact (((((((h.setI rfl).setI rfl).setI rfl).setL rfl).setL rfl).setI rfl).setI rfl).setI rfl
theorem takeM_31 {M : Mem} {c r p : Int} {x : Int64} (q : Int) (f : Nat) : (takeM M c r p x).1 31 f q 0 = (begM M (M.1 10 0 0 0) c r p x).1 31 f q 0 ∧ (takeM M c r p x).2 31 f q 0 = (begM M (M.1 10 0 0 0) c r p x).2 31 f q 0 := by
  unfold takeM
  simp [setI_1, setI_2]
theorem takeM_10 {M : Mem} {c r p : Int} {x : Int64} : (takeM M c r p x).1 10 0 0 0 = (M.1 10 0 0 0) + 1 ∧ (takeM M c r p x).1 10 1 0 0 = (M.1 10 1 0 0) ∧ (takeM M c r p x).1 12 0 0 0 = (M.1 12 0 0 0) := by
  unfold takeM begM
  simp [setI_1, setL_1]
theorem takeM_En {M M1 : Mem} {c r p : Int} {x : Int64} (hr : r = best M c) (hp : p = if best M c = -1 then -1 else (M.1 20 0 (best M c) c)) (hx : x = if best M c = -1 then 0 else (M.2 18 0 (best M c) ((M.1 20 0 (best M c) c)))) : EnR M (takeM M1 c r p x) (M1.1 10 0 0 0) c := by
  obtain ⟨a1, a2, a3, a4, a5, a6, a7, a8⟩ := begM_k (M := M1) (k := (M1.1 10 0 0 0)) (c := c) (r := r) (p := p) (x := x)
  refine ⟨?_, ?_, ?_, ?_, ?_, ?_, ?_, ?_⟩
  · rw [(takeM_31 _ _).1, a1]
  · rw [(takeM_31 _ _).1, a2, hr]
  · rw [(takeM_31 _ _).1, a3, hp]
  · rw [(takeM_31 _ _).2, a4, hx]
  · rw [(takeM_31 _ _).2, (takeM_31 _ _).2, a4, a5]
  · rw [(takeM_31 _ _).1, a6]
  · rw [(takeM_31 _ _).1, a7]
  · rw [(takeM_31 _ _).1, a8]
theorem EnR.keep {M M1 M2 : Mem} {k c : Int} (h : EnR M M1 k c) (e : ∀ f, M2.1 31 f k 0 = M1.1 31 f k 0 ∧ M2.2 31 f k 0 = M1.2 31 f k 0) : EnR M M2 k c := by
  unfold EnR
  rw [(e 0).1, (e 1).1, (e 2).1, (e 3).2, (e 4).2, (e 5).1, (e 6).1, (e 7).1]
  exact h
def lenV (M : Mem) (v s : Int) : Int := (M.1 24 0 v s) - (M.1 23 0 v s) + 1
/-- taken: the codes of the first s shots, and e of the next -/
def EdL (M : Mem) (v s e : Int) (M1 : Mem) : Prop := Ex exD M M1 ∧ (M1.1 10 0 0 0) = sm (lenV M v) 0 s + e ∧ (M1.1 12 0 0 0) = 0 ∧ (M1.1 10 1 0 0) = (M.1 10 1 0 0) ∧ (∀ z d, 0 ≤ z → (M.1 23 0 v z) ≤ d → d ≤ (M.1 24 0 v z) → (z < s ∨ (z = s ∧ d < (M.1 23 0 v s) + e)) → EnR M M1 (sm (lenV M v) 0 z + (d - (M.1 23 0 v z))) d) ∧ (∀ (f : Nat) (k : Int), (M1.1 10 0 0 0) ≤ k → M1.1 31 f k 0 = M.1 31 f k 0)
theorem takeC_En {M M1 : Mem} {c : Int} (h : Ex exD M M1) : ∃ r p x, takeC M1 c = takeM M1 c r p x ∧ r = best M c ∧ p = (if best M c = -1 then -1 else (M.1 20 0 (best M c) c)) ∧ x = (if best M c = -1 then 0 else (M.2 18 0 (best M c) ((M.1 20 0 (best M c) c)))) := by
  have eb := best_ex h rfl rfl rfl c
  unfold takeC
  rw [eb]
  by_cases q : best M c = -1
  · rw [if_pos q]
    exact ⟨_, _, _, rfl, q.symm, by rw [if_pos q], by rw [if_pos q]⟩
  · rw [if_neg q]
    refine ⟨_, _, _, rfl, rfl, ?_, ?_⟩
    · rw [if_neg q, h.i 20 0 _ _ rfl]
    · rw [if_neg q, h.l 18 0 _ _ rfl, h.i 20 0 _ _ rfl]
theorem EdL.step {M M1 : Mem} {v s e : Int} (h : EdL M v s e M1) (s0 : 0 ≤ s) (e0 : 0 ≤ e) (hl : ∀ z, 0 ≤ z → z < s → 0 ≤ lenV M v z) : EdL M v s (e + 1) (takeC M1 ((M.1 23 0 v s) + e)) := by
  obtain ⟨h1, h2, h3, h4, h5, h6⟩ := h
  obtain ⟨r, p, x, q1, q2, q3, q4⟩ := takeC_En (c := (M.1 23 0 v s) + e) h1
  rw [q1]
  obtain ⟨t1, t2, t3⟩ := takeM_10 (M := M1) (c := (M.1 23 0 v s) + e) (r := r) (p := p) (x := x)
  refine ⟨?_, by rw [t1, h2]; omega, by rw [t3, h3], by rw [t2, h4], fun z d z0 d0 d1 hz => ?_, fun f k hk => ?_⟩
  · unfold takeM
    exact (begM_ex h1).setI rfl
  · by_cases q : z = s ∧ d = (M.1 23 0 v s) + e
    · obtain ⟨a, b⟩ := q
      subst a
      subst b
      have := takeM_En (M1 := M1) q2 q3 q4
      rw [h2] at this
      rw [show (M.1 23 0 v z) + e - (M.1 23 0 v z) = e by omega]
      exact this
    · have old : z < s ∨ (z = s ∧ d < (M.1 23 0 v s) + e) := by
        rcases hz with y | y
        · exact Or.inl y
        · refine Or.inr ⟨y.1, ?_⟩
          have : d ≠ (M.1 23 0 v s) + e := fun g => q ⟨y.1, g⟩
          omega
      refine (h5 z d z0 d0 d1 old).keep (fun f => ?_)
      have hne : sm (lenV M v) 0 z + (d - (M.1 23 0 v z)) ≠ (M1.1 10 0 0 0) := by
        rw [h2]
        rcases old with y | y
        · have a1 := sm_s (lenV M v) z0
          have a2 := sm_app (lenV M v) (lo := 0) (mi := z + 1) (hi := s) (by omega) (by omega)
          have a3 : 0 ≤ sm (lenV M v) (z + 1) s := sm_nng (fun k k0 k1 => hl k (by omega) k1)
          have a4 : lenV M v z = (M.1 24 0 v z) - (M.1 23 0 v z) + 1 := rfl
          omega
        · rw [y.1] at d0 ⊢
          omega
      rw [(takeM_31 _ _).1, (takeM_31 _ _).2]
      exact begM_o hne f
  · rw [t1] at hk
    rw [(takeM_31 _ _).1, (begM_o (show k ≠ (M1.1 10 0 0 0) by omega) f).1]
    exact h6 f k (by omega)
theorem EdL.next {M M1 : Mem} {v s : Int} (h : EdL M v s (lenV M v s) M1) (s0 : 0 ≤ s) : EdL M v (s + 1) 0 M1 := by
  obtain ⟨h1, h2, h3, h4, h5, h6⟩ := h
  refine ⟨h1, by rw [h2, sm_s _ s0]; omega, h3, h4, fun z d z0 d0 d1 hz => h5 z d z0 d0 d1 ?_, h6⟩
  rcases hz with y | y
  · by_cases q : z = s
    · refine Or.inr ⟨q, ?_⟩
      rw [q] at d1
      unfold lenV
      omega
    · exact Or.inl (by omega)
  · rw [y.1] at d0
    omega
theorem EdL.z (M : Mem) (v : Int) : EdL M v 0 0 (setI (setI M 10 0 0 0 0) 12 0 0 0 0) := by
  refine ⟨((Ex.rf M).setI rfl).setI rfl, by simp [setI_1, sm_0], by simp [setI_1], by simp [setI_1], fun z d z0 d0 d1 hz => ?_, fun f k _ => by simp [setI_1]⟩
  rcases hz with y | y
  · omega
  · rw [y.1] at d0
    omega
set_option maxRecDepth 100000 in
set_option maxHeartbeats 4000000 in
theorem c_X11_edition {δ : Dx} {nm : List (Nat × Int)} {ad : Ad} {M : Mem} {v : Int} (hN : NmOk nm) (rv : rng v) (rc : 0 ≤ (M.1 0 1 0 0) ∧ (M.1 0 1 0 0) ≤ 12) (hr : ∀ i, 0 ≤ i → i < (M.1 0 1 0 0) → RD M i) (vc : 0 ≤ (M.1 0 6 0 0) ∧ (M.1 0 6 0 0) ≤ 6) (hv : ∀ v, 0 ≤ v → v < (M.1 0 6 0 0) → VOk M v) : CtX δ md_X11_edition 1 6 nm ad M [.ref (ad 0 0), .int (iI v)] (pC ((0 ≤ v ∧ v < (M.1 0 6 0 0))) (fun v0 ad' M' => v0 = some (.int (iI (gapN M'))) ∧ ad' = ad ∧ EdL M v (M.1 22 3 v 0) 0 M')) (fun E => (E = "java/lang/IndexOutOfBoundsException" ∧ ¬ (0 ≤ v ∧ v < (M.1 0 6 0 0)))) := by
  refine CtX_of (ins := .ireturn) (ok := okI) [some (.ref (ad 0 0)), some (.int (iI v)), none, none, none] (by decide +kernel) rfl (Nat.le_of_ble_eq_true rfl) (fun κ X hr T => xendI rfl X hr T) (fun κ X hNL T Y => ?_)
  refine g_rm (fun hM => ?_)
  refine g_aload_n X dX11_edition_0 rfl rfl ?_
  refine g_iload_n X dX11_edition_1 rfl rfl ?_
  refine g_xV1_v X T w_X11_versionNumbered ml_X11_168 dX11_edition_2 rfl (n0 hN) (en0 _ _ _ _) ⟨⟨Nat.le_of_ble_eq_true rfl, Nat.le_of_ble_eq_true rfl⟩, Nat.le_of_ble_eq_true rfl, Nat.le_of_ble_eq_true rfl⟩ (Nat.le_of_ble_eq_true rfl) (c_X11_versionNumbered hN (by omega) (by omega)) (Nat.le_of_ble_eq_true rfl) (Nat.le_of_ble_eq_true rfl) (fun E h => h) (fun hc2 => ?_)
  obtain ⟨h1, h2, h3, h4, h5, h6, h7⟩ := hv v (by omega) (by omega)
  have hl : ∀ z, 0 ≤ z → z < (M.1 22 3 v 0) → 1 ≤ lenV M v z ∧ (M.1 23 0 v z) + lenV M v z = (M.1 24 0 v z) + 1 := fun z z0 z1 => by have := h2 z z0 z1; unfold lenV; omega
  have h3b : (M.1 22 4 v 0) = sm (lenV M v) 0 (M.1 22 3 v 0) := h3.1
  have rgs := hM 10 1 0 0
  refine g_astore_2 X dX11_edition_5 rfl (lt_kN hNL rfl) rfl ?_
  refine g_aload_n X dX11_edition_6 rfl rfl ?_
  refine g_get X ci11 (n0 hN) (en0 _ _ _ _) (by decide) fl_X11_54 rfl dX11_edition_7 rfl ?_
  refine g_iV0_n X w_X2_begin ml_X11_234 dX11_edition_10 rfl (n10 hN) (en10 _ _ _ _) ⟨⟨Nat.le_of_ble_eq_true rfl, Nat.le_of_ble_eq_true rfl⟩, Nat.le_of_ble_eq_true rfl, Nat.le_of_ble_eq_true rfl⟩ (Nat.le_of_ble_eq_true rfl) (c_X2_begin hN) ?_
  refine g_iconst X dX11_edition_13 rfl ?_
  refine g_istore_3 X dX11_edition_14 rfl (lt_kN hNL rfl) rfl ?_
  have lp15 : ∀ (s : Int) (M1 : Mem) (k0 : 0 ≤ s) (k1 : s ≤ (M.1 22 3 v 0)) (hE : EdL M v s 0 M1), G κ nm ad M1 15 [some (.ref (ad 0 0)), some (.int (iI v)), some (.ref (ad 22 v)), some (.int (iI s)), none] [] 1 6 := by
    refine ind2 (fun s M1 => (10 - s).toNat) ?_
    intro s M1 ih15 k0 k1 hE
    refine g_rm (fun hM15 => ?_)
    have es := hE.1.i 22 3 v 0 rfl
    have ef := hE.1.i 23 0 v s rfl
    have et := hE.1.i 24 0 v s rfl
    refine g_iload_n X dX11_edition_15 rfl rfl ?_
    refine g_aload_n X dX11_edition_16 rfl rfl ?_
    refine g_getI X ci10 (n22 hN (by omega) (by omega)) (en22 _ _ _ _) (by decide) fl_X11_172 rfl dX11_edition_17 rfl (fun r17 => ?_)
    refine g_icmp_ge (tgt := 60) X dX11_edition_20 rfl rfl (by omega) (by omega) (fun h20 => ?_) (fun h20 => ?_)
    · skip
      have ee := hE.2.1
      have esx : s = (M.1 22 3 v 0) := by omega
      rw [esx] at hE ee
      refine g_aload_n X dX11_edition_60 rfl rfl ?_
      refine g_get X ci11 (n0 hN) (en0 _ _ _ _) (by decide) fl_X11_54 rfl dX11_edition_61 rfl ?_
      refine g_iV0_v X w_X2_gaps ml_X11_239 dX11_edition_64 rfl (n10 hN) (en10 _ _ _ _) ⟨⟨Nat.le_of_ble_eq_true rfl, Nat.le_of_ble_eq_true rfl⟩, Nat.le_of_ble_eq_true rfl, Nat.le_of_ble_eq_true rfl⟩ (Nat.le_of_ble_eq_true rfl) (c_X2_gaps hN (by omega)) ?_
      exact g_ret Y dX11_edition_67 ⟨_, rfl⟩ ⟨by assumption, rfl, rfl, hE⟩
    · skip
      have q := h2 s (by omega) (by omega)
      have ql := hl s (by omega) (by omega)
      have a1 := sm_s (lenV M v) k0
      have a2 := sm_app (lenV M v) (lo := 0) (mi := s + 1) (hi := (M.1 22 3 v 0)) (by omega) (by omega)
      have a3 : 0 ≤ sm (lenV M v) (s + 1) (M.1 22 3 v 0) := sm_nng (fun k k0 k1 => by have := hl k (by omega) k1; omega)
      have a4 : 0 ≤ sm (lenV M v) 0 s := sm_nng (fun k k0 k1 => by have := hl k k0 (by omega); omega)
      refine g_aload_n X dX11_edition_23 rfl rfl ?_
      refine g_get X ci10 (n22 hN (by omega) (by omega)) (en22 _ _ _ _) (by decide) fl_X11_212 rfl dX11_edition_24 rfl ?_
      refine g_iload_n X dX11_edition_27 rfl rfl ?_
      refine g_iald X dX11_edition_28 rfl (n23 hN (by omega) (by omega)) (en23 _ _ _ _) (t0 := 0) rfl (by omega) (by omega) (by decide) (fun r28 => ?_)
      refine g_int (b := (M.1 23 0 v s) + 0) (by omega) ?_
      refine g_istore_4 X dX11_edition_29 rfl (lt_kN hNL rfl) rfl ?_
      have lp31 : ∀ (e : Int) (M2 : Mem) (e0 : 0 ≤ e) (e1 : e ≤ lenV M v s) (hE2 : EdL M v s e M2), G κ nm ad M2 31 [some (.ref (ad 0 0)), some (.int (iI v)), some (.ref (ad 22 v)), some (.int (iI s)), some (.int (iI ((M.1 23 0 v s) + e)))] [] 1 6 := by
        refine ind2 (fun e M2 => (1001 - e).toNat) ?_
        intro e M2 ih31 e0 e1 hE2
        refine g_rm (fun hM31 => ?_)
        have et2 := hE2.1.i 24 0 v s rfl
        have ec2 := hE2.2.1
        have er2 := hE2.1.i 0 1 0 0 rfl
        refine g_iload X dX11_edition_31 rfl rfl ?_
        refine g_aload_n X dX11_edition_33 rfl rfl ?_
        refine g_get X ci10 (n22 hN (by omega) (by omega)) (en22 _ _ _ _) (by decide) fl_X11_215 rfl dX11_edition_34 rfl ?_
        refine g_iload_n X dX11_edition_37 rfl rfl ?_
        refine g_iald X dX11_edition_38 rfl (n24 hN (by omega) (by omega)) (en24 _ _ _ _) (t0 := 0) rfl (by omega) (by omega) (by decide) (fun r38 => ?_)
        refine g_icmp_gt (tgt := 54) X dX11_edition_39 rfl rfl (by omega) (by omega) (fun h39 => ?_) (fun h39 => ?_)
        · skip
          refine g_iinc_3 X dX11_edition_54 rfl (lt_kN hNL rfl) rfl ?_
          refine g_goto (pc' := 15) X dX11_edition_57 rfl ?_
          refine g_drop_4 ?_
          exact ih15 (s + 1) _ (by omega) (by omega) (by omega) (EdL.next (by rw [show lenV M v s = e by omega]; exact hE2) k0)
        · skip
          refine g_aload_n X dX11_edition_42 rfl rfl ?_
          refine g_iload X dX11_edition_43 rfl rfl ?_
          refine g_iV1_n X w_X11_takeCode ml_X11_236 dX11_edition_45 rfl (n0 hN) (en0 _ _ _ _) ⟨⟨Nat.le_of_ble_eq_true rfl, Nat.le_of_ble_eq_true rfl⟩, Nat.le_of_ble_eq_true rfl, Nat.le_of_ble_eq_true rfl⟩ (Nat.le_of_ble_eq_true rfl) (c_X11_takeCode hN (by omega) (fun i i0 i1 => (hr i i0 (by omega)).cong (RE.ex hE2.1 (fun k k16 k21 => by unfold exD; simp; omega) i)) (by omega) (by omega) (by omega)) ?_
          refine g_iinc_4 X dX11_edition_48 rfl (lt_kN hNL rfl) rfl ?_
          refine g_goto (pc' := 31) X dX11_edition_51 rfl ?_
          rw [show (M.1 23 0 v s) + e + 1 = (M.1 23 0 v s) + (e + 1) by omega]
          exact ih31 (e + 1) _ (by omega) (by omega) (by omega) (hE2.step k0 e0 (fun z z0 z1 => by have := hl z z0 (by omega); omega))
      exact lp31 0 _ (by omega) (by omega) hE
  exact lp15 0 _ (by omega) (by omega) (EdL.z M v)
