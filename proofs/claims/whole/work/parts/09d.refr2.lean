/-- the reference's answer: thrown is w, and nothing else; or all is well, and P holds -/
def pRf (w : Int) (v0 x : Value) (ad : Ad) (M : Mem) (P : Mem → Prop) : Option Value → Ad → Mem → Prop := fun v ad' M' => ad' = ad ∧ ((0 < w ∧ v = some v0 ∧ M' = setI M 40 46 0 0 w) ∨ (w = 0 ∧ v = some x ∧ P M'))
theorem pRx {w : Int} {v0 x : Value} {ad : Ad} {M : Mem} {P : Mem → Prop} (h : 0 < w) : pRf w v0 x ad M P (some v0) ad (setI M 40 46 0 0 w) := ⟨rfl, Or.inl ⟨h, rfl, rfl⟩⟩
theorem pRo {w : Int} {v0 x : Value} {ad : Ad} {M M' : Mem} {P : Mem → Prop} (h : w = 0) (hp : P M') : pRf w v0 x ad M P (some x) ad M' := ⟨rfl, Or.inr ⟨h, rfl, hp⟩⟩
def addsM (M : Mem) (b y l g d : Int) : Mem := setI (setI (setI (setI (setI (setI M 41 0 0 (M.1 40 10 0 0) b) 42 0 0 (M.1 40 10 0 0) y) 43 0 0 (M.1 40 10 0 0) l) 44 0 0 (M.1 40 10 0 0) g) 45 0 0 (M.1 40 10 0 0) d) 40 10 0 0 ((M.1 40 10 0 0) + 1)
def frM (M : Mem) (r c : Int) (x : Int64) : Mem := setI (setL (setI M 48 0 0 (60 * r + (M.1 47 0 0 r)) c) 49 0 0 (60 * r + (M.1 47 0 0 r)) x) 47 0 0 r ((M.1 47 0 0 r) + 1)
def spM (M : Mem) (r p : Int) : Mem := setI M 50 0 0 (60 * r + p) 1
/-- the frames of reel r are copied to reel c, the first n of them -/
def CpM (M0 : Mem) (c r n : Int) (M : Mem) : Prop := Ag (fun k _ => !(k == 48 || k == 49 || k == 50)) M0 M ∧ (∀ j, ¬ (60 * c ≤ j ∧ j < 60 * c + n) → (M.1 48 0 0 j) = (M0.1 48 0 0 j) ∧ (M.2 49 0 0 j) = (M0.2 49 0 0 j) ∧ (M.1 50 0 0 j) = (M0.1 50 0 0 j)) ∧ (∀ j, 0 ≤ j → j < n → (M.1 48 0 0 (60 * c + j)) = (M0.1 48 0 0 (60 * r + j)) ∧ (M.2 49 0 0 (60 * c + j)) = (M0.2 49 0 0 (60 * r + j)) ∧ (M.1 50 0 0 (60 * c + j)) = (M0.1 50 0 0 (60 * r + j)))
def cpB (M : Mem) (r : Int) : Mem := setI (addsM M 1 (M.1 40 12 0 0) (M.1 43 0 0 r) ((M.1 44 0 0 r) + 1) 0) 47 0 0 (M.1 40 10 0 0) (M.1 47 0 0 r)
def PsM (C M0 : Mem) (n k : Int) (M : Mem) : Prop := Ag (fun k _ => !(k == 45)) M0 M ∧ (∀ i, ¬ (0 ≤ i ∧ i < k) → (M.1 45 0 0 i) = (M0.1 45 0 0 i)) ∧ ∀ i, 0 ≤ i → i < k → (M.1 45 0 0 i) = (C.1 16 4 i 0) + n * yearly C i
theorem sm_shift (f : Int → Int) (d : Int) {lo hi : Int} : sm (fun j => f (d + j)) lo hi = sm f (d + lo) (d + hi) := by
  unfold sm
  rw [show (d + hi - (d + lo)).toNat = (hi - lo).toNat by omega]
  have : ∀ n : Nat, isum (fun j => f (d + j)) lo n = isum f (d + lo) n := by
    intro n
    induction n with
    | zero => rfl
    | succ n ih =>
      show isum _ lo n + f (d + (lo + n)) = isum f (d + lo) n + f (d + lo + n)
      rw [ih, show d + (lo + n) = d + lo + n by omega]
  exact this _
theorem addS_19 {C : Mem} {r p j : Int} (hs : (C.1 19 0 r p) = 0 ∨ (C.1 19 0 r p) = 1) : (addS C r p).1 19 0 r j = if j = p then 1 else (C.1 19 0 r j) := by
  unfold addS
  by_cases h : (C.1 19 0 r p) = 0
  · rw [if_pos h]
    by_cases e : j = p
    · rw [if_pos e]; simp [setI_1, e]
    · rw [if_neg e]; simp [setI_1, e]
  · rw [if_neg h]
    by_cases e : j = p
    · rw [if_pos e, e]; omega
    · rw [if_neg e]
theorem splN {C M : Mem} {r p : Int} (hR : RelR C M) (r0 : 0 ≤ r) (q1 : r < (C.1 0 1 0 0)) (p0 : 0 ≤ p) (p1 : p < (C.1 16 6 r 0)) : sm (fun j => (((spM M r p)).1 50 0 0 j)) (60 * r) (60 * r + 60) = (addS C r p).1 16 7 r 0 := by
  have rc := hR.rc
  have hd := hR.rd r r0 q1
  have fb := hd.fc
  have hk := (hd.keepS p0 p1).sn
  rw [hk]
  have := sm_shift (fun j => (((spM M r p)).1 50 0 0 j)) (60 * r) (lo := 0) (hi := 60)
  rw [show 60 * r + 0 = 60 * r by omega] at this
  rw [← this]
  refine sm_c (fun k k0 k1 => ?_)
  show (spM M r p).1 50 0 0 (60 * r + k) = bI ((addS C r p).1 19 0 r k ≠ 0)
  rw [addS_19 (hd.sp p p0 (by omega))]
  unfold spM
  rw [setI_1]
  by_cases e : k = p
  · rw [if_pos ⟨rfl, rfl, rfl, by omega⟩, if_pos e, bI_t (by decide)]
  · rw [if_neg (by omega), if_neg e, hR.fs r k r0 (by omega) k0 k1]
    rcases hd.sp k k0 k1 with z | z
    · rw [z, bI_f (by decide)]
    · rw [z, bI_t (by decide)]
theorem CpM.step {M0 M : Mem} {c r n : Int} (h : CpM M0 c r n M) (hr : r < c) (n0 : 0 ≤ n) (n1 : n < 60) : CpM M0 c r (n + 1) (setI (setL (setI M 48 0 0 (60 * c + n) (M.1 48 0 0 (60 * r + n))) 49 0 0 (60 * c + n) (M.2 49 0 0 (60 * r + n))) 50 0 0 (60 * c + n) (M.1 50 0 0 (60 * r + n))) := by
  obtain ⟨h1, h2, h3⟩ := h
  obtain ⟨e1, e2, e3⟩ := h2 (60 * r + n) (by omega)
  have sI : ∀ (k : Nat), k = 48 ∨ k = 50 → ∀ j, (setI (setL (setI M 48 0 0 (60 * c + n) (M.1 48 0 0 (60 * r + n))) 49 0 0 (60 * c + n) (M.2 49 0 0 (60 * r + n))) 50 0 0 (60 * c + n) (M.1 50 0 0 (60 * r + n))).1 k 0 0 j = if j = 60 * c + n then M.1 k 0 0 (60 * r + n) else M.1 k 0 0 j := by
    intro k hk j
    rcases hk with q | q <;> subst q <;> simp [setI_1, setL_1]
  have sL : ∀ j, (setI (setL (setI M 48 0 0 (60 * c + n) (M.1 48 0 0 (60 * r + n))) 49 0 0 (60 * c + n) (M.2 49 0 0 (60 * r + n))) 50 0 0 (60 * c + n) (M.1 50 0 0 (60 * r + n))).2 49 0 0 j = if j = 60 * c + n then M.2 49 0 0 (60 * r + n) else M.2 49 0 0 j := by
    intro j
    simp [setI_2, setL_2]
  refine ⟨((h1.setI rfl).setL rfl).setI rfl, fun j hj => ?_, fun j j0 j1 => ?_⟩
  · rw [sI 48 (Or.inl rfl), sI 50 (Or.inr rfl), sL, if_neg (by omega), if_neg (by omega), if_neg (by omega)]
    exact h2 j (by omega)
  · rw [sI 48 (Or.inl rfl), sI 50 (Or.inr rfl), sL]
    by_cases e : j = n
    · rw [if_pos (by omega), if_pos (by omega), if_pos (by omega), e]; exact ⟨e1, e2, e3⟩
    · rw [if_neg (by omega), if_neg (by omega), if_neg (by omega)]; exact h3 j j0 (by omega)
set_option maxRecDepth 100000 in
set_option maxHeartbeats 4000000 in
theorem c_X12_adds {δ : Dx} {nm : List (Nat × Int)} {ad : Ad} {M : Mem} {b y l g d : Int} (hN : NmOk nm) (m0 : 0 ≤ (M.1 40 10 0 0) ∧ (M.1 40 10 0 0) < 12) (rb : rng b) (ry : rng y) (rl : rng l) (rg : rng g) (rd : rng d) : Ct δ md_X12_adds 0 0 nm ad M [.ref (ad 40 0), .int (iI b), .int (iI y), .int (iI l), .int (iI g), .int (iI d)] (pV (.int (iI (M.1 40 10 0 0))) ad (addsM M b y l g d)) := by
  refine Ct_of (ins := .ireturn) (ok := okI) [some (.ref (ad 40 0)), some (.int (iI b)), some (.int (iI y)), some (.int (iI l)), some (.int (iI g)), some (.int (iI d))] (by decide +kernel) rfl (Nat.le_of_ble_eq_true rfl) (fun κ s hs X hr hQ hδ => endI rfl hs X hr hQ hδ) (fun κ X hNL hδ Y => ?_)
  refine g_rm (fun hM => ?_)
  refine g_aload_n X dX12_adds_0 rfl rfl ?_
  refine g_get X ci12 (n40 hN) (en40 _ _ _ _) (by decide) fl_X12_7 rfl dX12_adds_1 rfl ?_
  refine g_aload_n X dX12_adds_4 rfl rfl ?_
  refine g_getI X ci12 (n40 hN) (en40 _ _ _ _) (by decide) fl_X12_143 rfl dX12_adds_5 rfl (fun r5 => ?_)
  refine g_iload_n X dX12_adds_8 rfl rfl ?_
  refine g_iast X (n41 hN) (en41 _ _ _ _) (en41 _ _ _ _) (t0 := 0) rfl (by omega) (by omega) (by decide) (by omega) dX12_adds_9 rfl ?_
  refine g_aload_n X dX12_adds_10 rfl rfl ?_
  refine g_get X ci12 (n40 hN) (en40 _ _ _ _) (by decide) fl_X12_13 rfl dX12_adds_11 rfl ?_
  refine g_aload_n X dX12_adds_14 rfl rfl ?_
  refine g_getI X ci12 (n40 hN) (en40 _ _ _ _) (by decide) fl_X12_143 rfl dX12_adds_15 rfl (fun r15 => ?_)
  refine g_int (b := M.1 40 10 0 0) rfl ?_
  have r15x := hM 40 10 0 0
  refine g_iload_n X dX12_adds_18 rfl rfl ?_
  refine g_iast X (n42 hN) (en42 _ _ _ _) (en42 _ _ _ _) (t0 := 0) rfl (by first | omega | (simp only [setI_1, setL_1, setI_2, setL_2]; omega) | (simp only [setI_1, setL_1, setI_2, setL_2]; simp; omega)) (by first | omega | (simp only [setI_1, setL_1, setI_2, setL_2]; omega) | (simp only [setI_1, setL_1, setI_2, setL_2]; simp; omega)) (by decide) (by first | omega | (simp only [setI_1, setL_1, setI_2, setL_2]; omega) | (simp only [setI_1, setL_1, setI_2, setL_2]; simp; omega)) dX12_adds_19 rfl ?_
  refine g_aload_n X dX12_adds_20 rfl rfl ?_
  refine g_get X ci12 (n40 hN) (en40 _ _ _ _) (by decide) fl_X12_16 rfl dX12_adds_21 rfl ?_
  refine g_aload_n X dX12_adds_24 rfl rfl ?_
  refine g_getI X ci12 (n40 hN) (en40 _ _ _ _) (by decide) fl_X12_143 rfl dX12_adds_25 rfl (fun r25 => ?_)
  refine g_int (b := M.1 40 10 0 0) rfl ?_
  have r25x := hM 40 10 0 0
  refine g_iload_n X dX12_adds_28 rfl rfl ?_
  refine g_iast X (n43 hN) (en43 _ _ _ _) (en43 _ _ _ _) (t0 := 0) rfl (by first | omega | (simp only [setI_1, setL_1, setI_2, setL_2]; omega) | (simp only [setI_1, setL_1, setI_2, setL_2]; simp; omega)) (by first | omega | (simp only [setI_1, setL_1, setI_2, setL_2]; omega) | (simp only [setI_1, setL_1, setI_2, setL_2]; simp; omega)) (by decide) (by first | omega | (simp only [setI_1, setL_1, setI_2, setL_2]; omega) | (simp only [setI_1, setL_1, setI_2, setL_2]; simp; omega)) dX12_adds_29 rfl ?_
  refine g_aload_n X dX12_adds_30 rfl rfl ?_
  refine g_get X ci12 (n40 hN) (en40 _ _ _ _) (by decide) fl_X12_19 rfl dX12_adds_31 rfl ?_
  refine g_aload_n X dX12_adds_34 rfl rfl ?_
  refine g_getI X ci12 (n40 hN) (en40 _ _ _ _) (by decide) fl_X12_143 rfl dX12_adds_35 rfl (fun r35 => ?_)
  refine g_int (b := M.1 40 10 0 0) rfl ?_
  have r35x := hM 40 10 0 0
  refine g_iload X dX12_adds_38 rfl rfl ?_
  refine g_iast X (n44 hN) (en44 _ _ _ _) (en44 _ _ _ _) (t0 := 0) rfl (by first | omega | (simp only [setI_1, setL_1, setI_2, setL_2]; omega) | (simp only [setI_1, setL_1, setI_2, setL_2]; simp; omega)) (by first | omega | (simp only [setI_1, setL_1, setI_2, setL_2]; omega) | (simp only [setI_1, setL_1, setI_2, setL_2]; simp; omega)) (by decide) (by first | omega | (simp only [setI_1, setL_1, setI_2, setL_2]; omega) | (simp only [setI_1, setL_1, setI_2, setL_2]; simp; omega)) dX12_adds_40 rfl ?_
  refine g_aload_n X dX12_adds_41 rfl rfl ?_
  refine g_get X ci12 (n40 hN) (en40 _ _ _ _) (by decide) fl_X12_22 rfl dX12_adds_42 rfl ?_
  refine g_aload_n X dX12_adds_45 rfl rfl ?_
  refine g_getI X ci12 (n40 hN) (en40 _ _ _ _) (by decide) fl_X12_143 rfl dX12_adds_46 rfl (fun r46 => ?_)
  refine g_int (b := M.1 40 10 0 0) rfl ?_
  have r46x := hM 40 10 0 0
  refine g_iload X dX12_adds_49 rfl rfl ?_
  refine g_iast X (n45 hN) (en45 _ _ _ _) (en45 _ _ _ _) (t0 := 0) rfl (by first | omega | (simp only [setI_1, setL_1, setI_2, setL_2]; omega) | (simp only [setI_1, setL_1, setI_2, setL_2]; simp; omega)) (by first | omega | (simp only [setI_1, setL_1, setI_2, setL_2]; omega) | (simp only [setI_1, setL_1, setI_2, setL_2]; simp; omega)) (by decide) (by first | omega | (simp only [setI_1, setL_1, setI_2, setL_2]; omega) | (simp only [setI_1, setL_1, setI_2, setL_2]; simp; omega)) dX12_adds_51 rfl ?_
  refine g_aload_n X dX12_adds_52 rfl rfl ?_
  refine g_dup X dX12_adds_53 rfl rfl ?_
  refine g_getI X ci12 (n40 hN) (en40 _ _ _ _) (by decide) fl_X12_143 rfl dX12_adds_54 rfl (fun r54 => ?_)
  refine g_int (b := M.1 40 10 0 0) rfl ?_
  have r54x := hM 40 10 0 0
  refine g_iconst X dX12_adds_57 rfl ?_
  refine g_iadd X dX12_adds_58 rfl ?_
  refine g_putI X ci12 (n40 hN) (en40 _ _ _ _) (ep40_10 _ _ _ _ _) (by first | omega | (simp only [setI_1, setL_1, setI_2, setL_2]; omega) | (simp only [setI_1, setL_1, setI_2, setL_2]; simp; omega)) (by decide) rfl rfl rfl (Nat.le_of_ble_eq_true rfl) fl_X12_143 dX12_adds_59 rfl ?_
  refine g_aload_n X dX12_adds_62 rfl rfl ?_
  refine g_getI X ci12 (n40 hN) (en40 _ _ _ _) (by decide) fl_X12_143 rfl dX12_adds_63 rfl (fun r63 => ?_)
  refine g_int (b := (M.1 40 10 0 0) + 1) (by simp [setI_1, setI_2, setL_1, setL_2]) ?_
  refine g_iconst X dX12_adds_66 rfl ?_
  refine g_isub X dX12_adds_67 rfl ?_
  exact g_ret Y dX12_adds_68 ⟨_, rfl⟩ (pVI (by first | rfl | omega))
set_option maxRecDepth 100000 in
set_option maxHeartbeats 4000000 in
theorem c_X12_reel {δ : Dx} {nm : List (Nat × Int)} {ad : Ad} {M : Mem} {C : Mem} {b y l p d : Int} (hN : NmOk nm) (hR : RelR C M) (rb : rng b) (ry : rng y) (rl : rng l) (rp : rng p) (rd : rng d) : Ct δ md_X12_reel 0 0 nm ad M [.ref (ad 40 0), .int (iI b), .int (iI y), .int (iI l), .int (iI p), .int (iI d)] (pRf (if ¬ (p = -1 ∨ (0 ≤ p ∧ p < (C.1 0 1 0 0))) then 1 else if ¬ ((0 ≤ b ∧ b ≤ 1) ∧ (1890 ≤ y ∧ y ≤ 2000) ∧ (0 ≤ l ∧ l ≤ 3) ∧ (0 ≤ d ∧ d ≤ 299)) then 2 else if (C.1 0 1 0 0) = 12 then 3 else 0) (.int (iI (-1))) (.int (iI (C.1 0 1 0 0))) ad M (fun M' => M' = addsM (setI M 40 46 0 0 0) b y l (if p < 0 then 0 else (C.1 16 3 p 0) + 1) d)) := by
  refine Ct_of (ins := .ireturn) (ok := okI) [some (.ref (ad 40 0)), some (.int (iI b)), some (.int (iI y)), some (.int (iI l)), some (.int (iI p)), some (.int (iI d)), none, none] (by decide +kernel) rfl (Nat.le_of_ble_eq_true rfl) (fun κ s hs X hr hQ hδ => endI rfl hs X hr hQ hδ) (fun κ X hNL hδ Y => ?_)
  refine g_rm (fun hM => ?_)
  have rc := hR.rc
  have he := hR.e
  refine g_cutB 20 (p = -1 ∨ (0 ≤ p ∧ p < (C.1 0 1 0 0))) (fun ct0 cf0 => ?_) ?_
  · skip
    refine g_iload X dX12_reel_0 rfl rfl ?_
    refine g_iconst X dX12_reel_2 rfl ?_
    refine g_icmp_eq (tgt := 15) X dX12_reel_3 rfl rfl (by omega) (by omega) (fun h3 => ?_) (fun h3 => ?_)
    · skip
      refine g_iconst X dX12_reel_15 rfl ?_
      refine g_goto (pc' := 20) X dX12_reel_16 rfl ?_
      exact ct0 (by omega)
    · skip
      refine g_aload_n X dX12_reel_6 rfl rfl ?_
      refine g_iload X dX12_reel_7 rfl rfl ?_
      refine g_iV1_v X w_X12_isReel ml_X12_154 dX12_reel_9 rfl (n40 hN) (en40 _ _ _ _) ⟨⟨Nat.le_of_ble_eq_true rfl, Nat.le_of_ble_eq_true rfl⟩, Nat.le_of_ble_eq_true rfl, Nat.le_of_ble_eq_true rfl⟩ (Nat.le_of_ble_eq_true rfl) (c_X12_isReel hN (by omega) (by omega)) ?_
      refine g_ifB_eq (tgt := 19) X dX12_reel_12 rfl rfl (fun h12 => ?_) (fun h12 => ?_)
      · skip
        refine g_iconst X dX12_reel_19 rfl ?_
        exact cf0 (by omega)
      · skip
        refine g_iconst X dX12_reel_15 rfl ?_
        refine g_goto (pc' := 20) X dX12_reel_16 rfl ?_
        exact ct0 (by omega)
  · skip
    refine g_istore_6 X dX12_reel_20 rfl (lt_kN hNL rfl) rfl ?_
    refine g_cutB 74 ((0 ≤ b ∧ b ≤ 1) ∧ (1890 ≤ y ∧ y ≤ 2000) ∧ (0 ≤ l ∧ l ≤ 3) ∧ (0 ≤ d ∧ d ≤ 299)) (fun ct22 cf22 => ?_) ?_
    · skip
      refine g_aload_n X dX12_reel_22 rfl rfl ?_
      refine g_iload_n X dX12_reel_23 rfl rfl ?_
      refine g_iconst X dX12_reel_24 rfl ?_
      refine g_iconst X dX12_reel_25 rfl ?_
      refine g_iV3_v X w_X12_in ml_X12_146 dX12_reel_26 rfl (n40 hN) (en40 _ _ _ _) ⟨⟨Nat.le_of_ble_eq_true rfl, Nat.le_of_ble_eq_true rfl⟩, Nat.le_of_ble_eq_true rfl, Nat.le_of_ble_eq_true rfl⟩ (Nat.le_of_ble_eq_true rfl) (c_X12_in hN (by omega) (by omega) (by omega)) ?_
      refine g_ifB_eq (tgt := 73) X dX12_reel_29 rfl rfl (fun h29 => ?_) (fun h29 => ?_)
      · skip
        refine g_iconst X dX12_reel_73 rfl ?_
        exact cf22 (by omega)
      · skip
        refine g_aload_n X dX12_reel_32 rfl rfl ?_
        refine g_iload_n X dX12_reel_33 rfl rfl ?_
        refine g_sipush X dX12_reel_34 rfl (by decide) ?_
        refine g_sipush X dX12_reel_37 rfl (by decide) ?_
        refine g_iV3_v X w_X12_in ml_X12_146 dX12_reel_40 rfl (n40 hN) (en40 _ _ _ _) ⟨⟨Nat.le_of_ble_eq_true rfl, Nat.le_of_ble_eq_true rfl⟩, Nat.le_of_ble_eq_true rfl, Nat.le_of_ble_eq_true rfl⟩ (Nat.le_of_ble_eq_true rfl) (c_X12_in hN (by omega) (by omega) (by omega)) ?_
        refine g_ifB_eq (tgt := 73) X dX12_reel_43 rfl rfl (fun h43 => ?_) (fun h43 => ?_)
        · skip
          refine g_iconst X dX12_reel_73 rfl ?_
          exact cf22 (by omega)
        · skip
          refine g_aload_n X dX12_reel_46 rfl rfl ?_
          refine g_iload_n X dX12_reel_47 rfl rfl ?_
          refine g_iconst X dX12_reel_48 rfl ?_
          refine g_iconst X dX12_reel_49 rfl ?_
          refine g_iV3_v X w_X12_in ml_X12_146 dX12_reel_50 rfl (n40 hN) (en40 _ _ _ _) ⟨⟨Nat.le_of_ble_eq_true rfl, Nat.le_of_ble_eq_true rfl⟩, Nat.le_of_ble_eq_true rfl, Nat.le_of_ble_eq_true rfl⟩ (Nat.le_of_ble_eq_true rfl) (c_X12_in hN (by omega) (by omega) (by omega)) ?_
          refine g_ifB_eq (tgt := 73) X dX12_reel_53 rfl rfl (fun h53 => ?_) (fun h53 => ?_)
          · skip
            refine g_iconst X dX12_reel_73 rfl ?_
            exact cf22 (by omega)
          · skip
            refine g_aload_n X dX12_reel_56 rfl rfl ?_
            refine g_iload X dX12_reel_57 rfl rfl ?_
            refine g_iconst X dX12_reel_59 rfl ?_
            refine g_sipush X dX12_reel_60 rfl (by decide) ?_
            refine g_iV3_v X w_X12_in ml_X12_146 dX12_reel_63 rfl (n40 hN) (en40 _ _ _ _) ⟨⟨Nat.le_of_ble_eq_true rfl, Nat.le_of_ble_eq_true rfl⟩, Nat.le_of_ble_eq_true rfl, Nat.le_of_ble_eq_true rfl⟩ (Nat.le_of_ble_eq_true rfl) (c_X12_in hN (by omega) (by omega) (by omega)) ?_
            refine g_ifB_eq (tgt := 73) X dX12_reel_66 rfl rfl (fun h66 => ?_) (fun h66 => ?_)
            · skip
              refine g_iconst X dX12_reel_73 rfl ?_
              exact cf22 (by omega)
            · skip
              refine g_iconst X dX12_reel_69 rfl ?_
              refine g_goto (pc' := 74) X dX12_reel_70 rfl ?_
              exact ct22 (by omega)
    · skip
      refine g_istore_7 X dX12_reel_74 rfl (lt_kN hNL rfl) rfl ?_
      refine g_aload_n X dX12_reel_76 rfl rfl ?_
      refine g_cutI 109 (if ¬ (p = -1 ∨ (0 ≤ p ∧ p < (C.1 0 1 0 0))) then 1 else if ¬ ((0 ≤ b ∧ b ≤ 1) ∧ (1890 ≤ y ∧ y ≤ 2000) ∧ (0 ≤ l ∧ l ≤ 3) ∧ (0 ≤ d ∧ d ≤ 299)) then 2 else if (C.1 0 1 0 0) = 12 then 3 else 0) (fun ci77 => ?_) ?_
      · skip
        refine g_iload X dX12_reel_77 rfl rfl ?_
        refine g_ifB_ne (tgt := 86) X dX12_reel_79 rfl rfl (fun h79 => ?_) (fun h79 => ?_)
        · skip
          refine g_iload X dX12_reel_86 rfl rfl ?_
          refine g_ifB_ne (tgt := 95) X dX12_reel_88 rfl rfl (fun h88 => ?_) (fun h88 => ?_)
          · skip
            refine g_aload_n X dX12_reel_95 rfl rfl ?_
            refine g_getI X ci12 (n40 hN) (en40 _ _ _ _) (by decide) fl_X12_143 rfl dX12_reel_96 rfl (fun r96 => ?_)
            refine g_bipush X dX12_reel_99 rfl (by decide) ?_
            refine g_icmp_ne (tgt := 108) X dX12_reel_101 rfl rfl (by omega) (by omega) (fun h101 => ?_) (fun h101 => ?_)
            · skip
              refine g_iconst X dX12_reel_108 rfl ?_
              exact ci77 _ (by omega)
            · skip
              refine g_iconst X dX12_reel_104 rfl ?_
              refine g_goto (pc' := 109) X dX12_reel_105 rfl ?_
              exact ci77 _ (by omega)
          · skip
            refine g_iconst X dX12_reel_91 rfl ?_
            refine g_goto (pc' := 109) X dX12_reel_92 rfl ?_
            exact ci77 _ (by omega)
        · skip
          refine g_iconst X dX12_reel_82 rfl ?_
          refine g_goto (pc' := 109) X dX12_reel_83 rfl ?_
          exact ci77 _ (by omega)
      · skip
        refine g_iV1_v X w_X12_holds ml_X12_158 dX12_reel_109 rfl (n40 hN) (en40 _ _ _ _) ⟨⟨Nat.le_of_ble_eq_true rfl, Nat.le_of_ble_eq_true rfl⟩, Nat.le_of_ble_eq_true rfl, Nat.le_of_ble_eq_true rfl⟩ (Nat.le_of_ble_eq_true rfl) (c_X12_holds hN (by omega)) ?_
        refine g_ifB_eq (tgt := 117) X dX12_reel_112 rfl rfl (fun h112 => ?_) (fun h112 => ?_)
        · skip
          have w0 : (if ¬ (p = -1 ∨ (0 ≤ p ∧ p < (C.1 0 1 0 0))) then 1 else if ¬ ((0 ≤ b ∧ b ≤ 1) ∧ (1890 ≤ y ∧ y ≤ 2000) ∧ (0 ≤ l ∧ l ≤ 3) ∧ (0 ≤ d ∧ d ≤ 299)) then 2 else if (C.1 0 1 0 0) = 12 then 3 else 0 : Int) = 0 := by omega
          rw [w0]
          refine g_aload_n X dX12_reel_117 rfl rfl ?_
          refine g_iload_n X dX12_reel_118 rfl rfl ?_
          refine g_iload_n X dX12_reel_119 rfl rfl ?_
          refine g_iload_n X dX12_reel_120 rfl rfl ?_
          refine g_cutI 139 (if p < 0 then 0 else (C.1 16 3 p 0) + 1) (fun ci121 => ?_) ?_
          · skip
            refine g_iload X dX12_reel_121 rfl rfl ?_
            refine g_if_ge (tgt := 130) X dX12_reel_123 rfl rfl (by first | omega | (simp only [setI_1, setL_1, setI_2, setL_2]; omega) | (simp only [setI_1, setL_1, setI_2, setL_2]; simp; omega)) (fun h123 => ?_) (fun h123 => ?_)
            · skip
              have mi := hR.mi p (by omega) (by omega)
              have gn := hR.gn p (by omega) (by omega)
              refine g_aload_n X dX12_reel_130 rfl rfl ?_
              refine g_get X ci12 (n40 hN) (en40 _ _ _ _) (by decide) fl_X12_19 rfl dX12_reel_131 rfl ?_
              refine g_iload X dX12_reel_134 rfl rfl ?_
              refine g_iald X dX12_reel_136 rfl (n44 hN) (en44 _ _ _ _) (t0 := 0) rfl (by first | omega | (simp only [setI_1, setL_1, setI_2, setL_2]; omega) | (simp only [setI_1, setL_1, setI_2, setL_2]; simp; omega)) (by first | omega | (simp only [setI_1, setL_1, setI_2, setL_2]; omega) | (simp only [setI_1, setL_1, setI_2, setL_2]; simp; omega)) (by decide) (fun r136 => ?_)
              refine g_int (b := M.1 44 0 0 p) rfl ?_
              have r136x := hM 44 0 0 p
              refine g_iconst X dX12_reel_137 rfl ?_
              refine g_iadd X dX12_reel_138 rfl ?_
              have gg : rng (if p < 0 then 0 else (C.1 16 3 p 0) + 1) := by
                by_cases z : p < 0
                · rw [if_pos z]; decide
                · have gn := hR.gn p (by omega) (by omega)
                  constructor <;> omega
              exact ci121 _ (by omega)
            · skip
              refine g_iconst X dX12_reel_126 rfl ?_
              refine g_goto (pc' := 139) X dX12_reel_127 rfl ?_
              have gg : rng (if p < 0 then 0 else (C.1 16 3 p 0) + 1) := by
                by_cases z : p < 0
                · rw [if_pos z]; decide
                · have gn := hR.gn p (by omega) (by omega)
                  constructor <;> omega
              exact ci121 _ (by omega)
          · skip
            have gg : rng (if p < 0 then 0 else (C.1 16 3 p 0) + 1) := by
              by_cases z : p < 0
              · rw [if_pos z]; decide
              · have gn := hR.gn p (by omega) (by omega)
                constructor <;> omega
            refine g_iload X dX12_reel_139 rfl rfl ?_
            refine g_iV5_v X w_X12_adds ml_X12_161 dX12_reel_141 rfl (n40 hN) (en40 _ _ _ _) ⟨⟨Nat.le_of_ble_eq_true rfl, Nat.le_of_ble_eq_true rfl⟩, Nat.le_of_ble_eq_true rfl, Nat.le_of_ble_eq_true rfl⟩ (Nat.le_of_ble_eq_true rfl) (c_X12_adds hN (by show 0 ≤ (M.1 40 10 0 0) ∧ (M.1 40 10 0 0) < 12; omega) (by assumption) (by assumption) (by assumption) gg (by assumption)) ?_
            refine g_int (b := (C.1 0 1 0 0)) (show (M.1 40 10 0 0) = (C.1 0 1 0 0) by omega) ?_
            exact g_ret Y dX12_reel_144 ⟨_, rfl⟩ (pRo w0 rfl)
        · skip
          refine g_iconst X dX12_reel_115 rfl ?_
          exact g_ret Y dX12_reel_116 ⟨_, rfl⟩ (pRx (by assumption))
set_option maxRecDepth 100000 in
set_option maxHeartbeats 4000000 in
theorem c_X12_frame {δ : Dx} {nm : List (Nat × Int)} {ad : Ad} {M : Mem} {C : Mem} {r c a b : Int} (hN : NmOk nm) (hR : RelR C M) (rr : rng r) (rc : rng c) (ra : rng a) (rb : rng b) : Ct δ md_X12_frame 0 0 nm ad M [.ref (ad 40 0), .int (iI r), .int (iI c), .int (iI a), .int (iI b)] (pRf (if ¬ (0 ≤ r ∧ r < (C.1 0 1 0 0)) then 1 else if ¬ (0 ≤ c ∧ c ≤ 999) then 2 else if (C.1 16 6 r 0) = 60 then 3 else 0) (.int (iI (-1))) (.int (iI ((C.1 16 6 r 0) + 1))) ad M (fun M' => M' = frM (setI M 40 46 0 0 0) r c (twoI a b))) := by
  refine Ct_of (ins := .ireturn) (ok := okI) [some (.ref (ad 40 0)), some (.int (iI r)), some (.int (iI c)), some (.int (iI a)), some (.int (iI b)), none] (by decide +kernel) rfl (Nat.le_of_ble_eq_true rfl) (fun κ s hs X hr hQ hδ => endI rfl hs X hr hQ hδ) (fun κ X hNL hδ Y => ?_)
  refine g_rm (fun hM => ?_)
  have rc := hR.rc
  have he := hR.e
  refine g_aload_n X dX12_frame_0 rfl rfl ?_
  refine g_cutI 45 (if ¬ (0 ≤ r ∧ r < (C.1 0 1 0 0)) then 1 else if ¬ (0 ≤ c ∧ c ≤ 999) then 2 else if (C.1 16 6 r 0) = 60 then 3 else 0) (fun ci1 => ?_) ?_
  · skip
    refine g_aload_n X dX12_frame_1 rfl rfl ?_
    refine g_iload_n X dX12_frame_2 rfl rfl ?_
    refine g_iV1_v X w_X12_isReel ml_X12_154 dX12_frame_3 rfl (n40 hN) (en40 _ _ _ _) ⟨⟨Nat.le_of_ble_eq_true rfl, Nat.le_of_ble_eq_true rfl⟩, Nat.le_of_ble_eq_true rfl, Nat.le_of_ble_eq_true rfl⟩ (Nat.le_of_ble_eq_true rfl) (c_X12_isReel hN (by omega) (by omega)) ?_
    refine g_ifB_ne (tgt := 13) X dX12_frame_6 rfl rfl (fun h6 => ?_) (fun h6 => ?_)
    · skip
      refine g_aload_n X dX12_frame_13 rfl rfl ?_
      refine g_iload_n X dX12_frame_14 rfl rfl ?_
      refine g_iconst X dX12_frame_15 rfl ?_
      refine g_sipush X dX12_frame_16 rfl (by decide) ?_
      refine g_iV3_v X w_X12_in ml_X12_146 dX12_frame_19 rfl (n40 hN) (en40 _ _ _ _) ⟨⟨Nat.le_of_ble_eq_true rfl, Nat.le_of_ble_eq_true rfl⟩, Nat.le_of_ble_eq_true rfl, Nat.le_of_ble_eq_true rfl⟩ (Nat.le_of_ble_eq_true rfl) (c_X12_in hN (by omega) (by omega) (by omega)) ?_
      refine g_ifB_ne (tgt := 29) X dX12_frame_22 rfl rfl (fun h22 => ?_) (fun h22 => ?_)
      · skip
        have mi := hR.mi r (by omega) (by omega)
        have hd := hR.rd r (by omega) (by omega)
        have fb := hd.fc
        refine g_aload_n X dX12_frame_29 rfl rfl ?_
        refine g_get X ci12 (n40 hN) (en40 _ _ _ _) (by decide) fl_X12_28 rfl dX12_frame_30 rfl ?_
        refine g_iload_n X dX12_frame_33 rfl rfl ?_
        refine g_iald X dX12_frame_34 rfl (n47 hN) (en47 _ _ _ _) (t0 := 0) rfl (by omega) (by omega) (by decide) (fun r34 => ?_)
        refine g_bipush X dX12_frame_35 rfl (by decide) ?_
        refine g_icmp_ne (tgt := 44) X dX12_frame_37 rfl rfl (by omega) (by omega) (fun h37 => ?_) (fun h37 => ?_)
        · skip
          refine g_iconst X dX12_frame_44 rfl ?_
          exact ci1 _ (by omega)
        · skip
          refine g_iconst X dX12_frame_40 rfl ?_
          refine g_goto (pc' := 45) X dX12_frame_41 rfl ?_
          exact ci1 _ (by omega)
      · skip
        refine g_iconst X dX12_frame_25 rfl ?_
        refine g_goto (pc' := 45) X dX12_frame_26 rfl ?_
        exact ci1 _ (by omega)
    · skip
      refine g_iconst X dX12_frame_9 rfl ?_
      refine g_goto (pc' := 45) X dX12_frame_10 rfl ?_
      exact ci1 _ (by omega)
  · skip
    refine g_iV1_v X w_X12_holds ml_X12_158 dX12_frame_45 rfl (n40 hN) (en40 _ _ _ _) ⟨⟨Nat.le_of_ble_eq_true rfl, Nat.le_of_ble_eq_true rfl⟩, Nat.le_of_ble_eq_true rfl, Nat.le_of_ble_eq_true rfl⟩ (Nat.le_of_ble_eq_true rfl) (c_X12_holds hN (by omega)) ?_
    refine g_ifB_eq (tgt := 53) X dX12_frame_48 rfl rfl (fun h48 => ?_) (fun h48 => ?_)
    · skip
      have w0 : (if ¬ (0 ≤ r ∧ r < (C.1 0 1 0 0)) then 1 else if ¬ (0 ≤ c ∧ c ≤ 999) then 2 else if (C.1 16 6 r 0) = 60 then 3 else 0 : Int) = 0 := by omega
      rw [w0]
      have mi := hR.mi r (by omega) (by omega)
      have hd := hR.rd r (by omega) (by omega)
      have fb := hd.fc
      refine g_bipush X dX12_frame_53 rfl (by decide) ?_
      refine g_iload_n X dX12_frame_55 rfl rfl ?_
      refine g_imul X dX12_frame_56 rfl ?_
      refine g_aload_n X dX12_frame_57 rfl rfl ?_
      refine g_get X ci12 (n40 hN) (en40 _ _ _ _) (by decide) fl_X12_28 rfl dX12_frame_58 rfl ?_
      refine g_iload_n X dX12_frame_61 rfl rfl ?_
      refine g_iald X dX12_frame_62 rfl (n47 hN) (en47 _ _ _ _) (t0 := 0) rfl (by first | omega | (simp only [setI_1, setL_1, setI_2, setL_2]; omega) | (simp only [setI_1, setL_1, setI_2, setL_2]; simp; omega)) (by first | omega | (simp only [setI_1, setL_1, setI_2, setL_2]; omega) | (simp only [setI_1, setL_1, setI_2, setL_2]; simp; omega)) (by decide) (fun r62 => ?_)
      refine g_int (b := M.1 47 0 0 r) rfl ?_
      have r62x := hM 47 0 0 r
      refine g_iadd X dX12_frame_63 rfl ?_
      refine g_istore_5 X dX12_frame_64 rfl (lt_kN hNL rfl) rfl ?_
      refine g_aload_n X dX12_frame_66 rfl rfl ?_
      refine g_get X ci12 (n40 hN) (en40 _ _ _ _) (by decide) fl_X12_31 rfl dX12_frame_67 rfl ?_
      refine g_iload X dX12_frame_70 rfl rfl ?_
      refine g_iload_n X dX12_frame_72 rfl rfl ?_
      refine g_iast X (n48 hN) (en48 _ _ _ _) (en48 _ _ _ _) (t0 := 0) rfl (by first | omega | (simp only [setI_1, setL_1, setI_2, setL_2]; omega) | (simp only [setI_1, setL_1, setI_2, setL_2]; simp; omega)) (by first | omega | (simp only [setI_1, setL_1, setI_2, setL_2]; omega) | (simp only [setI_1, setL_1, setI_2, setL_2]; simp; omega)) (by decide) (by first | omega | (simp only [setI_1, setL_1, setI_2, setL_2]; omega) | (simp only [setI_1, setL_1, setI_2, setL_2]; simp; omega)) dX12_frame_73 rfl ?_
      refine g_aload_n X dX12_frame_74 rfl rfl ?_
      refine g_get X ci12 (n40 hN) (en40 _ _ _ _) (by decide) fl_X12_34 rfl dX12_frame_75 rfl ?_
      refine g_iload X dX12_frame_78 rfl rfl ?_
      refine g_iload X dX12_frame_80 rfl rfl ?_
      refine g_i2l X dX12_frame_82 rfl ?_
      refine g_bipush X dX12_frame_83 rfl (by decide) ?_
      refine g_lshl X dX12_frame_85 rfl ?_
      refine g_iload_n X dX12_frame_86 rfl rfl ?_
      refine g_i2l X dX12_frame_87 rfl ?_
      refine g_ldc2 X dX12_frame_88 rfl kc_X12_165 ?_
      refine g_land X dX12_frame_91 rfl ?_
      refine g_lor X dX12_frame_92 rfl ?_
      refine g_last X (n49 hN) (en49 _ _ _ _) (en49 _ _ _ _) (t0 := 1) rfl (by first | omega | (simp only [setI_1, setL_1, setI_2, setL_2]; omega) | (simp only [setI_1, setL_1, setI_2, setL_2]; simp; omega)) (by first | omega | (simp only [setI_1, setL_1, setI_2, setL_2]; omega) | (simp only [setI_1, setL_1, setI_2, setL_2]; simp; omega)) (by decide) dX12_frame_93 rfl ?_
      refine g_aload_n X dX12_frame_94 rfl rfl ?_
      refine g_get X ci12 (n40 hN) (en40 _ _ _ _) (by decide) fl_X12_28 rfl dX12_frame_95 rfl ?_
      refine g_iload_n X dX12_frame_98 rfl rfl ?_
      refine g_dup2 X dX12_frame_99 rfl rfl rfl ?_
      refine g_iald X dX12_frame_100 rfl (n47 hN) (en47 _ _ _ _) (t0 := 0) rfl (by first | omega | (simp only [setI_1, setL_1, setI_2, setL_2]; omega) | (simp only [setI_1, setL_1, setI_2, setL_2]; simp; omega)) (by first | omega | (simp only [setI_1, setL_1, setI_2, setL_2]; omega) | (simp only [setI_1, setL_1, setI_2, setL_2]; simp; omega)) (by decide) (fun r100 => ?_)
      refine g_int (b := M.1 47 0 0 r) rfl ?_
      have r100x := hM 47 0 0 r
      refine g_iconst X dX12_frame_101 rfl ?_
      refine g_iadd X dX12_frame_102 rfl ?_
      refine g_iast X (n47 hN) (en47 _ _ _ _) (en47 _ _ _ _) (t0 := 0) rfl (by first | omega | (simp only [setI_1, setL_1, setI_2, setL_2]; omega) | (simp only [setI_1, setL_1, setI_2, setL_2]; simp; omega)) (by first | omega | (simp only [setI_1, setL_1, setI_2, setL_2]; omega) | (simp only [setI_1, setL_1, setI_2, setL_2]; simp; omega)) (by decide) (by first | omega | (simp only [setI_1, setL_1, setI_2, setL_2]; omega) | (simp only [setI_1, setL_1, setI_2, setL_2]; simp; omega)) dX12_frame_103 rfl ?_
      refine g_aload_n X dX12_frame_104 rfl rfl ?_
      refine g_get X ci12 (n40 hN) (en40 _ _ _ _) (by decide) fl_X12_28 rfl dX12_frame_105 rfl ?_
      refine g_iload_n X dX12_frame_108 rfl rfl ?_
      refine g_iald X dX12_frame_109 rfl (n47 hN) (en47 _ _ _ _) (t0 := 0) rfl (by first | omega | (simp only [setI_1, setL_1, setI_2, setL_2]; omega) | (simp only [setI_1, setL_1, setI_2, setL_2]; simp; omega)) (by first | omega | (simp only [setI_1, setL_1, setI_2, setL_2]; omega) | (simp only [setI_1, setL_1, setI_2, setL_2]; simp; omega)) (by decide) (fun r109 => ?_)
      refine g_int (b := (M.1 47 0 0 r) + 1) (by simp [setI_1, setI_2, setL_1, setL_2]) ?_
      refine g_int (b := (C.1 16 6 r 0) + 1) (by first | omega | (simp only [setI_1, setL_1]; simp; omega)) ?_
      exact g_ret Y dX12_frame_110 ⟨_, rfl⟩ (pRo w0 rfl)
    · skip
      refine g_iconst X dX12_frame_51 rfl ?_
      exact g_ret Y dX12_frame_52 ⟨_, rfl⟩ (pRx (by assumption))
theorem RelR.mn {C M : Mem} (hR : RelR C M) : ∀ i, 0 ≤ i → i < 12 → 0 ≤ (M.1 47 0 0 i) ∧ (M.1 47 0 0 i) ≤ 60 := (fun i i0 i1 => by
  by_cases z : i < (C.1 0 1 0 0)
  · have a1 := hR.mi i i0 z
    have a2 := (hR.rd i i0 z).fc
    omega
  · have a1 := hR.mf i (by omega) i1
    omega)
set_option maxRecDepth 100000 in
set_option maxHeartbeats 4000000 in
theorem c_X12_splice {δ : Dx} {nm : List (Nat × Int)} {ad : Ad} {M : Mem} {C : Mem} {r p : Int} (hN : NmOk nm) (hR : RelR C M) (rr : rng r) (rp : rng p) : Ct δ md_X12_splice 0 0 nm ad M [.ref (ad 40 0), .int (iI r), .int (iI p)] (pRf (if (0 ≤ r ∧ r < (C.1 0 1 0 0)) ∧ (0 ≤ p ∧ p < (C.1 16 6 r 0)) then 0 else 1) (.int (iI (-1))) (.int (iI ((addS C r p).1 16 7 r 0))) ad M (fun M' => M' = spM (setI M 40 46 0 0 0) r p)) := by
  refine Ct_of (ins := .ireturn) (ok := okI) [some (.ref (ad 40 0)), some (.int (iI r)), some (.int (iI p)), none, none] (by decide +kernel) rfl (Nat.le_of_ble_eq_true rfl) (fun κ s hs X hr hQ hδ => endI rfl hs X hr hQ hδ) (fun κ X hNL hδ Y => ?_)
  refine g_rm (fun hM => ?_)
  have rc := hR.rc
  have he := hR.e
  refine g_aload_n X dX12_splice_0 rfl rfl ?_
  refine g_cutI 15 (if (0 ≤ r ∧ r < (C.1 0 1 0 0)) ∧ (0 ≤ p ∧ p < (C.1 16 6 r 0)) then 0 else 1) (fun ci1 => ?_) ?_
  · skip
    refine g_aload_n X dX12_splice_1 rfl rfl ?_
    refine g_iload_n X dX12_splice_2 rfl rfl ?_
    refine g_iload_n X dX12_splice_3 rfl rfl ?_
    refine g_iV2_v X w_X12_isFrame ml_X12_167 dX12_splice_4 rfl (n40 hN) (en40 _ _ _ _) ⟨⟨Nat.le_of_ble_eq_true rfl, Nat.le_of_ble_eq_true rfl⟩, Nat.le_of_ble_eq_true rfl, Nat.le_of_ble_eq_true rfl⟩ (Nat.le_of_ble_eq_true rfl) (c_X12_isFrame hN (by omega) (by omega) (by omega) hR.mn) ?_
    have mi : (0 ≤ r ∧ r < (C.1 0 1 0 0)) → (M.1 47 0 0 r) = (C.1 16 6 r 0) := fun q => (hR.mi r q.1 q.2).2.2.2.2.2.2
    refine g_ifB_eq (tgt := 14) X dX12_splice_7 rfl rfl (fun h7 => ?_) (fun h7 => ?_)
    · skip
      refine g_iconst X dX12_splice_14 rfl ?_
      exact ci1 _ (by omega)
    · skip
      refine g_iconst X dX12_splice_10 rfl ?_
      refine g_goto (pc' := 15) X dX12_splice_11 rfl ?_
      exact ci1 _ (by omega)
  · skip
    refine g_iV1_v X w_X12_holds ml_X12_158 dX12_splice_15 rfl (n40 hN) (en40 _ _ _ _) ⟨⟨Nat.le_of_ble_eq_true rfl, Nat.le_of_ble_eq_true rfl⟩, Nat.le_of_ble_eq_true rfl, Nat.le_of_ble_eq_true rfl⟩ (Nat.le_of_ble_eq_true rfl) (c_X12_holds hN (by omega)) ?_
    refine g_ifB_eq (tgt := 23) X dX12_splice_18 rfl rfl (fun h18 => ?_) (fun h18 => ?_)
    · skip
      have w0 : (if (0 ≤ r ∧ r < (C.1 0 1 0 0)) ∧ (0 ≤ p ∧ p < (C.1 16 6 r 0)) then 0 else 1 : Int) = 0 := by omega
      rw [w0]
      have r1 : (0 ≤ r ∧ r < (C.1 0 1 0 0)) ∧ (0 ≤ p ∧ p < (C.1 16 6 r 0)) := by omega
      have hd := hR.rd r (by omega) (by omega)
      have fb := hd.fc
      refine g_aload_n X dX12_splice_23 rfl rfl ?_
      refine g_get X ci12 (n40 hN) (en40 _ _ _ _) (by decide) fl_X12_38 rfl dX12_splice_24 rfl ?_
      refine g_bipush X dX12_splice_27 rfl (by decide) ?_
      refine g_iload_n X dX12_splice_29 rfl rfl ?_
      refine g_imul X dX12_splice_30 rfl ?_
      refine g_iload_n X dX12_splice_31 rfl rfl ?_
      refine g_iadd X dX12_splice_32 rfl ?_
      refine g_iconst X dX12_splice_33 rfl ?_
      refine g_iast X (n50 hN) (en50 _ _ _ _) (en50 _ _ _ _) (t0 := 0) rfl (by first | omega | (simp only [setI_1, setL_1, setI_2, setL_2]; omega) | (simp only [setI_1, setL_1, setI_2, setL_2]; simp; omega)) (by first | omega | (simp only [setI_1, setL_1, setI_2, setL_2]; omega) | (simp only [setI_1, setL_1, setI_2, setL_2]; simp; omega)) (by decide) (by first | omega | (simp only [setI_1, setL_1, setI_2, setL_2]; omega) | (simp only [setI_1, setL_1, setI_2, setL_2]; simp; omega)) dX12_splice_34 rfl ?_
      refine g_iconst X dX12_splice_35 rfl ?_
      refine g_istore_3 X dX12_splice_36 rfl (lt_kN hNL rfl) rfl ?_
      refine g_bipush X dX12_splice_37 rfl (by decide) ?_
      refine g_iload_n X dX12_splice_39 rfl rfl ?_
      refine g_imul X dX12_splice_40 rfl ?_
      refine g_istore_4 X dX12_splice_41 rfl (lt_kN hNL rfl) rfl ?_
      have lp43 : ∀ (a : Int) (k : Int) (k0 : 60 * r ≤ k) (k1 : k ≤ 60 * r + 60) (ha : a = sm (fun j => (((spM M r p)).1 50 0 0 j)) (60 * r) k), G κ nm ad (spM (setI M 40 46 0 0 0) r p) 43 [some (.ref (ad 40 0)), some (.int (iI r)), some (.int (iI p)), some (.int (iI a)), some (.int (iI k))] [] 0 0 := by
        refine ind2 (fun a k => (60 * r + 60 - k).toNat) ?_
        intro a k ih43 k0 k1 ha
        refine g_rm (fun hM43 => ?_)
        have ps := sm_s (fun j => (((spM M r p)).1 50 0 0 j)) (lo := 60 * r) (hi := k) k0
        refine g_iload X dX12_splice_43 rfl rfl ?_
        refine g_bipush X dX12_splice_45 rfl (by decide) ?_
        refine g_iload_n X dX12_splice_47 rfl rfl ?_
        refine g_imul X dX12_splice_48 rfl ?_
        refine g_bipush X dX12_splice_49 rfl (by decide) ?_
        refine g_iadd X dX12_splice_51 rfl ?_
        refine g_icmp_ge (tgt := 71) X dX12_splice_52 rfl rfl (by omega) (by omega) (fun h52 => ?_) (fun h52 => ?_)
        · skip
          refine g_iload_n X dX12_splice_71 rfl rfl ?_
          rw [ha, show k = 60 * r + 60 by omega, splN hR r1.1.1 r1.1.2 r1.2.1 r1.2.2]
          exact g_ret Y dX12_splice_72 ⟨_, rfl⟩ (pRo w0 rfl)
        · skip
          refine g_iload_n X dX12_splice_55 rfl rfl ?_
          refine g_aload_n X dX12_splice_56 rfl rfl ?_
          refine g_get X ci12 (n40 hN) (en40 _ _ _ _) (by decide) fl_X12_38 rfl dX12_splice_57 rfl ?_
          refine g_iload X dX12_splice_60 rfl rfl ?_
          refine g_iald X dX12_splice_62 rfl (n50 hN) (en50 _ _ _ _) (t0 := 0) rfl (by omega) (by omega) (by decide) (fun r62 => ?_)
          refine g_iadd X dX12_splice_63 rfl ?_
          refine g_istore_3 X dX12_splice_64 rfl (lt_kN hNL rfl) rfl ?_
          refine g_iinc_4 X dX12_splice_65 rfl (lt_kN hNL rfl) rfl ?_
          refine g_goto (pc' := 43) X dX12_splice_68 rfl ?_
          exact ih43 _ (k + 1) (by omega) (by omega) (by omega) (by rw [ps, ha]; rfl)
      exact lp43 0 (60 * r) (by omega) (by omega) (sm_0 _ (by omega)).symm
    · skip
      refine g_iconst X dX12_splice_21 rfl ?_
      exact g_ret Y dX12_splice_22 ⟨_, rfl⟩ (pRx (by assumption))
set_option maxRecDepth 100000 in
set_option maxHeartbeats 4000000 in
theorem c_X12_cold {δ : Dx} {nm : List (Nat × Int)} {ad : Ad} {M : Mem} {C : Mem} {r : Int} {P : Prop} (hN : NmOk nm) (hR : RelR C M) (rr : rng r) : Ct δ md_X12_cold 0 0 nm ad M [.ref (ad 40 0), .int (iI r), .int (iI (bI P))] (pRf (if 0 ≤ r ∧ r < (C.1 0 1 0 0) then 0 else 1) (.int (iI (-1))) (.int (iI (ytc (setI C 16 5 r 0 (bI P)) r (C.1 0 2 0 0)))) ad M (fun M' => M' = setI (setI M 40 46 0 0 0) 46 0 0 r (bI P))) := by
  refine Ct_of (ins := .ireturn) (ok := okI) [some (.ref (ad 40 0)), some (.int (iI r)), some (.int (iI (bI P))), none] (by decide +kernel) rfl (Nat.le_of_ble_eq_true rfl) (fun κ s hs X hr hQ hδ => endI rfl hs X hr hQ hδ) (fun κ X hNL hδ Y => ?_)
  refine g_rm (fun hM => ?_)
  have rc := hR.rc
  have he := hR.e
  have yy := hR.yr
  have yb := yearly_b (setI C 16 5 r 0 (bI P)) r
  refine g_aload_n X dX12_cold_0 rfl rfl ?_
  refine g_cutI 14 (if 0 ≤ r ∧ r < (C.1 0 1 0 0) then 0 else 1) (fun ci1 => ?_) ?_
  · skip
    refine g_aload_n X dX12_cold_1 rfl rfl ?_
    refine g_iload_n X dX12_cold_2 rfl rfl ?_
    refine g_iV1_v X w_X12_isReel ml_X12_154 dX12_cold_3 rfl (n40 hN) (en40 _ _ _ _) ⟨⟨Nat.le_of_ble_eq_true rfl, Nat.le_of_ble_eq_true rfl⟩, Nat.le_of_ble_eq_true rfl, Nat.le_of_ble_eq_true rfl⟩ (Nat.le_of_ble_eq_true rfl) (c_X12_isReel hN (by omega) (by omega)) ?_
    refine g_ifB_eq (tgt := 13) X dX12_cold_6 rfl rfl (fun h6 => ?_) (fun h6 => ?_)
    · skip
      refine g_iconst X dX12_cold_13 rfl ?_
      exact ci1 _ (by omega)
    · skip
      refine g_iconst X dX12_cold_9 rfl ?_
      refine g_goto (pc' := 14) X dX12_cold_10 rfl ?_
      exact ci1 _ (by omega)
  · skip
    refine g_iV1_v X w_X12_holds ml_X12_158 dX12_cold_14 rfl (n40 hN) (en40 _ _ _ _) ⟨⟨Nat.le_of_ble_eq_true rfl, Nat.le_of_ble_eq_true rfl⟩, Nat.le_of_ble_eq_true rfl, Nat.le_of_ble_eq_true rfl⟩ (Nat.le_of_ble_eq_true rfl) (c_X12_holds hN (by omega)) ?_
    refine g_ifB_eq (tgt := 22) X dX12_cold_17 rfl rfl (fun h17 => ?_) (fun h17 => ?_)
    · skip
      have w0 : (if 0 ≤ r ∧ r < (C.1 0 1 0 0) then 0 else 1 : Int) = 0 := by omega
      rw [w0]
      have mi := hR.mi r (by omega) (by omega)
      have hd := hR.rd r (by omega) (by omega)
      have fb := hd.fc
      have gn := hR.gn r (by omega) (by omega)
      refine g_aload_n X dX12_cold_22 rfl rfl ?_
      refine g_get X ci12 (n40 hN) (en40 _ _ _ _) (by decide) fl_X12_25 rfl dX12_cold_23 rfl ?_
      refine g_iload_n X dX12_cold_26 rfl rfl ?_
      refine g_cutB 36 (P) (fun ct27 cf27 => ?_) ?_
      · skip
        refine g_iload_n X dX12_cold_27 rfl rfl ?_
        refine g_ifB_eq (tgt := 35) X dX12_cold_28 rfl rfl (fun h28 => ?_) (fun h28 => ?_)
        · skip
          refine g_iconst X dX12_cold_35 rfl ?_
          exact cf27 (by assumption)
        · skip
          refine g_iconst X dX12_cold_31 rfl ?_
          refine g_goto (pc' := 36) X dX12_cold_32 rfl ?_
          exact ct27 (by assumption)
      · skip
        refine g_iast X (n46 hN) (en46 _ _ _ _) (en46 _ _ _ _) (t0 := 0) rfl (by first | omega | (simp only [setI_1, setL_1, setI_2, setL_2]; omega) | (simp only [setI_1, setL_1, setI_2, setL_2]; simp; omega)) (by first | omega | (simp only [setI_1, setL_1, setI_2, setL_2]; omega) | (simp only [setI_1, setL_1, setI_2, setL_2]; simp; omega)) (by decide) (bI_rng _) dX12_cold_36 rfl ?_
        refine g_sipush X dX12_cold_37 rfl (by decide) ?_
        refine g_aload_n X dX12_cold_40 rfl rfl ?_
        refine g_get X ci12 (n40 hN) (en40 _ _ _ _) (by decide) fl_X12_22 rfl dX12_cold_41 rfl ?_
        refine g_iload_n X dX12_cold_44 rfl rfl ?_
        refine g_iald X dX12_cold_45 rfl (n45 hN) (en45 _ _ _ _) (t0 := 0) rfl (by first | omega | (simp only [setI_1, setL_1, setI_2, setL_2]; omega) | (simp only [setI_1, setL_1, setI_2, setL_2]; simp; omega)) (by first | omega | (simp only [setI_1, setL_1, setI_2, setL_2]; omega) | (simp only [setI_1, setL_1, setI_2, setL_2]; simp; omega)) (by decide) (fun r45 => ?_)
        refine g_int (b := M.1 45 0 0 r) rfl ?_
        have r45x := hM 45 0 0 r
        refine g_isub X dX12_cold_46 rfl ?_
        refine g_istore_3 X dX12_cold_47 rfl (lt_kN hNL rfl) rfl ?_
        refine g_iload_n X dX12_cold_48 rfl rfl ?_
        refine g_if_gt (tgt := 59) X dX12_cold_49 rfl rfl (by first | omega | (simp only [setI_1, setL_1, setI_2, setL_2]; omega) | (simp only [setI_1, setL_1, setI_2, setL_2]; simp; omega)) (fun h49 => ?_) (fun h49 => ?_)
        · skip
          refine g_aload_n X dX12_cold_59 rfl rfl ?_
          refine g_getI X ci12 (n40 hN) (en40 _ _ _ _) (by decide) fl_X12_45 rfl dX12_cold_60 rfl (fun r60 => ?_)
          refine g_int (b := M.1 40 12 0 0) rfl ?_
          have r60x := hM 40 12 0 0
          refine g_iload_n X dX12_cold_63 rfl rfl ?_
          refine g_aload_n X dX12_cold_64 rfl rfl ?_
          refine g_iload_n X dX12_cold_65 rfl rfl ?_
          refine g_iV1_v X w_X12_rate ml_X12_171 dX12_cold_66 rfl (n40 hN) (en40 _ _ _ _) ⟨⟨Nat.le_of_ble_eq_true rfl, Nat.le_of_ble_eq_true rfl⟩, Nat.le_of_ble_eq_true rfl, Nat.le_of_ble_eq_true rfl⟩ (Nat.le_of_ble_eq_true rfl) (c_X12_rate hN (by omega) (by omega)) ?_
          refine g_int (b := yearly (setI C 16 5 r 0 (bI P)) r) (by
            have b01 := bI_01 P
            unfold yearly
            simp only [setI_1]
            simp only [and_self, if_true, reduceIte]
            simp (config := { decide := true }) only [false_and, and_false, if_false, reduceIte, true_and, and_true]
            omega) ?_
          refine g_iadd X dX12_cold_69 rfl ?_
          refine g_iconst X dX12_cold_70 rfl ?_
          refine g_isub X dX12_cold_71 rfl ?_
          refine g_aload_n X dX12_cold_72 rfl rfl ?_
          refine g_iload_n X dX12_cold_73 rfl rfl ?_
          refine g_iV1_v X w_X12_rate ml_X12_171 dX12_cold_74 rfl (n40 hN) (en40 _ _ _ _) ⟨⟨Nat.le_of_ble_eq_true rfl, Nat.le_of_ble_eq_true rfl⟩, Nat.le_of_ble_eq_true rfl, Nat.le_of_ble_eq_true rfl⟩ (Nat.le_of_ble_eq_true rfl) (c_X12_rate hN (by omega) (by omega)) ?_
          refine g_int (b := yearly (setI C 16 5 r 0 (bI P)) r) (by
            have b01 := bI_01 P
            unfold yearly
            simp only [setI_1]
            simp only [and_self, if_true, reduceIte]
            simp (config := { decide := true }) only [false_and, and_false, if_false, reduceIte, true_and, and_true]
            omega) ?_
          refine g_idiv X dX12_cold_77 rfl (by first | omega | (simp only [setI_1, setL_1, setI_2, setL_2]; omega) | (simp only [setI_1, setL_1, setI_2, setL_2]; simp; omega)) (by first | omega | (simp only [setI_1, setL_1, setI_2, setL_2]; omega) | (simp only [setI_1, setL_1, setI_2, setL_2]; simp; omega)) (by first | omega | (simp only [setI_1, setL_1, setI_2, setL_2]; omega) | (simp only [setI_1, setL_1, setI_2, setL_2]; simp; omega)) (by first | omega | (simp only [setI_1, setL_1, setI_2, setL_2]; omega) | (simp only [setI_1, setL_1, setI_2, setL_2]; simp; omega)) ?_
          refine g_iadd X dX12_cold_78 rfl ?_
          refine g_int (b := ytc (setI C 16 5 r 0 (bI P)) r (C.1 0 2 0 0)) (by
            unfold ytc
            have d4 : ((setI C 16 5 r 0 (bI P))).1 16 4 r 0 = (C.1 16 4 r 0) := by simp [setI_1]
            rw [d4]
            first | (rw [if_pos (by omega)]; omega) | (rw [if_neg (by omega), show (M.1 40 12 0 0) = (C.1 0 2 0 0) by omega, show (M.1 45 0 0 r) = (C.1 16 4 r 0) by omega])) ?_
          exact g_ret Y dX12_cold_79 ⟨_, rfl⟩ (pRo w0 rfl)
        · skip
          refine g_aload_n X dX12_cold_52 rfl rfl ?_
          refine g_getI X ci12 (n40 hN) (en40 _ _ _ _) (by decide) fl_X12_45 rfl dX12_cold_53 rfl (fun r53 => ?_)
          refine g_int (b := M.1 40 12 0 0) rfl ?_
          have r53x := hM 40 12 0 0
          refine g_goto (pc' := 79) X dX12_cold_56 rfl ?_
          refine g_int (b := ytc (setI C 16 5 r 0 (bI P)) r (C.1 0 2 0 0)) (by
            unfold ytc
            have d4 : ((setI C 16 5 r 0 (bI P))).1 16 4 r 0 = (C.1 16 4 r 0) := by simp [setI_1]
            rw [d4]
            first | (rw [if_pos (by omega)]; omega) | (rw [if_neg (by omega), show (M.1 40 12 0 0) = (C.1 0 2 0 0) by omega, show (M.1 45 0 0 r) = (C.1 16 4 r 0) by omega])) ?_
          exact g_ret Y dX12_cold_79 ⟨_, rfl⟩ (pRo w0 rfl)
    · skip
      refine g_iconst X dX12_cold_20 rfl ?_
      exact g_ret Y dX12_cold_21 ⟨_, rfl⟩ (pRx (by assumption))
set_option maxRecDepth 100000 in
set_option maxHeartbeats 4000000 in
theorem c_X12_copy {δ : Dx} {nm : List (Nat × Int)} {ad : Ad} {M : Mem} {C : Mem} {r : Int} (hN : NmOk nm) (hR : RelR C M) (rr : rng r) : Ct δ md_X12_copy 0 0 nm ad M [.ref (ad 40 0), .int (iI r)] (pRf (if ¬ (0 ≤ r ∧ r < (C.1 0 1 0 0)) then 1 else if ¬ ((C.1 16 4 r 0) < 300) ∨ (C.1 0 1 0 0) = 12 then 2 else 0) (.int (iI (-1))) (.int (iI (C.1 0 1 0 0))) ad M (CpM (cpB (setI M 40 46 0 0 0) r) (C.1 0 1 0 0) r 60)) := by
  refine Ct_of (ins := .ireturn) (ok := okI) [some (.ref (ad 40 0)), some (.int (iI r)), none, none] (by decide +kernel) rfl (Nat.le_of_ble_eq_true rfl) (fun κ s hs X hr hQ hδ => endI rfl hs X hr hQ hδ) (fun κ X hNL hδ Y => ?_)
  refine g_rm (fun hM => ?_)
  have rc := hR.rc
  have he := hR.e
  have yy := hR.yr
  refine g_aload_n X dX12_copy_0 rfl rfl ?_
  refine g_cutI 35 (if ¬ (0 ≤ r ∧ r < (C.1 0 1 0 0)) then 1 else if ¬ ((C.1 16 4 r 0) < 300) ∨ (C.1 0 1 0 0) = 12 then 2 else 0) (fun ci1 => ?_) ?_
  · skip
    refine g_aload_n X dX12_copy_1 rfl rfl ?_
    refine g_iload_n X dX12_copy_2 rfl rfl ?_
    refine g_iV1_v X w_X12_isReel ml_X12_154 dX12_copy_3 rfl (n40 hN) (en40 _ _ _ _) ⟨⟨Nat.le_of_ble_eq_true rfl, Nat.le_of_ble_eq_true rfl⟩, Nat.le_of_ble_eq_true rfl, Nat.le_of_ble_eq_true rfl⟩ (Nat.le_of_ble_eq_true rfl) (c_X12_isReel hN (by omega) (by omega)) ?_
    refine g_ifB_ne (tgt := 13) X dX12_copy_6 rfl rfl (fun h6 => ?_) (fun h6 => ?_)
    · skip
      have mi := hR.mi r (by omega) (by omega)
      refine g_aload_n X dX12_copy_13 rfl rfl ?_
      refine g_iload_n X dX12_copy_14 rfl rfl ?_
      refine g_iV1_v X w_X12_isGood ml_X12_175 dX12_copy_15 rfl (n40 hN) (en40 _ _ _ _) ⟨⟨Nat.le_of_ble_eq_true rfl, Nat.le_of_ble_eq_true rfl⟩, Nat.le_of_ble_eq_true rfl, Nat.le_of_ble_eq_true rfl⟩ (Nat.le_of_ble_eq_true rfl) (c_X12_isGood hN (by omega) (by omega)) ?_
      refine g_ifB_eq (tgt := 30) X dX12_copy_18 rfl rfl (fun h18 => ?_) (fun h18 => ?_)
      · skip
        refine g_iconst X dX12_copy_30 rfl ?_
        refine g_goto (pc' := 35) X dX12_copy_31 rfl ?_
        exact ci1 _ (by omega)
      · skip
        refine g_aload_n X dX12_copy_21 rfl rfl ?_
        refine g_getI X ci12 (n40 hN) (en40 _ _ _ _) (by decide) fl_X12_143 rfl dX12_copy_22 rfl (fun r22 => ?_)
        refine g_bipush X dX12_copy_25 rfl (by decide) ?_
        refine g_icmp_ne (tgt := 34) X dX12_copy_27 rfl rfl (by omega) (by omega) (fun h27 => ?_) (fun h27 => ?_)
        · skip
          refine g_iconst X dX12_copy_34 rfl ?_
          exact ci1 _ (by omega)
        · skip
          refine g_iconst X dX12_copy_30 rfl ?_
          refine g_goto (pc' := 35) X dX12_copy_31 rfl ?_
          exact ci1 _ (by omega)
    · skip
      refine g_iconst X dX12_copy_9 rfl ?_
      refine g_goto (pc' := 35) X dX12_copy_10 rfl ?_
      exact ci1 _ (by omega)
  · skip
    refine g_iV1_v X w_X12_holds ml_X12_158 dX12_copy_35 rfl (n40 hN) (en40 _ _ _ _) ⟨⟨Nat.le_of_ble_eq_true rfl, Nat.le_of_ble_eq_true rfl⟩, Nat.le_of_ble_eq_true rfl, Nat.le_of_ble_eq_true rfl⟩ (Nat.le_of_ble_eq_true rfl) (c_X12_holds hN (by omega)) ?_
    refine g_ifB_eq (tgt := 43) X dX12_copy_38 rfl rfl (fun h38 => ?_) (fun h38 => ?_)
    · skip
      have w0 : (if ¬ (0 ≤ r ∧ r < (C.1 0 1 0 0)) then 1 else if ¬ ((C.1 16 4 r 0) < 300) ∨ (C.1 0 1 0 0) = 12 then 2 else 0 : Int) = 0 := by omega
      rw [w0]
      have mi := hR.mi r (by omega) (by omega)
      have hd := hR.rd r (by omega) (by omega)
      have fb := hd.fc
      have gn := hR.gn r (by omega) (by omega)
      refine g_aload_n X dX12_copy_43 rfl rfl ?_
      refine g_iconst X dX12_copy_44 rfl ?_
      refine g_aload_n X dX12_copy_45 rfl rfl ?_
      refine g_getI X ci12 (n40 hN) (en40 _ _ _ _) (by decide) fl_X12_45 rfl dX12_copy_46 rfl (fun r46 => ?_)
      refine g_int (b := M.1 40 12 0 0) rfl ?_
      have r46x := hM 40 12 0 0
      refine g_aload_n X dX12_copy_49 rfl rfl ?_
      refine g_get X ci12 (n40 hN) (en40 _ _ _ _) (by decide) fl_X12_16 rfl dX12_copy_50 rfl ?_
      refine g_iload_n X dX12_copy_53 rfl rfl ?_
      refine g_iald X dX12_copy_54 rfl (n43 hN) (en43 _ _ _ _) (t0 := 0) rfl (by first | omega | (simp only [setI_1, setL_1, setI_2, setL_2]; omega) | (simp only [setI_1, setL_1, setI_2, setL_2]; simp; omega)) (by first | omega | (simp only [setI_1, setL_1, setI_2, setL_2]; omega) | (simp only [setI_1, setL_1, setI_2, setL_2]; simp; omega)) (by decide) (fun r54 => ?_)
      refine g_int (b := M.1 43 0 0 r) rfl ?_
      have r54x := hM 43 0 0 r
      refine g_aload_n X dX12_copy_55 rfl rfl ?_
      refine g_get X ci12 (n40 hN) (en40 _ _ _ _) (by decide) fl_X12_19 rfl dX12_copy_56 rfl ?_
      refine g_iload_n X dX12_copy_59 rfl rfl ?_
      refine g_iald X dX12_copy_60 rfl (n44 hN) (en44 _ _ _ _) (t0 := 0) rfl (by first | omega | (simp only [setI_1, setL_1, setI_2, setL_2]; omega) | (simp only [setI_1, setL_1, setI_2, setL_2]; simp; omega)) (by first | omega | (simp only [setI_1, setL_1, setI_2, setL_2]; omega) | (simp only [setI_1, setL_1, setI_2, setL_2]; simp; omega)) (by decide) (fun r60 => ?_)
      refine g_int (b := M.1 44 0 0 r) rfl ?_
      have r60x := hM 44 0 0 r
      refine g_iconst X dX12_copy_61 rfl ?_
      refine g_iadd X dX12_copy_62 rfl ?_
      refine g_iconst X dX12_copy_63 rfl ?_
      refine g_iV5_v X w_X12_adds ml_X12_161 dX12_copy_64 rfl (n40 hN) (en40 _ _ _ _) ⟨⟨Nat.le_of_ble_eq_true rfl, Nat.le_of_ble_eq_true rfl⟩, Nat.le_of_ble_eq_true rfl, Nat.le_of_ble_eq_true rfl⟩ (Nat.le_of_ble_eq_true rfl) (c_X12_adds hN (by show 0 ≤ (M.1 40 10 0 0) ∧ (M.1 40 10 0 0) < 12; omega) (by decide) (by show rng (M.1 40 12 0 0); constructor <;> omega) (by exact hM _ _ _ _) (by show rng ((M.1 44 0 0 r) + 1); constructor <;> omega) (by decide)) ?_
      refine g_int (b := (C.1 0 1 0 0)) (show (M.1 40 10 0 0) = (C.1 0 1 0 0) by omega) ?_
      refine g_istore_2 X dX12_copy_67 rfl (lt_kN hNL rfl) rfl ?_
      refine g_aload_n X dX12_copy_68 rfl rfl ?_
      refine g_get X ci12 (n40 hN) (en40 _ _ _ _) (by decide) fl_X12_28 rfl dX12_copy_69 rfl ?_
      refine g_iload_n X dX12_copy_72 rfl rfl ?_
      refine g_aload_n X dX12_copy_73 rfl rfl ?_
      refine g_get X ci12 (n40 hN) (en40 _ _ _ _) (by decide) fl_X12_28 rfl dX12_copy_74 rfl ?_
      refine g_iload_n X dX12_copy_77 rfl rfl ?_
      refine g_iald X dX12_copy_78 rfl (n47 hN) (en47 _ _ _ _) (t0 := 0) rfl (by first | omega | (simp only [setI_1, setL_1, setI_2, setL_2]; omega) | (simp only [setI_1, setL_1, setI_2, setL_2]; simp; omega)) (by first | omega | (simp only [setI_1, setL_1, setI_2, setL_2]; omega) | (simp only [setI_1, setL_1, setI_2, setL_2]; simp; omega)) (by decide) (fun r78 => ?_)
      refine g_int (b := M.1 47 0 0 r) rfl ?_
      have r78x := hM 47 0 0 r
      refine g_iast X (n47 hN) (en47 _ _ _ _) (en47 _ _ _ _) (t0 := 0) rfl (by first | omega | (simp only [setI_1, setL_1, setI_2, setL_2]; omega) | (simp only [setI_1, setL_1, setI_2, setL_2]; simp; omega)) (by first | omega | (simp only [setI_1, setL_1, setI_2, setL_2]; omega) | (simp only [setI_1, setL_1, setI_2, setL_2]; simp; omega)) (by decide) (by first | omega | (simp only [setI_1, setL_1, setI_2, setL_2]; omega) | (simp only [setI_1, setL_1, setI_2, setL_2]; simp; omega)) dX12_copy_79 rfl ?_
      refine g_iconst X dX12_copy_80 rfl ?_
      refine g_istore_3 X dX12_copy_81 rfl (lt_kN hNL rfl) rfl ?_
      have em : setI (addsM (setI M 40 46 0 0 0) 1 (M.1 40 12 0 0) (M.1 43 0 0 r) ((M.1 44 0 0 r) + 1) 0) 47 0 0 (C.1 0 1 0 0) (M.1 47 0 0 r) = (cpB (setI M 40 46 0 0 0) r) := by
        unfold cpB
        rw [show (((setI M 40 46 0 0 0)).1 40 10 0 0) = (C.1 0 1 0 0) from (by show (M.1 40 10 0 0) = _; omega)]
        rfl
      have lp82 : ∀ (k : Int) (M2 : Mem) (k0 : 0 ≤ k) (k1 : k ≤ 60) (hc : CpM (cpB (setI M 40 46 0 0 0) r) (C.1 0 1 0 0) r k M2), G κ nm ad M2 82 [some (.ref (ad 40 0)), some (.int (iI r)), some (.int (iI (C.1 0 1 0 0))), some (.int (iI k))] [] 0 0 := by
        refine ind2 (fun k M2 => (60 - k).toNat) ?_
        intro k M2 ih82 k0 k1 hc
        refine g_rm (fun hM82 => ?_)
        refine g_iload_n X dX12_copy_82 rfl rfl ?_
        refine g_bipush X dX12_copy_83 rfl (by decide) ?_
        refine g_icmp_ge (tgt := 160) X dX12_copy_85 rfl rfl (by omega) (by omega) (fun h85 => ?_) (fun h85 => ?_)
        · skip
          refine g_iload_n X dX12_copy_160 rfl rfl ?_
          exact g_ret Y dX12_copy_161 ⟨_, rfl⟩ (pRo w0 (by rw [show (60 : Int) = k by omega]; exact hc))
        · skip
          refine g_aload_n X dX12_copy_88 rfl rfl ?_
          refine g_get X ci12 (n40 hN) (en40 _ _ _ _) (by decide) fl_X12_31 rfl dX12_copy_89 rfl ?_
          refine g_bipush X dX12_copy_92 rfl (by decide) ?_
          refine g_iload_n X dX12_copy_94 rfl rfl ?_
          refine g_imul X dX12_copy_95 rfl ?_
          refine g_iload_n X dX12_copy_96 rfl rfl ?_
          refine g_iadd X dX12_copy_97 rfl ?_
          refine g_aload_n X dX12_copy_98 rfl rfl ?_
          refine g_get X ci12 (n40 hN) (en40 _ _ _ _) (by decide) fl_X12_31 rfl dX12_copy_99 rfl ?_
          refine g_bipush X dX12_copy_102 rfl (by decide) ?_
          refine g_iload_n X dX12_copy_104 rfl rfl ?_
          refine g_imul X dX12_copy_105 rfl ?_
          refine g_iload_n X dX12_copy_106 rfl rfl ?_
          refine g_iadd X dX12_copy_107 rfl ?_
          refine g_iald X dX12_copy_108 rfl (n48 hN) (en48 _ _ _ _) (t0 := 0) rfl (by omega) (by omega) (by decide) (fun r108 => ?_)
          refine g_iast X (n48 hN) (en48 _ _ _ _) (en48 _ _ _ _) (t0 := 0) rfl (by omega) (by omega) (by decide) (by omega) dX12_copy_109 rfl ?_
          refine g_aload_n X dX12_copy_110 rfl rfl ?_
          refine g_get X ci12 (n40 hN) (en40 _ _ _ _) (by decide) fl_X12_34 rfl dX12_copy_111 rfl ?_
          refine g_bipush X dX12_copy_114 rfl (by decide) ?_
          refine g_iload_n X dX12_copy_116 rfl rfl ?_
          refine g_imul X dX12_copy_117 rfl ?_
          refine g_iload_n X dX12_copy_118 rfl rfl ?_
          refine g_iadd X dX12_copy_119 rfl ?_
          refine g_aload_n X dX12_copy_120 rfl rfl ?_
          refine g_get X ci12 (n40 hN) (en40 _ _ _ _) (by decide) fl_X12_34 rfl dX12_copy_121 rfl ?_
          refine g_bipush X dX12_copy_124 rfl (by decide) ?_
          refine g_iload_n X dX12_copy_126 rfl rfl ?_
          refine g_imul X dX12_copy_127 rfl ?_
          refine g_iload_n X dX12_copy_128 rfl rfl ?_
          refine g_iadd X dX12_copy_129 rfl ?_
          refine g_lald X dX12_copy_130 rfl (n49 hN) (en49 _ _ _ _) (t0 := 1) rfl (by first | omega | (simp only [setI_1, setL_1, setI_2, setL_2]; omega) | (simp only [setI_1, setL_1, setI_2, setL_2]; simp; omega)) (by first | omega | (simp only [setI_1, setL_1, setI_2, setL_2]; omega) | (simp only [setI_1, setL_1, setI_2, setL_2]; simp; omega)) (by decide) ?_
          refine g_lng (b := M2.2 49 0 0 ((60 * r) + k)) rfl ?_
          refine g_last X (n49 hN) (en49 _ _ _ _) (en49 _ _ _ _) (t0 := 1) rfl (by first | omega | (simp only [setI_1, setL_1, setI_2, setL_2]; omega) | (simp only [setI_1, setL_1, setI_2, setL_2]; simp; omega)) (by first | omega | (simp only [setI_1, setL_1, setI_2, setL_2]; omega) | (simp only [setI_1, setL_1, setI_2, setL_2]; simp; omega)) (by decide) dX12_copy_131 rfl ?_
          refine g_aload_n X dX12_copy_132 rfl rfl ?_
          refine g_get X ci12 (n40 hN) (en40 _ _ _ _) (by decide) fl_X12_38 rfl dX12_copy_133 rfl ?_
          refine g_bipush X dX12_copy_136 rfl (by decide) ?_
          refine g_iload_n X dX12_copy_138 rfl rfl ?_
          refine g_imul X dX12_copy_139 rfl ?_
          refine g_iload_n X dX12_copy_140 rfl rfl ?_
          refine g_iadd X dX12_copy_141 rfl ?_
          refine g_aload_n X dX12_copy_142 rfl rfl ?_
          refine g_get X ci12 (n40 hN) (en40 _ _ _ _) (by decide) fl_X12_38 rfl dX12_copy_143 rfl ?_
          refine g_bipush X dX12_copy_146 rfl (by decide) ?_
          refine g_iload_n X dX12_copy_148 rfl rfl ?_
          refine g_imul X dX12_copy_149 rfl ?_
          refine g_iload_n X dX12_copy_150 rfl rfl ?_
          refine g_iadd X dX12_copy_151 rfl ?_
          refine g_iald X dX12_copy_152 rfl (n50 hN) (en50 _ _ _ _) (t0 := 0) rfl (by first | omega | (simp only [setI_1, setL_1, setI_2, setL_2]; omega) | (simp only [setI_1, setL_1, setI_2, setL_2]; simp; omega)) (by first | omega | (simp only [setI_1, setL_1, setI_2, setL_2]; omega) | (simp only [setI_1, setL_1, setI_2, setL_2]; simp; omega)) (by decide) (fun r152 => ?_)
          refine g_int (b := M2.1 50 0 0 ((60 * r) + k)) rfl ?_
          have r152x := hM82 50 0 0 ((60 * r) + k)
          refine g_iast X (n50 hN) (en50 _ _ _ _) (en50 _ _ _ _) (t0 := 0) rfl (by first | omega | (simp only [setI_1, setL_1, setI_2, setL_2]; omega) | (simp only [setI_1, setL_1, setI_2, setL_2]; simp; omega)) (by first | omega | (simp only [setI_1, setL_1, setI_2, setL_2]; omega) | (simp only [setI_1, setL_1, setI_2, setL_2]; simp; omega)) (by decide) (by first | omega | (simp only [setI_1, setL_1, setI_2, setL_2]; omega) | (simp only [setI_1, setL_1, setI_2, setL_2]; simp; omega)) dX12_copy_153 rfl ?_
          refine g_iinc_3 X dX12_copy_154 rfl (lt_kN hNL rfl) rfl ?_
          refine g_goto (pc' := 82) X dX12_copy_157 rfl ?_
          exact ih82 (k + 1) _ (by omega) (by omega) (by omega) (hc.step (by omega) k0 (by omega))
      exact lp82 0 _ (by omega) (by omega) ⟨by rw [← em]; exact Ag.rf _, fun j _ => by rw [← em]; exact ⟨rfl, rfl, rfl⟩, fun j h1 h2 => by omega⟩
    · skip
      refine g_iconst X dX12_copy_41 rfl ?_
      exact g_ret Y dX12_copy_42 ⟨_, rfl⟩ (pRx (by assumption))
set_option maxRecDepth 100000 in
set_option maxHeartbeats 4000000 in
theorem c_X12_ofReel {δ : Dx} {nm : List (Nat × Int)} {ad : Ad} {M : Mem} {C : Mem} {r w : Int} (hN : NmOk nm) (hR : RelR C M) (rr : rng r) (rw : rng w) : Ct δ md_X12_ofReel 0 0 nm ad M [.ref (ad 40 0), .int (iI r), .int (iI w)] (pRf (if ¬ (0 ≤ r ∧ r < (C.1 0 1 0 0)) then 1 else if 0 ≤ w ∧ w ≤ 8 then 0 else 2) (.int (iI (-1))) (.int (iI (ofRV C r w))) ad M (Ex (fun k => k == 78 || k == 79) (setI M 40 46 0 0 0))) := by
  refine Ct_of (ins := .ireturn) (ok := okI) [some (.ref (ad 40 0)), some (.int (iI r)), some (.int (iI w))] (by decide +kernel) rfl (Nat.le_of_ble_eq_true rfl) (fun κ s hs X hr hQ hδ => endI rfl hs X hr hQ hδ) (fun κ X hNL hδ Y => ?_)
  refine g_rm (fun hM => ?_)
  have rc := hR.rc
  have he := hR.e
  refine g_aload_n X dX12_ofReel_0 rfl rfl ?_
  refine g_cutI 29 (if ¬ (0 ≤ r ∧ r < (C.1 0 1 0 0)) then 1 else if 0 ≤ w ∧ w ≤ 8 then 0 else 2) (fun ci1 => ?_) ?_
  · skip
    refine g_aload_n X dX12_ofReel_1 rfl rfl ?_
    refine g_iload_n X dX12_ofReel_2 rfl rfl ?_
    refine g_iV1_v X w_X12_isReel ml_X12_154 dX12_ofReel_3 rfl (n40 hN) (en40 _ _ _ _) ⟨⟨Nat.le_of_ble_eq_true rfl, Nat.le_of_ble_eq_true rfl⟩, Nat.le_of_ble_eq_true rfl, Nat.le_of_ble_eq_true rfl⟩ (Nat.le_of_ble_eq_true rfl) (c_X12_isReel hN (by omega) (by omega)) ?_
    refine g_ifB_ne (tgt := 13) X dX12_ofReel_6 rfl rfl (fun h6 => ?_) (fun h6 => ?_)
    · skip
      refine g_aload_n X dX12_ofReel_13 rfl rfl ?_
      refine g_iload_n X dX12_ofReel_14 rfl rfl ?_
      refine g_iconst X dX12_ofReel_15 rfl ?_
      refine g_bipush X dX12_ofReel_16 rfl (by decide) ?_
      refine g_iV3_v X w_X12_in ml_X12_146 dX12_ofReel_18 rfl (n40 hN) (en40 _ _ _ _) ⟨⟨Nat.le_of_ble_eq_true rfl, Nat.le_of_ble_eq_true rfl⟩, Nat.le_of_ble_eq_true rfl, Nat.le_of_ble_eq_true rfl⟩ (Nat.le_of_ble_eq_true rfl) (c_X12_in hN (by omega) (by omega) (by omega)) ?_
      refine g_ifB_eq (tgt := 28) X dX12_ofReel_21 rfl rfl (fun h21 => ?_) (fun h21 => ?_)
      · skip
        refine g_iconst X dX12_ofReel_28 rfl ?_
        exact ci1 _ (by omega)
      · skip
        refine g_iconst X dX12_ofReel_24 rfl ?_
        refine g_goto (pc' := 29) X dX12_ofReel_25 rfl ?_
        exact ci1 _ (by omega)
    · skip
      refine g_iconst X dX12_ofReel_9 rfl ?_
      refine g_goto (pc' := 29) X dX12_ofReel_10 rfl ?_
      exact ci1 _ (by omega)
  · skip
    refine g_iV1_v X w_X12_holds ml_X12_158 dX12_ofReel_29 rfl (n40 hN) (en40 _ _ _ _) ⟨⟨Nat.le_of_ble_eq_true rfl, Nat.le_of_ble_eq_true rfl⟩, Nat.le_of_ble_eq_true rfl, Nat.le_of_ble_eq_true rfl⟩ (Nat.le_of_ble_eq_true rfl) (c_X12_holds hN (by omega)) ?_
    refine g_ifB_eq (tgt := 37) X dX12_ofReel_32 rfl rfl (fun h32 => ?_) (fun h32 => ?_)
    · skip
      have w0 : (if ¬ (0 ≤ r ∧ r < (C.1 0 1 0 0)) then 1 else if 0 ≤ w ∧ w ≤ 8 then 0 else 2 : Int) = 0 := by omega
      rw [w0]
      have r0 : 0 ≤ r := by omega
      have q1 : r < (C.1 0 1 0 0) := by omega
      have mi := hR.mi r (by omega) (by omega)
      have hd := hR.rd r (by omega) (by omega)
      have fb := hd.fc
      refine g_iload_n X dX12_ofReel_37 rfl rfl ?_
      by_cases hs38 : w < 0 ∨ 7 < w
      · refine g_swOut (tgt := 143) X dX12_ofReel_38 (by first | omega | (simp only [setI_1, setL_1, setI_2, setL_2]; omega) | (simp only [setI_1, setL_1, setI_2, setL_2]; simp; omega)) hs38 rfl ?_
        refine g_aload_n X dX12_ofReel_143 rfl rfl ?_
        refine g_get X ci12 (n40 hN) (en40 _ _ _ _) (by decide) fl_X12_13 rfl dX12_ofReel_144 rfl ?_
        refine g_iload_n X dX12_ofReel_147 rfl rfl ?_
        refine g_iald X dX12_ofReel_148 rfl (n42 hN) (en42 _ _ _ _) (t0 := 0) rfl (by first | omega | (simp only [setI_1, setL_1, setI_2, setL_2]; omega) | (simp only [setI_1, setL_1, setI_2, setL_2]; simp; omega)) (by first | omega | (simp only [setI_1, setL_1, setI_2, setL_2]; omega) | (simp only [setI_1, setL_1, setI_2, setL_2]; simp; omega)) (by decide) (fun r148 => ?_)
        refine g_int (b := M.1 42 0 0 r) rfl ?_
        have r148x := hM 42 0 0 r
        have hw38 : w = 8 := by omega
        refine g_int (b := ofRV C r w) (by rw [hw38]; first | exact mi.2.1) ?_
        exact g_ret Y dX12_ofReel_149 ⟨_, rfl⟩ (pRo w0 (Ex.rf _))
      · rcases (show w = 0 ∨ w = 1 ∨ w = 2 ∨ w = 3 ∨ w = 4 ∨ w = 5 ∨ w = 6 ∨ w = 7 by omega) with hw38 | hw38 | hw38 | hw38 | hw38 | hw38 | hw38 | hw38
        · refine g_swIn (tgt := 84) X dX12_ofReel_38 (by first | omega | (simp only [setI_1, setL_1, setI_2, setL_2]; omega) | (simp only [setI_1, setL_1, setI_2, setL_2]; simp; omega)) (by omega) (by omega) (by rw [hw38]; rfl) rfl ?_
          refine g_aload_n X dX12_ofReel_84 rfl rfl ?_
          refine g_get X ci12 (n40 hN) (en40 _ _ _ _) (by decide) fl_X12_28 rfl dX12_ofReel_85 rfl ?_
          refine g_iload_n X dX12_ofReel_88 rfl rfl ?_
          refine g_iald X dX12_ofReel_89 rfl (n47 hN) (en47 _ _ _ _) (t0 := 0) rfl (by first | omega | (simp only [setI_1, setL_1, setI_2, setL_2]; omega) | (simp only [setI_1, setL_1, setI_2, setL_2]; simp; omega)) (by first | omega | (simp only [setI_1, setL_1, setI_2, setL_2]; omega) | (simp only [setI_1, setL_1, setI_2, setL_2]; simp; omega)) (by decide) (fun r89 => ?_)
          refine g_int (b := M.1 47 0 0 r) rfl ?_
          have r89x := hM 47 0 0 r
          refine g_int (b := ofRV C r w) (by rw [hw38]; first | exact mi.2.2.2.2.2.2) ?_
          exact g_ret Y dX12_ofReel_90 ⟨_, rfl⟩ (pRo w0 (Ex.rf _))
        · refine g_swIn (tgt := 91) X dX12_ofReel_38 (by first | omega | (simp only [setI_1, setL_1, setI_2, setL_2]; omega) | (simp only [setI_1, setL_1, setI_2, setL_2]; simp; omega)) (by omega) (by omega) (by rw [hw38]; rfl) rfl ?_
          refine g_aload_n X dX12_ofReel_91 rfl rfl ?_
          refine g_get X ci12 (n40 hN) (en40 _ _ _ _) (by decide) fl_X12_19 rfl dX12_ofReel_92 rfl ?_
          refine g_iload_n X dX12_ofReel_95 rfl rfl ?_
          refine g_iald X dX12_ofReel_96 rfl (n44 hN) (en44 _ _ _ _) (t0 := 0) rfl (by first | omega | (simp only [setI_1, setL_1, setI_2, setL_2]; omega) | (simp only [setI_1, setL_1, setI_2, setL_2]; simp; omega)) (by first | omega | (simp only [setI_1, setL_1, setI_2, setL_2]; omega) | (simp only [setI_1, setL_1, setI_2, setL_2]; simp; omega)) (by decide) (fun r96 => ?_)
          refine g_int (b := M.1 44 0 0 r) rfl ?_
          have r96x := hM 44 0 0 r
          refine g_int (b := ofRV C r w) (by rw [hw38]; first | exact mi.2.2.2.1) ?_
          exact g_ret Y dX12_ofReel_97 ⟨_, rfl⟩ (pRo w0 (Ex.rf _))
        · refine g_swIn (tgt := 98) X dX12_ofReel_38 (by first | omega | (simp only [setI_1, setL_1, setI_2, setL_2]; omega) | (simp only [setI_1, setL_1, setI_2, setL_2]; simp; omega)) (by omega) (by omega) (by rw [hw38]; rfl) rfl ?_
          refine g_aload_n X dX12_ofReel_98 rfl rfl ?_
          refine g_get X ci12 (n40 hN) (en40 _ _ _ _) (by decide) fl_X12_22 rfl dX12_ofReel_99 rfl ?_
          refine g_iload_n X dX12_ofReel_102 rfl rfl ?_
          refine g_iald X dX12_ofReel_103 rfl (n45 hN) (en45 _ _ _ _) (t0 := 0) rfl (by first | omega | (simp only [setI_1, setL_1, setI_2, setL_2]; omega) | (simp only [setI_1, setL_1, setI_2, setL_2]; simp; omega)) (by first | omega | (simp only [setI_1, setL_1, setI_2, setL_2]; omega) | (simp only [setI_1, setL_1, setI_2, setL_2]; simp; omega)) (by decide) (fun r103 => ?_)
          refine g_int (b := M.1 45 0 0 r) rfl ?_
          have r103x := hM 45 0 0 r
          refine g_int (b := ofRV C r w) (by rw [hw38]; first | exact mi.2.2.2.2.1) ?_
          exact g_ret Y dX12_ofReel_104 ⟨_, rfl⟩ (pRo w0 (Ex.rf _))
        · refine g_swIn (tgt := 105) X dX12_ofReel_38 (by first | omega | (simp only [setI_1, setL_1, setI_2, setL_2]; omega) | (simp only [setI_1, setL_1, setI_2, setL_2]; simp; omega)) (by omega) (by omega) (by rw [hw38]; rfl) rfl ?_
          refine g_aload_n X dX12_ofReel_105 rfl rfl ?_
          refine g_iload_n X dX12_ofReel_106 rfl rfl ?_
          refine g_iV1_v X w_X12_isGood ml_X12_175 dX12_ofReel_107 rfl (n40 hN) (en40 _ _ _ _) ⟨⟨Nat.le_of_ble_eq_true rfl, Nat.le_of_ble_eq_true rfl⟩, Nat.le_of_ble_eq_true rfl, Nat.le_of_ble_eq_true rfl⟩ (Nat.le_of_ble_eq_true rfl) (c_X12_isGood hN (by omega) (by omega)) ?_
          refine g_ifB_eq (tgt := 117) X dX12_ofReel_110 rfl rfl (fun h110 => ?_) (fun h110 => ?_)
          · skip
            refine g_iconst X dX12_ofReel_117 rfl ?_
            refine g_int (b := ofRV C r w) (by have z : (((setI M 40 46 0 0 0)).1 45 0 0 r) = (M.1 45 0 0 r) := rfl; rw [hw38]; show _ = bI ((C.1 16 4 r 0) < 300); first | exact (bI_t (by omega)).symm | exact (bI_f (by omega)).symm) ?_
            exact g_ret Y dX12_ofReel_118 ⟨_, rfl⟩ (pRo w0 (Ex.rf _))
          · skip
            refine g_iconst X dX12_ofReel_113 rfl ?_
            refine g_goto (pc' := 118) X dX12_ofReel_114 rfl ?_
            refine g_int (b := ofRV C r w) (by have z : (((setI M 40 46 0 0 0)).1 45 0 0 r) = (M.1 45 0 0 r) := rfl; rw [hw38]; show _ = bI ((C.1 16 4 r 0) < 300); first | exact (bI_t (by omega)).symm | exact (bI_f (by omega)).symm) ?_
            exact g_ret Y dX12_ofReel_118 ⟨_, rfl⟩ (pRo w0 (Ex.rf _))
        · refine g_swIn (tgt := 119) X dX12_ofReel_38 (by first | omega | (simp only [setI_1, setL_1, setI_2, setL_2]; omega) | (simp only [setI_1, setL_1, setI_2, setL_2]; simp; omega)) (by omega) (by omega) (by rw [hw38]; rfl) rfl ?_
          refine g_aload_n X dX12_ofReel_119 rfl rfl ?_
          refine g_iload_n X dX12_ofReel_120 rfl rfl ?_
          refine g_iV1_v X w_X12_jumps ml_X12_193 dX12_ofReel_121 rfl (n40 hN) (en40 _ _ _ _) ⟨⟨Nat.le_of_ble_eq_true rfl, Nat.le_of_ble_eq_true rfl⟩, Nat.le_of_ble_eq_true rfl, Nat.le_of_ble_eq_true rfl⟩ (Nat.le_of_ble_eq_true rfl) (c_X12_jumps hN hR.th r0 q1) ?_
          refine g_int (b := ofRV C r w) (by rw [hw38]; first | exact rfl) ?_
          exact g_ret Y dX12_ofReel_124 ⟨_, rfl⟩ (pRo w0 (Ex.rf _))
        · refine g_swIn (tgt := 125) X dX12_ofReel_38 (by first | omega | (simp only [setI_1, setL_1, setI_2, setL_2]; omega) | (simp only [setI_1, setL_1, setI_2, setL_2]; simp; omega)) (by omega) (by omega) (by rw [hw38]; rfl) rfl ?_
          refine g_aload_n X dX12_ofReel_125 rfl rfl ?_
          refine g_iload_n X dX12_ofReel_126 rfl rfl ?_
          refine g_iV1_g X w_X12_missing ml_X12_196 dX12_ofReel_127 rfl (n40 hN) (en40 _ _ _ _) ⟨⟨Nat.le_of_ble_eq_true rfl, Nat.le_of_ble_eq_true rfl⟩, Nat.le_of_ble_eq_true rfl, Nat.le_of_ble_eq_true rfl⟩ (Nat.le_of_ble_eq_true rfl) (c_X12_missing hN hR.th r0 q1) (fun Mc127 hc127 => ?_)
          refine g_rm (fun hMc127 => ?_)
          refine g_int (b := ofRV C r w) (by rw [hw38]; first | exact rfl) ?_
          exact g_ret Y dX12_ofReel_130 ⟨_, rfl⟩ (pRo w0 (hc127.w1))
        · refine g_swIn (tgt := 131) X dX12_ofReel_38 (by first | omega | (simp only [setI_1, setL_1, setI_2, setL_2]; omega) | (simp only [setI_1, setL_1, setI_2, setL_2]; simp; omega)) (by omega) (by omega) (by rw [hw38]; rfl) rfl ?_
          refine g_aload_n X dX12_ofReel_131 rfl rfl ?_
          refine g_iload_n X dX12_ofReel_132 rfl rfl ?_
          refine g_iV1_g X w_X12_faults ml_X12_199 dX12_ofReel_133 rfl (n40 hN) (en40 _ _ _ _) ⟨⟨Nat.le_of_ble_eq_true rfl, Nat.le_of_ble_eq_true rfl⟩, Nat.le_of_ble_eq_true rfl, Nat.le_of_ble_eq_true rfl⟩ (Nat.le_of_ble_eq_true rfl) (c_X12_faults hN hR.th r0 q1) (fun Mc133 hc133 => ?_)
          refine g_rm (fun hMc133 => ?_)
          refine g_int (b := ofRV C r w) (by rw [hw38]; first | exact rfl) ?_
          exact g_ret Y dX12_ofReel_136 ⟨_, rfl⟩ (pRo w0 (hc133.w1))
        · refine g_swIn (tgt := 137) X dX12_ofReel_38 (by first | omega | (simp only [setI_1, setL_1, setI_2, setL_2]; omega) | (simp only [setI_1, setL_1, setI_2, setL_2]; simp; omega)) (by omega) (by omega) (by rw [hw38]; rfl) rfl ?_
          refine g_aload_n X dX12_ofReel_137 rfl rfl ?_
          refine g_iload_n X dX12_ofReel_138 rfl rfl ?_
          refine g_iV1_g X w_X12_parentOf ml_X12_202 dX12_ofReel_139 rfl (n40 hN) (en40 _ _ _ _) ⟨⟨Nat.le_of_ble_eq_true rfl, Nat.le_of_ble_eq_true rfl⟩, Nat.le_of_ble_eq_true rfl, Nat.le_of_ble_eq_true rfl⟩ (Nat.le_of_ble_eq_true rfl) (c_X12_parentOf hN hR.th r0 q1) (fun Mc139 hc139 => ?_)
          refine g_rm (fun hMc139 => ?_)
          refine g_int (b := ofRV C r w) (by rw [hw38]; first | exact rfl) ?_
          exact g_ret Y dX12_ofReel_142 ⟨_, rfl⟩ (pRo w0 (hc139))
    · skip
      refine g_iconst X dX12_ofReel_35 rfl ?_
      exact g_ret Y dX12_ofReel_36 ⟨_, rfl⟩ (pRx (by assumption))
set_option maxRecDepth 100000 in
set_option maxHeartbeats 4000000 in
theorem c_X12_tolerance {δ : Dx} {nm : List (Nat × Int)} {ad : Ad} {M : Mem} {C : Mem} {t : Int} (hN : NmOk nm) (hR : RelR C M) (rt : rng t) : Ct δ md_X12_tolerance 0 0 nm ad M [.ref (ad 40 0), .int (iI t)] (pRf (if 0 ≤ t ∧ t ≤ 2040 then 0 else 1) (.int (iI (-1))) (.int (iI (C.1 0 3 0 0))) ad M (fun M' => M' = setI (setI M 40 46 0 0 0) 40 11 0 0 t)) := by
  refine Ct_of (ins := .ireturn) (ok := okI) [some (.ref (ad 40 0)), some (.int (iI t)), none] (by decide +kernel) rfl (Nat.le_of_ble_eq_true rfl) (fun κ s hs X hr hQ hδ => endI rfl hs X hr hQ hδ) (fun κ X hNL hδ Y => ?_)
  refine g_rm (fun hM => ?_)
  have rc := hR.rc
  have he := hR.e
  refine g_aload_n X dX12_tolerance_0 rfl rfl ?_
  refine g_cutI 18 (if 0 ≤ t ∧ t ≤ 2040 then 0 else 1) (fun ci1 => ?_) ?_
  · skip
    refine g_aload_n X dX12_tolerance_1 rfl rfl ?_
    refine g_iload_n X dX12_tolerance_2 rfl rfl ?_
    refine g_iconst X dX12_tolerance_3 rfl ?_
    refine g_sipush X dX12_tolerance_4 rfl (by decide) ?_
    refine g_iV3_v X w_X12_in ml_X12_146 dX12_tolerance_7 rfl (n40 hN) (en40 _ _ _ _) ⟨⟨Nat.le_of_ble_eq_true rfl, Nat.le_of_ble_eq_true rfl⟩, Nat.le_of_ble_eq_true rfl, Nat.le_of_ble_eq_true rfl⟩ (Nat.le_of_ble_eq_true rfl) (c_X12_in hN (by omega) (by omega) (by omega)) ?_
    refine g_ifB_eq (tgt := 17) X dX12_tolerance_10 rfl rfl (fun h10 => ?_) (fun h10 => ?_)
    · skip
      refine g_iconst X dX12_tolerance_17 rfl ?_
      exact ci1 _ (by omega)
    · skip
      refine g_iconst X dX12_tolerance_13 rfl ?_
      refine g_goto (pc' := 18) X dX12_tolerance_14 rfl ?_
      exact ci1 _ (by omega)
  · skip
    refine g_iV1_v X w_X12_holds ml_X12_158 dX12_tolerance_18 rfl (n40 hN) (en40 _ _ _ _) ⟨⟨Nat.le_of_ble_eq_true rfl, Nat.le_of_ble_eq_true rfl⟩, Nat.le_of_ble_eq_true rfl, Nat.le_of_ble_eq_true rfl⟩ (Nat.le_of_ble_eq_true rfl) (c_X12_holds hN (by omega)) ?_
    refine g_ifB_eq (tgt := 26) X dX12_tolerance_21 rfl rfl (fun h21 => ?_) (fun h21 => ?_)
    · skip
      have w0 : (if 0 ≤ t ∧ t ≤ 2040 then 0 else 1 : Int) = 0 := by omega
      rw [w0]
      refine g_aload_n X dX12_tolerance_26 rfl rfl ?_
      refine g_getI X ci12 (n40 hN) (en40 _ _ _ _) (by decide) fl_X12_41 rfl dX12_tolerance_27 rfl (fun r27 => ?_)
      refine g_int (b := M.1 40 11 0 0) rfl ?_
      have r27x := hM 40 11 0 0
      refine g_istore_2 X dX12_tolerance_30 rfl (lt_kN hNL rfl) rfl ?_
      refine g_aload_n X dX12_tolerance_31 rfl rfl ?_
      refine g_iload_n X dX12_tolerance_32 rfl rfl ?_
      refine g_putI X ci12 (n40 hN) (en40 _ _ _ _) (ep40_11 _ _ _ _ _) (by first | omega | (simp only [setI_1, setL_1, setI_2, setL_2]; omega) | (simp only [setI_1, setL_1, setI_2, setL_2]; simp; omega)) (by decide) rfl rfl rfl (Nat.le_of_ble_eq_true rfl) fl_X12_41 dX12_tolerance_33 rfl ?_
      refine g_iload_n X dX12_tolerance_36 rfl rfl ?_
      refine g_int (b := (C.1 0 3 0 0)) (show (M.1 40 11 0 0) = (C.1 0 3 0 0) by omega) ?_
      exact g_ret Y dX12_tolerance_37 ⟨_, rfl⟩ (pRo w0 rfl)
    · skip
      refine g_iconst X dX12_tolerance_24 rfl ?_
      exact g_ret Y dX12_tolerance_25 ⟨_, rfl⟩ (pRx (by assumption))
set_option maxRecDepth 100000 in
set_option maxHeartbeats 4000000 in
theorem c_X12_pass {δ : Dx} {nm : List (Nat × Int)} {ad : Ad} {M : Mem} {C : Mem} {n : Int} (hN : NmOk nm) (hR : RelR C M) (rn : rng n) : Ct δ md_X12_pass 0 0 nm ad M [.ref (ad 40 0), .int (iI n)] (pRf (if ¬ (1 ≤ n ∧ n ≤ 100) then 1 else if 2200 < (C.1 0 2 0 0) + n then 2 else 0) (.int (iI (-1))) (.int (iI ((C.1 0 2 0 0) + n))) ad M (PsM C (setI (setI M 40 46 0 0 0) 40 12 0 0 ((C.1 0 2 0 0) + n)) n (C.1 0 1 0 0))) := by
  refine Ct_of (ins := .ireturn) (ok := okI) [some (.ref (ad 40 0)), some (.int (iI n)), none] (by decide +kernel) rfl (Nat.le_of_ble_eq_true rfl) (fun κ s hs X hr hQ hδ => endI rfl hs X hr hQ hδ) (fun κ X hNL hδ Y => ?_)
  refine g_rm (fun hM => ?_)
  have rc := hR.rc
  have he := hR.e
  have yy := hR.yr
  refine g_aload_n X dX12_pass_0 rfl rfl ?_
  refine g_cutI 33 (if ¬ (1 ≤ n ∧ n ≤ 100) then 1 else if 2200 < (C.1 0 2 0 0) + n then 2 else 0) (fun ci1 => ?_) ?_
  · skip
    refine g_aload_n X dX12_pass_1 rfl rfl ?_
    refine g_iload_n X dX12_pass_2 rfl rfl ?_
    refine g_iconst X dX12_pass_3 rfl ?_
    refine g_bipush X dX12_pass_4 rfl (by decide) ?_
    refine g_iV3_v X w_X12_in ml_X12_146 dX12_pass_6 rfl (n40 hN) (en40 _ _ _ _) ⟨⟨Nat.le_of_ble_eq_true rfl, Nat.le_of_ble_eq_true rfl⟩, Nat.le_of_ble_eq_true rfl, Nat.le_of_ble_eq_true rfl⟩ (Nat.le_of_ble_eq_true rfl) (c_X12_in hN (by omega) (by omega) (by omega)) ?_
    refine g_ifB_ne (tgt := 16) X dX12_pass_9 rfl rfl (fun h9 => ?_) (fun h9 => ?_)
    · skip
      refine g_aload_n X dX12_pass_16 rfl rfl ?_
      refine g_getI X ci12 (n40 hN) (en40 _ _ _ _) (by decide) fl_X12_45 rfl dX12_pass_17 rfl (fun r17 => ?_)
      refine g_iload_n X dX12_pass_20 rfl rfl ?_
      refine g_iadd X dX12_pass_21 rfl ?_
      refine g_sipush X dX12_pass_22 rfl (by decide) ?_
      refine g_icmp_le (tgt := 32) X dX12_pass_25 rfl rfl (by omega) (by omega) (fun h25 => ?_) (fun h25 => ?_)
      · skip
        refine g_iconst X dX12_pass_32 rfl ?_
        exact ci1 _ (by omega)
      · skip
        refine g_iconst X dX12_pass_28 rfl ?_
        refine g_goto (pc' := 33) X dX12_pass_29 rfl ?_
        exact ci1 _ (by omega)
    · skip
      refine g_iconst X dX12_pass_12 rfl ?_
      refine g_goto (pc' := 33) X dX12_pass_13 rfl ?_
      exact ci1 _ (by omega)
  · skip
    refine g_iV1_v X w_X12_holds ml_X12_158 dX12_pass_33 rfl (n40 hN) (en40 _ _ _ _) ⟨⟨Nat.le_of_ble_eq_true rfl, Nat.le_of_ble_eq_true rfl⟩, Nat.le_of_ble_eq_true rfl, Nat.le_of_ble_eq_true rfl⟩ (Nat.le_of_ble_eq_true rfl) (c_X12_holds hN (by omega)) ?_
    refine g_ifB_eq (tgt := 41) X dX12_pass_36 rfl rfl (fun h36 => ?_) (fun h36 => ?_)
    · skip
      have w0 : (if ¬ (1 ≤ n ∧ n ≤ 100) then 1 else if 2200 < (C.1 0 2 0 0) + n then 2 else 0 : Int) = 0 := by omega
      rw [w0]
      refine g_aload_n X dX12_pass_41 rfl rfl ?_
      refine g_dup X dX12_pass_42 rfl rfl ?_
      refine g_getI X ci12 (n40 hN) (en40 _ _ _ _) (by decide) fl_X12_45 rfl dX12_pass_43 rfl (fun r43 => ?_)
      refine g_int (b := M.1 40 12 0 0) rfl ?_
      have r43x := hM 40 12 0 0
      refine g_iload_n X dX12_pass_46 rfl rfl ?_
      refine g_iadd X dX12_pass_47 rfl ?_
      refine g_putI X ci12 (n40 hN) (en40 _ _ _ _) (ep40_12 _ _ _ _ _) (by first | omega | (simp only [setI_1, setL_1, setI_2, setL_2]; omega) | (simp only [setI_1, setL_1, setI_2, setL_2]; simp; omega)) (by decide) rfl rfl rfl (Nat.le_of_ble_eq_true rfl) fl_X12_45 dX12_pass_48 rfl ?_
      refine g_iconst X dX12_pass_51 rfl ?_
      refine g_istore_2 X dX12_pass_52 rfl (lt_kN hNL rfl) rfl ?_
      have em : setI (setI M 40 46 0 0 0) 40 12 0 0 ((M.1 40 12 0 0) + n) = (setI (setI M 40 46 0 0 0) 40 12 0 0 ((C.1 0 2 0 0) + n)) := by rw [show (M.1 40 12 0 0) = (C.1 0 2 0 0) by omega]
      have lp53 : ∀ (i : Int) (M2 : Mem) (i0 : 0 ≤ i) (i1 : i ≤ (C.1 0 1 0 0)) (hp : PsM C (setI (setI M 40 46 0 0 0) 40 12 0 0 ((C.1 0 2 0 0) + n)) n i M2), G κ nm ad M2 53 [some (.ref (ad 40 0)), some (.int (iI n)), some (.int (iI i))] [] 0 0 := by
        refine ind2 (fun i M2 => (12 - i).toNat) ?_
        intro i M2 ih53 i0 i1 hp
        refine g_rm (fun hM53 => ?_)
        have e10 : (M2.1 40 10 0 0) = (M.1 40 10 0 0) := hp.1.i 40 10 0 0 rfl
        have e12 : (M2.1 40 12 0 0) = (C.1 0 2 0 0) + n := hp.1.i 40 12 0 0 rfl
        have e45 : (M2.1 45 0 0 i) = (M.1 45 0 0 i) := hp.2.1 i (by omega)
        have e41 : (M2.1 41 0 0 i) = (M.1 41 0 0 i) := hp.1.i 41 0 0 i rfl
        have e46 : (M2.1 46 0 0 i) = (M.1 46 0 0 i) := hp.1.i 46 0 0 i rfl
        refine g_iload_n X dX12_pass_53 rfl rfl ?_
        refine g_aload_n X dX12_pass_54 rfl rfl ?_
        refine g_getI X ci12 (n40 hN) (en40 _ _ _ _) (by decide) fl_X12_143 rfl dX12_pass_55 rfl (fun r55 => ?_)
        refine g_icmp_ge (tgt := 83) X dX12_pass_58 rfl rfl (by omega) (by omega) (fun h58 => ?_) (fun h58 => ?_)
        · skip
          refine g_aload_n X dX12_pass_83 rfl rfl ?_
          refine g_getI X ci12 (n40 hN) (en40 _ _ _ _) (by decide) fl_X12_45 rfl dX12_pass_84 rfl (fun r84 => ?_)
          refine g_int (b := (C.1 0 2 0 0) + n) (by omega) ?_
          exact g_ret Y dX12_pass_87 ⟨_, rfl⟩ (pRo w0 (by rw [show (C.1 0 1 0 0) = i by omega]; exact hp))
        · skip
          refine g_aload_n X dX12_pass_61 rfl rfl ?_
          refine g_get X ci12 (n40 hN) (en40 _ _ _ _) (by decide) fl_X12_22 rfl dX12_pass_62 rfl ?_
          refine g_iload_n X dX12_pass_65 rfl rfl ?_
          have mi := hR.mi i i0 (by omega)
          have gn := hR.gn i i0 (by omega)
          have yb := yearly_b C i
          have nb : 0 ≤ n * yearly C i ∧ n * yearly C i ≤ 300 := by
            rcases (show yearly C i = 1 ∨ yearly C i = 2 ∨ yearly C i = 3 by omega) with z | z | z <;> rw [z] <;> omega
          refine g_dup2 X dX12_pass_66 rfl rfl rfl ?_
          refine g_iald X dX12_pass_67 rfl (n45 hN) (en45 _ _ _ _) (t0 := 0) rfl (by omega) (by omega) (by decide) (fun r67 => ?_)
          refine g_iload_n X dX12_pass_68 rfl rfl ?_
          refine g_aload_n X dX12_pass_69 rfl rfl ?_
          refine g_iload_n X dX12_pass_70 rfl rfl ?_
          refine g_iV1_v X w_X12_rate ml_X12_171 dX12_pass_71 rfl (n40 hN) (en40 _ _ _ _) ⟨⟨Nat.le_of_ble_eq_true rfl, Nat.le_of_ble_eq_true rfl⟩, Nat.le_of_ble_eq_true rfl, Nat.le_of_ble_eq_true rfl⟩ (Nat.le_of_ble_eq_true rfl) (c_X12_rate hN (by omega) (by omega)) ?_
          refine g_int (b := yearly C i) (by
            unfold yearly
            omega) ?_
          refine g_imul X dX12_pass_74 rfl ?_
          refine g_iadd X dX12_pass_75 rfl ?_
          refine g_iast X (n45 hN) (en45 _ _ _ _) (en45 _ _ _ _) (t0 := 0) rfl (by omega) (by omega) (by decide) (by show rng ((M2.1 45 0 0 i) + n * yearly C i); constructor <;> omega) dX12_pass_76 rfl ?_
          refine g_iinc_2 X dX12_pass_77 rfl (lt_kN hNL rfl) rfl ?_
          refine g_goto (pc' := 53) X dX12_pass_80 rfl ?_
          exact ih53 (i + 1) _ (by omega) (by omega) (by omega) ⟨hp.1.setI rfl, fun j hj => by rw [setI_1, if_neg (by omega)]; exact hp.2.1 j (by omega), fun j j0 j1 => by
                  rw [setI_1]
                  by_cases e : j = i
                  · subst e; rw [if_pos ⟨rfl, rfl, rfl, rfl⟩]; omega
                  · rw [if_neg (by omega)]; exact hp.2.2 j j0 (by omega)⟩
      exact lp53 0 _ (by omega) (by omega) (by rw [← em]; exact ⟨Ag.rf _, fun _ _ => rfl, fun i h1 h2 => by omega⟩)
    · skip
      refine g_iconst X dX12_pass_39 rfl ?_
      exact g_ret Y dX12_pass_40 ⟨_, rfl⟩ (pRx (by assumption))
