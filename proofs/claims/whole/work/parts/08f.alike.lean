section GF
variable {κ : Kx} {cc : ByteArray} {own : String} {rm : Room} {nm : List (Nat × Int)} {ad : Ad} {M : Mem} {pc pc' : Nat} {lv : List (Option Value)} {st : List Value} {cl sl : Nat}
theorem g_i2f (X : Cx κ cc own rm) {x : Int32} (d : decode cc pc = .ok (.i2f, 1)) (e : pc + 1 = pc') (k : G κ nm ad M pc' lv (.float (FP.i2f x) :: st) cl sl) : G κ nm ad M pc lv (.int x :: st) cl sl := by
  subst e; intro hM H locs ls hP hD hS hl
  exact lv_i2f X.1 X.2.1 d (k hM H locs ls hP hD hS hl)
theorem g_fdiv (X : Cx κ cc own rm) {x y : UInt32} (d : decode cc pc = .ok (.fdiv, 1)) (e : pc + 1 = pc') (hn : vf_n32 (FP.fdiv x y)) (k : G κ nm ad M pc' lv (.float (FP.fdiv x y) :: st) cl sl) : G κ nm ad M pc lv (.float y :: .float x :: st) cl sl := by
  subst e; intro hM H locs ls hP hD hS hl
  exact lv_fdiv X.1 X.2.1 d hn (k hM H locs ls hP hD hS hl)
theorem g_fsub (X : Cx κ cc own rm) {x y : UInt32} (d : decode cc pc = .ok (.fsub, 1)) (e : pc + 1 = pc') (hn : vf_n32 (FP.fsub x y)) (k : G κ nm ad M pc' lv (.float (FP.fsub x y) :: st) cl sl) : G κ nm ad M pc lv (.float y :: .float x :: st) cl sl := by
  subst e; intro hM H locs ls hP hD hS hl
  exact lv_fsub X.1 X.2.1 d hn (k hM H locs ls hP hD hS hl)
end GF
/-- how alike: 1 - d / 2040 -/
def alkF (d : Int) : UInt32 := FP.fsub FP.fconst1 (FP.fdiv (FP.i2f (iI d)) 1157562368)
theorem alk_all : (List.range 2041).all (fun d => decide (FP.fdiv (FP.i2f (iI (d : Int))) 1157562368 &&& 0x7fffffff ≤ 0x7f800000) && decide (alkF (d : Int) &&& 0x7fffffff ≤ 0x7f800000)) = true := by decide +kernel
theorem alk_n {d : Int} (h0 : 0 ≤ d) (h1 : d ≤ 2040) : vf_n32 (FP.fdiv (FP.i2f (iI d)) 1157562368) ∧ vf_n32 (alkF d) := by
  have h := List.all_eq_true.mp alk_all d.toNat (List.mem_range.mpr (by omega))
  rw [show ((d.toNat : Nat) : Int) = d by omega] at h
  simp only [Bool.and_eq_true, decide_eq_true_eq] at h
  exact h
set_option maxRecDepth 100000 in
set_option maxHeartbeats 4000000 in
theorem c_X11_alike {δ : Dx} {nm : List (Nat × Int)} {ad : Ad} {M : Mem} {r p o q : Int} (hN : NmOk nm) (rr : rng r) (rp : rng p) (ro : rng o) (rq : rng q) (rc : 0 ≤ (M.1 0 1 0 0) ∧ (M.1 0 1 0 0) ≤ 12) (hr : ∀ i, 0 ≤ i → i < (M.1 0 1 0 0) → RD M i) : CtX δ md_X11_alike 4 24 nm ad M [.ref (ad 0 0), .int (iI r), .int (iI p), .int (iI o), .int (iI q)] (pC ((0 ≤ r ∧ r < (M.1 0 1 0 0)) ∧ (0 ≤ o ∧ o < (M.1 0 1 0 0)) ∧ (0 ≤ p ∧ p < (M.1 16 6 r 0)) ∧ (0 ≤ q ∧ q < (M.1 16 6 o 0))) (pV (.float (alkF (dist (M.2 18 0 r p) (M.2 18 0 o q)))) ad M)) (fun E => (E = "java/lang/IndexOutOfBoundsException" ∧ ¬ (0 ≤ r ∧ r < (M.1 0 1 0 0))) ∨ (E = "java/lang/IndexOutOfBoundsException" ∧ (0 ≤ r ∧ r < (M.1 0 1 0 0)) ∧ ¬ (0 ≤ o ∧ o < (M.1 0 1 0 0))) ∨ (E = "java/lang/IndexOutOfBoundsException" ∧ (0 ≤ r ∧ r < (M.1 0 1 0 0)) ∧ (0 ≤ o ∧ o < (M.1 0 1 0 0)) ∧ ¬ (0 ≤ p ∧ p < (M.1 16 6 r 0))) ∨ (E = "java/lang/IndexOutOfBoundsException" ∧ (0 ≤ r ∧ r < (M.1 0 1 0 0)) ∧ (0 ≤ o ∧ o < (M.1 0 1 0 0)) ∧ (0 ≤ p ∧ p < (M.1 16 6 r 0)) ∧ ¬ (0 ≤ q ∧ q < (M.1 16 6 o 0)))) := by
  refine CtX_of (ins := .freturn) (ok := okF) [some (.ref (ad 0 0)), some (.int (iI r)), some (.int (iI p)), some (.int (iI o)), some (.int (iI q)), none, none, none] (by decide +kernel) rfl (Nat.le_of_ble_eq_true rfl) (fun κ X hr T => xendF rfl X hr T) (fun κ X hNL T Y => ?_)
  refine g_rm (fun hM => ?_)
  refine g_aload_n X dX11_alike_0 rfl rfl ?_
  refine g_iload_n X dX11_alike_1 rfl rfl ?_
  refine g_xV1_v X T w_X11_reelNumbered ml_X11_60 dX11_alike_2 rfl (n0 hN) (en0 _ _ _ _) ⟨⟨Nat.le_of_ble_eq_true rfl, Nat.le_of_ble_eq_true rfl⟩, Nat.le_of_ble_eq_true rfl, Nat.le_of_ble_eq_true rfl⟩ (Nat.le_of_ble_eq_true rfl) (c_X11_reelNumbered hN (by omega) (by omega)) (Nat.le_of_ble_eq_true rfl) (Nat.le_of_ble_eq_true rfl) (fun E h => Or.inl h) (fun hc2 => ?_)
  refine g_astore_5 X dX11_alike_5 rfl (lt_kN hNL rfl) rfl ?_
  refine g_aload_n X dX11_alike_7 rfl rfl ?_
  refine g_iload_n X dX11_alike_8 rfl rfl ?_
  refine g_xV1_v X T w_X11_reelNumbered ml_X11_60 dX11_alike_9 rfl (n0 hN) (en0 _ _ _ _) ⟨⟨Nat.le_of_ble_eq_true rfl, Nat.le_of_ble_eq_true rfl⟩, Nat.le_of_ble_eq_true rfl, Nat.le_of_ble_eq_true rfl⟩ (Nat.le_of_ble_eq_true rfl) (c_X11_reelNumbered hN (by omega) (by omega)) (Nat.le_of_ble_eq_true rfl) (Nat.le_of_ble_eq_true rfl) (fun E h => Or.inr (Or.inl ⟨h.1, by omega, h.2⟩)) (fun hc9 => ?_)
  have fb := (hr r (by omega) (by omega)).fc
  have fb2 := (hr o (by omega) (by omega)).fc
  have db := dist_b (M.2 18 0 r p) (M.2 18 0 o q)
  have an := alk_n db.1 db.2
  refine g_astore_6 X dX11_alike_12 rfl (lt_kN hNL rfl) rfl ?_
  refine g_iload_n X dX11_alike_14 rfl rfl ?_
  refine g_aload X dX11_alike_15 rfl rfl ?_
  refine g_getI X ci8 (n16 hN (by omega) (by omega)) (en16 _ _ _ _) (by decide) fl_X11_82 rfl dX11_alike_17 rfl (fun r17 => ?_)
  refine g_xS2_n X T w_X11_needPlace ml_X11_91 dX11_alike_20 rfl ⟨⟨Nat.le_of_ble_eq_true rfl, Nat.le_of_ble_eq_true rfl⟩, Nat.le_of_ble_eq_true rfl, Nat.le_of_ble_eq_true rfl⟩ (Nat.le_of_ble_eq_true rfl) (c_X11_needPlace hN (by omega) (by omega)) (Nat.le_of_ble_eq_true rfl) (Nat.le_of_ble_eq_true rfl) (fun E h => Or.inr (Or.inr (Or.inl ⟨h.1, by omega, by omega, h.2⟩))) (fun hc20 => ?_)
  refine g_iload X dX11_alike_23 rfl rfl ?_
  refine g_aload X dX11_alike_25 rfl rfl ?_
  refine g_getI X ci8 (n16 hN (by omega) (by omega)) (en16 _ _ _ _) (by decide) fl_X11_82 rfl dX11_alike_27 rfl (fun r27 => ?_)
  refine g_xS2_n X T w_X11_needPlace ml_X11_91 dX11_alike_30 rfl ⟨⟨Nat.le_of_ble_eq_true rfl, Nat.le_of_ble_eq_true rfl⟩, Nat.le_of_ble_eq_true rfl, Nat.le_of_ble_eq_true rfl⟩ (Nat.le_of_ble_eq_true rfl) (c_X11_needPlace hN (by omega) (by omega)) (Nat.le_of_ble_eq_true rfl) (Nat.le_of_ble_eq_true rfl) (fun E h => Or.inr (Or.inr (Or.inr ⟨h.1, by omega, by omega, by omega, h.2⟩))) (fun hc30 => ?_)
  refine g_aload X dX11_alike_33 rfl rfl ?_
  refine g_get X ci8 (n16 hN (by omega) (by omega)) (en16 _ _ _ _) (by decide) fl_X11_155 rfl dX11_alike_35 rfl ?_
  refine g_iload_n X dX11_alike_38 rfl rfl ?_
  refine g_lald X dX11_alike_39 rfl (n18 hN (by omega) (by omega)) (en18 _ _ _ _) (t0 := 1) rfl (by omega) (by omega) (by decide) ?_
  refine g_aload X dX11_alike_40 rfl rfl ?_
  refine g_get X ci8 (n16 hN (by omega) (by omega)) (en16 _ _ _ _) (by decide) fl_X11_155 rfl dX11_alike_42 rfl ?_
  refine g_iload X dX11_alike_45 rfl rfl ?_
  refine g_lald X dX11_alike_47 rfl (n18 hN (by omega) (by omega)) (en18 _ _ _ _) (t0 := 1) rfl (by omega) (by omega) (by decide) ?_
  refine g_iS2_v X w_X7_distance ml_X11_159 dX11_alike_48 rfl ⟨⟨Nat.le_of_ble_eq_true rfl, Nat.le_of_ble_eq_true rfl⟩, Nat.le_of_ble_eq_true rfl, Nat.le_of_ble_eq_true rfl⟩ (Nat.le_of_ble_eq_true rfl) (c_X7_distance hN) ?_
  refine g_istore_7 X dX11_alike_51 rfl (lt_kN hNL rfl) rfl ?_
  refine g_fconst1 X dX11_alike_53 rfl ?_
  refine g_iload X dX11_alike_54 rfl rfl ?_
  refine g_i2f X dX11_alike_56 rfl ?_
  refine g_ldcf X dX11_alike_57 rfl kc_X11_165 ?_
  refine g_fdiv X dX11_alike_59 rfl an.1 ?_
  refine g_fsub X dX11_alike_60 rfl an.2 ?_
  exact g_ret Y dX11_alike_61 ⟨_, rfl⟩ ⟨⟨by omega, by omega, by omega, by omega⟩, rfl, rfl, rfl⟩
