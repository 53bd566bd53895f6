set_option maxRecDepth 100000 in
set_option maxHeartbeats 2000000 in
theorem c_X0_init {δ : Dx} {ws : va_W} {a : Nat} {i : Int} : CtW δ md_X0_init 3 360 (ws ++ [(a, .inr (0, [.int (iI 0), .null, .null, .null]))]) [.ref a] (fun v ws' => v = none ∧ ∃ b : Nat → Nat, b 12 = a ∧ ws' = ws ++ wl δ.2.2.1 [(12, i), (13, i), (14, i), (15, i)] (fun k _ => b k) Mem0) := by
  refine CtW_of (ins := .return_) (ok := okN) [some (.ref a)] (by decide +kernel) rfl (Nat.le_of_ble_eq_true rfl) (fun κ s hs X hr hQ hδ => endWN rfl hs X hr hQ hδ) (fun κ X hNL hδ hnm Y => ?_)
  have ec : kC κ = δ.2.2.1 := by rw [← hδ]
  refine h_aload_n X dX0_init_0 rfl rfl ?_
  refine h_oi X ml_X0_3 dX0_init_1 rfl ⟨Nat.le_of_ble_eq_true rfl, Nat.le_of_ble_eq_true rfl⟩ ?_
  refine h_aload_n X dX0_init_4 rfl rfl ?_
  refine h_bipush X dX0_init_5 rfl (by decide) ?_
  refine hp_newa X (atype := .int) (t0 := 0) (N' := 120) (a0 := (120, .inl (fun _ => iI 0))) ac_int rfl (fun _ _ h => h) (fun cA => rfl) rfl (Nat.le_of_ble_eq_true rfl) (by decide) ⟨Nat.le_of_ble_eq_true rfl, Nat.le_of_ble_eq_true rfl⟩ dX0_init_7 rfl (fun b13 => ?_)
  refine hp_put X ci0 (j := 0) (f := 1) rfl (Nat.le_of_ble_eq_true rfl) rfl rfl rfl (Nat.le_of_ble_eq_true rfl) fl_X0_9 dX0_init_9 rfl ?_
  refine h_aload_n X dX0_init_12 rfl rfl ?_
  refine h_bipush X dX0_init_13 rfl (by decide) ?_
  refine hp_newa X (atype := .long) (t0 := 1) (N' := 120) (a0 := (120, .inr (.inl (fun _ => (0 : Int64))))) ac_long rfl (fun _ _ h => h) (fun cA => rfl) rfl (Nat.le_of_ble_eq_true rfl) (by decide) ⟨Nat.le_of_ble_eq_true rfl, Nat.le_of_ble_eq_true rfl⟩ dX0_init_15 rfl (fun b14 => ?_)
  refine hp_put X ci0 (j := 0) (f := 2) rfl (Nat.le_of_ble_eq_true rfl) rfl rfl rfl (Nat.le_of_ble_eq_true rfl) fl_X0_15 dX0_init_17 rfl ?_
  refine h_aload_n X dX0_init_20 rfl rfl ?_
  refine h_bipush X dX0_init_21 rfl (by decide) ?_
  refine hp_newa X (atype := .int) (t0 := 0) (N' := 120) (a0 := (120, .inl (fun _ => iI 0))) ac_int rfl (fun _ _ h => h) (fun cA => rfl) rfl (Nat.le_of_ble_eq_true rfl) (by decide) ⟨Nat.le_of_ble_eq_true rfl, Nat.le_of_ble_eq_true rfl⟩ dX0_init_23 rfl (fun b15 => ?_)
  refine hp_put X ci0 (j := 0) (f := 3) rfl (Nat.le_of_ble_eq_true rfl) rfl rfl rfl (Nat.le_of_ble_eq_true rfl) fl_X0_19 dX0_init_25 rfl ?_
  refine Y none _ _ _ dX0_init_28 rfl ⟨rfl, (fun k => if k = 12 then a else if k = 13 then b13 else if k = 14 then b14 else if k = 15 then b15 else 0), rfl, ?_⟩
  rw [← ec]
  refine congrArg (fun z => ws ++ z) ?_
  rfl
set_option maxRecDepth 100000 in
set_option maxHeartbeats 2000000 in
theorem c_X9_init {δ : Dx} {ws : va_W} {a : Nat} {i : Int} : CtW δ md_X9_init 3 210 (ws ++ [(a, .inr (9, [.int (iI 0), .null, .null, .null]))]) [.ref a] (fun v ws' => v = none ∧ ∃ b : Nat → Nat, b 6 = a ∧ ws' = ws ++ wl δ.2.2.1 [(6, i), (7, i), (8, i), (9, i)] (fun k _ => b k) Mem0) := by
  refine CtW_of (ins := .return_) (ok := okN) [some (.ref a)] (by decide +kernel) rfl (Nat.le_of_ble_eq_true rfl) (fun κ s hs X hr hQ hδ => endWN rfl hs X hr hQ hδ) (fun κ X hNL hδ hnm Y => ?_)
  have ec : kC κ = δ.2.2.1 := by rw [← hδ]
  refine h_aload_n X dX9_init_0 rfl rfl ?_
  refine h_oi X ml_X9_3 dX9_init_1 rfl ⟨Nat.le_of_ble_eq_true rfl, Nat.le_of_ble_eq_true rfl⟩ ?_
  refine h_aload_n X dX9_init_4 rfl rfl ?_
  refine h_bipush X dX9_init_5 rfl (by decide) ?_
  refine hp_newa X (atype := .int) (t0 := 0) (N' := 100) (a0 := (100, .inl (fun _ => iI 0))) ac_int rfl (fun _ _ h => h) (fun cA => rfl) rfl (Nat.le_of_ble_eq_true rfl) (by decide) ⟨Nat.le_of_ble_eq_true rfl, Nat.le_of_ble_eq_true rfl⟩ dX9_init_7 rfl (fun b7 => ?_)
  refine hp_putF X ci9 (j := 0) (f := 1) rfl (Nat.le_of_ble_eq_true rfl) rfl hnm rfl rfl rfl (Nat.le_of_ble_eq_true rfl) fl_X9_9 dX9_init_9 rfl ?_
  refine h_aload_n X dX9_init_12 rfl rfl ?_
  refine h_bipush X dX9_init_13 rfl (by decide) ?_
  refine hp_newa X (atype := .int) (t0 := 0) (N' := 100) (a0 := (100, .inl (fun _ => iI 0))) ac_int rfl (fun _ _ h => h) (fun cA => rfl) rfl (Nat.le_of_ble_eq_true rfl) (by decide) ⟨Nat.le_of_ble_eq_true rfl, Nat.le_of_ble_eq_true rfl⟩ dX9_init_15 rfl (fun b8 => ?_)
  refine hp_putF X ci9 (j := 0) (f := 2) rfl (Nat.le_of_ble_eq_true rfl) rfl hnm rfl rfl rfl (Nat.le_of_ble_eq_true rfl) fl_X9_15 dX9_init_17 rfl ?_
  refine h_aload_n X dX9_init_20 rfl rfl ?_
  refine h_bipush X dX9_init_21 rfl (by decide) ?_
  refine hp_newa X (atype := .int) (t0 := 0) (N' := 10) (a0 := (10, .inl (fun _ => iI 0))) ac_int rfl (fun _ _ h => h) (fun cA => rfl) rfl (Nat.le_of_ble_eq_true rfl) (by decide) ⟨Nat.le_of_ble_eq_true rfl, Nat.le_of_ble_eq_true rfl⟩ dX9_init_23 rfl (fun b9 => ?_)
  refine hp_putF X ci9 (j := 0) (f := 3) rfl (Nat.le_of_ble_eq_true rfl) rfl hnm rfl rfl rfl (Nat.le_of_ble_eq_true rfl) fl_X9_18 dX9_init_25 rfl ?_
  refine Y none _ _ _ dX9_init_28 rfl ⟨rfl, (fun k => if k = 6 then a else if k = 7 then b7 else if k = 8 then b8 else if k = 9 then b9 else 0), rfl, ?_⟩
  rw [← ec]
  refine congrArg (fun z => ws ++ z) ?_
  rfl
set_option maxRecDepth 100000 in
set_option maxHeartbeats 2000000 in
theorem c_X8_init {δ : Dx} {ws : va_W} {a : Nat} {i : Int} : CtW δ md_X8_init 5 2180 (ws ++ [(a, .inr (8, [.int (iI 0), .int (iI 0), .int (iI 0), .int (iI 0), .int (iI 0), .int (iI 0), .int (iI 0), .int (iI 0), .int (iI 0), .int (iI 0), .null, .null, .null, .null, .null]))]) [.ref a] (fun v ws' => v = none ∧ ∃ b : Nat → Nat, b 16 = a ∧ ws' = ws ++ wl δ.2.2.1 [(16, i), (17, i), (18, i), (19, i), (20, i), (21, i)] (fun k _ => b k) Mem0) := by
  refine CtW_of (ins := .return_) (ok := okN) [some (.ref a)] (by decide +kernel) rfl (Nat.le_of_ble_eq_true rfl) (fun κ s hs X hr hQ hδ => endWN rfl hs X hr hQ hδ) (fun κ X hNL hδ hnm Y => ?_)
  have ec : kC κ = δ.2.2.1 := by rw [← hδ]
  refine h_aload_n X dX8_init_0 rfl rfl ?_
  refine h_oi X ml_X8_3 dX8_init_1 rfl ⟨Nat.le_of_ble_eq_true rfl, Nat.le_of_ble_eq_true rfl⟩ ?_
  refine h_aload_n X dX8_init_4 rfl rfl ?_
  refine h_bipush X dX8_init_5 rfl (by decide) ?_
  refine hp_newa X (atype := .int) (t0 := 0) (N' := 60) (a0 := (60, .inl (fun _ => iI 0))) ac_int rfl (fun _ _ h => h) (fun cA => rfl) rfl (Nat.le_of_ble_eq_true rfl) (by decide) ⟨Nat.le_of_ble_eq_true rfl, Nat.le_of_ble_eq_true rfl⟩ dX8_init_7 rfl (fun b17 => ?_)
  refine hp_putF X ci8 (j := 0) (f := 10) rfl (Nat.le_of_ble_eq_true rfl) rfl hnm rfl rfl rfl (Nat.le_of_ble_eq_true rfl) fl_X8_9 dX8_init_9 rfl ?_
  refine h_aload_n X dX8_init_12 rfl rfl ?_
  refine h_bipush X dX8_init_13 rfl (by decide) ?_
  refine hp_newa X (atype := .long) (t0 := 1) (N' := 60) (a0 := (60, .inr (.inl (fun _ => (0 : Int64))))) ac_long rfl (fun _ _ h => h) (fun cA => rfl) rfl (Nat.le_of_ble_eq_true rfl) (by decide) ⟨Nat.le_of_ble_eq_true rfl, Nat.le_of_ble_eq_true rfl⟩ dX8_init_15 rfl (fun b18 => ?_)
  refine hp_putF X ci8 (j := 0) (f := 11) rfl (Nat.le_of_ble_eq_true rfl) rfl hnm rfl rfl rfl (Nat.le_of_ble_eq_true rfl) fl_X8_15 dX8_init_17 rfl ?_
  refine h_aload_n X dX8_init_20 rfl rfl ?_
  refine h_bipush X dX8_init_21 rfl (by decide) ?_
  refine hp_newa X (atype := .boolean) (t0 := 2) (N' := 60) (a0 := (60, .inl (fun _ => iI 0))) ac_boolean rfl (fun _ _ h => h) (fun cA => rfl) rfl (Nat.le_of_ble_eq_true rfl) (by decide) ⟨Nat.le_of_ble_eq_true rfl, Nat.le_of_ble_eq_true rfl⟩ dX8_init_23 rfl (fun b19 => ?_)
  refine hp_putF X ci8 (j := 0) (f := 12) rfl (Nat.le_of_ble_eq_true rfl) rfl hnm rfl rfl rfl (Nat.le_of_ble_eq_true rfl) fl_X8_19 dX8_init_25 rfl ?_
  refine h_aload_n X dX8_init_28 rfl rfl ?_
  refine h_sipush X dX8_init_29 rfl (by decide) ?_
  refine hp_newa X (atype := .int) (t0 := 0) (N' := 1000) (a0 := (1000, .inl (fun _ => iI 0))) ac_int rfl (fun _ _ h => h) (fun cA => rfl) rfl (Nat.le_of_ble_eq_true rfl) (by decide) ⟨Nat.le_of_ble_eq_true rfl, Nat.le_of_ble_eq_true rfl⟩ dX8_init_32 rfl (fun b20 => ?_)
  refine hp_putF X ci8 (j := 0) (f := 13) rfl (Nat.le_of_ble_eq_true rfl) rfl hnm rfl rfl rfl (Nat.le_of_ble_eq_true rfl) fl_X8_23 dX8_init_34 rfl ?_
  refine h_aload_n X dX8_init_37 rfl rfl ?_
  refine h_sipush X dX8_init_38 rfl (by decide) ?_
  refine hp_newa X (atype := .boolean) (t0 := 2) (N' := 1000) (a0 := (1000, .inl (fun _ => iI 0))) ac_boolean rfl (fun _ _ h => h) (fun cA => rfl) rfl (Nat.le_of_ble_eq_true rfl) (by decide) ⟨Nat.le_of_ble_eq_true rfl, Nat.le_of_ble_eq_true rfl⟩ dX8_init_41 rfl (fun b21 => ?_)
  refine hp_putF X ci8 (j := 0) (f := 14) rfl (Nat.le_of_ble_eq_true rfl) rfl hnm rfl rfl rfl (Nat.le_of_ble_eq_true rfl) fl_X8_26 dX8_init_43 rfl ?_
  refine Y none _ _ _ dX8_init_46 rfl ⟨rfl, (fun k => if k = 16 then a else if k = 17 then b17 else if k = 18 then b18 else if k = 19 then b19 else if k = 20 then b20 else if k = 21 then b21 else 0), rfl, ?_⟩
  rw [← ec]
  refine congrArg (fun z => ws ++ z) ?_
  rfl
set_option maxRecDepth 100000 in
set_option maxHeartbeats 2000000 in
theorem c_X10_init {δ : Dx} {ws : va_W} {a : Nat} {i : Int} : CtW δ md_X10_init 8 200 (ws ++ [(a, .inr (10, [.int (iI 0), .int (iI 0), .int (iI 0), .int (iI 0), .int (iI 0), .null, .null, .null, .int (iI 0), .null, .null, .null, .null, .null]))]) [.ref a] (fun v ws' => v = none ∧ ∃ b : Nat → Nat, b 22 = a ∧ ws' = ws ++ wl δ.2.2.1 [(22, i), (23, i), (24, i), (25, i), (26, i), (27, i), (28, i), (29, i), (30, i)] (fun k _ => b k) Mem0) := by
  refine CtW_of (ins := .return_) (ok := okN) [some (.ref a)] (by decide +kernel) rfl (Nat.le_of_ble_eq_true rfl) (fun κ s hs X hr hQ hδ => endWN rfl hs X hr hQ hδ) (fun κ X hNL hδ hnm Y => ?_)
  have ec : kC κ = δ.2.2.1 := by rw [← hδ]
  refine h_aload_n X dX10_init_0 rfl rfl ?_
  refine h_oi X ml_X10_3 dX10_init_1 rfl ⟨Nat.le_of_ble_eq_true rfl, Nat.le_of_ble_eq_true rfl⟩ ?_
  refine h_aload_n X dX10_init_4 rfl rfl ?_
  refine h_bipush X dX10_init_5 rfl (by decide) ?_
  refine hp_newa X (atype := .int) (t0 := 0) (N' := 10) (a0 := (10, .inl (fun _ => iI 0))) ac_int rfl (fun _ _ h => h) (fun cA => rfl) rfl (Nat.le_of_ble_eq_true rfl) (by decide) ⟨Nat.le_of_ble_eq_true rfl, Nat.le_of_ble_eq_true rfl⟩ dX10_init_7 rfl (fun b23 => ?_)
  refine hp_putF X ci10 (j := 0) (f := 5) rfl (Nat.le_of_ble_eq_true rfl) rfl hnm rfl rfl rfl (Nat.le_of_ble_eq_true rfl) fl_X10_9 dX10_init_9 rfl ?_
  refine h_aload_n X dX10_init_12 rfl rfl ?_
  refine h_bipush X dX10_init_13 rfl (by decide) ?_
  refine hp_newa X (atype := .int) (t0 := 0) (N' := 10) (a0 := (10, .inl (fun _ => iI 0))) ac_int rfl (fun _ _ h => h) (fun cA => rfl) rfl (Nat.le_of_ble_eq_true rfl) (by decide) ⟨Nat.le_of_ble_eq_true rfl, Nat.le_of_ble_eq_true rfl⟩ dX10_init_15 rfl (fun b24 => ?_)
  refine hp_putF X ci10 (j := 0) (f := 6) rfl (Nat.le_of_ble_eq_true rfl) rfl hnm rfl rfl rfl (Nat.le_of_ble_eq_true rfl) fl_X10_15 dX10_init_17 rfl ?_
  refine h_aload_n X dX10_init_20 rfl rfl ?_
  refine h_bipush X dX10_init_21 rfl (by decide) ?_
  refine hp_newa X (atype := .int) (t0 := 0) (N' := 10) (a0 := (10, .inl (fun _ => iI 0))) ac_int rfl (fun _ _ h => h) (fun cA => rfl) rfl (Nat.le_of_ble_eq_true rfl) (by decide) ⟨Nat.le_of_ble_eq_true rfl, Nat.le_of_ble_eq_true rfl⟩ dX10_init_23 rfl (fun b25 => ?_)
  refine hp_putF X ci10 (j := 0) (f := 7) rfl (Nat.le_of_ble_eq_true rfl) rfl hnm rfl rfl rfl (Nat.le_of_ble_eq_true rfl) fl_X10_18 dX10_init_25 rfl ?_
  refine h_aload_n X dX10_init_28 rfl rfl ?_
  refine h_bipush X dX10_init_29 rfl (by decide) ?_
  refine hp_newa X (atype := .int) (t0 := 0) (N' := 40) (a0 := (40, .inl (fun _ => iI 0))) ac_int rfl (fun _ _ h => h) (fun cA => rfl) rfl (Nat.le_of_ble_eq_true rfl) (by decide) ⟨Nat.le_of_ble_eq_true rfl, Nat.le_of_ble_eq_true rfl⟩ dX10_init_31 rfl (fun b26 => ?_)
  refine hp_putF X ci10 (j := 0) (f := 9) rfl (Nat.le_of_ble_eq_true rfl) rfl hnm rfl rfl rfl (Nat.le_of_ble_eq_true rfl) fl_X10_21 dX10_init_33 rfl ?_
  refine h_aload_n X dX10_init_36 rfl rfl ?_
  refine h_bipush X dX10_init_37 rfl (by decide) ?_
  refine hp_newa X (atype := .int) (t0 := 0) (N' := 40) (a0 := (40, .inl (fun _ => iI 0))) ac_int rfl (fun _ _ h => h) (fun cA => rfl) rfl (Nat.le_of_ble_eq_true rfl) (by decide) ⟨Nat.le_of_ble_eq_true rfl, Nat.le_of_ble_eq_true rfl⟩ dX10_init_39 rfl (fun b27 => ?_)
  refine hp_putF X ci10 (j := 0) (f := 10) rfl (Nat.le_of_ble_eq_true rfl) rfl hnm rfl rfl rfl (Nat.le_of_ble_eq_true rfl) fl_X10_24 dX10_init_41 rfl ?_
  refine h_aload_n X dX10_init_44 rfl rfl ?_
  refine h_bipush X dX10_init_45 rfl (by decide) ?_
  refine hp_newa X (atype := .int) (t0 := 0) (N' := 40) (a0 := (40, .inl (fun _ => iI 0))) ac_int rfl (fun _ _ h => h) (fun cA => rfl) rfl (Nat.le_of_ble_eq_true rfl) (by decide) ⟨Nat.le_of_ble_eq_true rfl, Nat.le_of_ble_eq_true rfl⟩ dX10_init_47 rfl (fun b28 => ?_)
  refine hp_putF X ci10 (j := 0) (f := 11) rfl (Nat.le_of_ble_eq_true rfl) rfl hnm rfl rfl rfl (Nat.le_of_ble_eq_true rfl) fl_X10_27 dX10_init_49 rfl ?_
  refine h_aload_n X dX10_init_52 rfl rfl ?_
  refine h_bipush X dX10_init_53 rfl (by decide) ?_
  refine hp_newa X (atype := .int) (t0 := 0) (N' := 40) (a0 := (40, .inl (fun _ => iI 0))) ac_int rfl (fun _ _ h => h) (fun cA => rfl) rfl (Nat.le_of_ble_eq_true rfl) (by decide) ⟨Nat.le_of_ble_eq_true rfl, Nat.le_of_ble_eq_true rfl⟩ dX10_init_55 rfl (fun b29 => ?_)
  refine hp_putF X ci10 (j := 0) (f := 12) rfl (Nat.le_of_ble_eq_true rfl) rfl hnm rfl rfl rfl (Nat.le_of_ble_eq_true rfl) fl_X10_30 dX10_init_57 rfl ?_
  refine h_aload_n X dX10_init_60 rfl rfl ?_
  refine h_bipush X dX10_init_61 rfl (by decide) ?_
  refine hp_newa X (atype := .boolean) (t0 := 2) (N' := 10) (a0 := (10, .inl (fun _ => iI 0))) ac_boolean rfl (fun _ _ h => h) (fun cA => rfl) rfl (Nat.le_of_ble_eq_true rfl) (by decide) ⟨Nat.le_of_ble_eq_true rfl, Nat.le_of_ble_eq_true rfl⟩ dX10_init_63 rfl (fun b30 => ?_)
  refine hp_putF X ci10 (j := 0) (f := 13) rfl (Nat.le_of_ble_eq_true rfl) rfl hnm rfl rfl rfl (Nat.le_of_ble_eq_true rfl) fl_X10_33 dX10_init_65 rfl ?_
  refine Y none _ _ _ dX10_init_68 rfl ⟨rfl, (fun k => if k = 22 then a else if k = 23 then b23 else if k = 24 then b24 else if k = 25 then b25 else if k = 26 then b26 else if k = 27 then b27 else if k = 28 then b28 else if k = 29 then b29 else if k = 30 then b30 else 0), rfl, ?_⟩
  rw [← ec]
  refine congrArg (fun z => ws ++ z) ?_
  rfl
