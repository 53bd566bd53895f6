/-- a class of the world by its number: its words, its fields' types -/
def CI (ci : Nat) (C : String) (T : u_T) (N : Nat) (ty : Nat → FieldType) : Prop := vwCl[ci]? = some (C, T, N) ∧ (∀ w ∈ u_ws C T N, w ∈ Tb) ∧ (∀ k, k < N → parseFieldDescriptor (T k).2.2.1 = some (ty k)) ∧ (∀ a, a < N → ∀ b, b < N → a ≠ b → (T a).2.1 ≠ (T b).2.1)
theorem ci0 : CI 0 RX0 TX0 4 tyX0 := ⟨rfl, Tb_all (by decide +kernel), tyX0_ok, nmX0⟩
theorem ci1 : CI 1 RX1 TX1 1 tyX1 := ⟨rfl, Tb_all (by decide +kernel), tyX1_ok, nmX1⟩
theorem ci2 : CI 2 RX2 TX2 4 tyX2 := ⟨rfl, Tb_all (by decide +kernel), tyX2_ok, nmX2⟩
theorem ci3 : CI 3 RX3 TX3 8 tyX3 := ⟨rfl, Tb_all (by decide +kernel), tyX3_ok, nmX3⟩
theorem ci4 : CI 4 RX4 TX4 0 tyX4 := ⟨rfl, Tb_all (by decide +kernel), tyX4_ok, nmX4⟩
theorem ci5 : CI 5 RX5 TX5 0 tyX5 := ⟨rfl, Tb_all (by decide +kernel), tyX5_ok, nmX5⟩
theorem ci6 : CI 6 RX6 TX6 1 tyX6 := ⟨rfl, Tb_all (by decide +kernel), tyX6_ok, nmX6⟩
theorem ci8 : CI 8 RX8 TX8 15 tyX8 := ⟨rfl, Tb_all (by decide +kernel), tyX8_ok, nmX8⟩
theorem ci9 : CI 9 RX9 TX9 4 tyX9 := ⟨rfl, Tb_all (by decide +kernel), tyX9_ok, nmX9⟩
theorem ci10 : CI 10 RX10 TX10 14 tyX10 := ⟨rfl, Tb_all (by decide +kernel), tyX10_ok, nmX10⟩
theorem ci11 : CI 11 RX11 TX11 10 tyX11 := ⟨rfl, Tb_all (by decide +kernel), tyX11_ok, nmX11⟩
theorem ci12 : CI 12 RX12 TX12 49 tyX12 := ⟨rfl, Tb_all (by decide +kernel), tyX12_ok, nmX12⟩
section GH
variable {κ : Kx} {cc : ByteArray} {own : String} {rm : Room} {nm : List (Nat × Int)} {ad : Ad} {M : Mem} {pc pc' : Nat} {lv : List (Option Value)} {st : List Value} {cl sl : Nat}
theorem g_get (X : Cx κ cc own rm) {k ci N f ix : Nat} {i : Int} {C : String} {T : u_T} {ty : Nat → FieldType} {fs : List Value} {v : Value} (c : CI ci C T N ty) (hn : (k, i) ∈ nm) (he : ent (kC κ) ad M k i = .inr (ci, fs)) (hk : f < N) (hlk : Cond.fieldLink own ix (T f).1 (T f).2.1 (T f).2.2.1 ∈ Tb) (hv : fs[f]? = some v) (d : decode cc pc = .ok (.getfield ix, 3)) (e : pc + 3 = pc') (k1 : G κ nm ad M pc' lv (v :: st) cl sl) : G κ nm ad M pc lv (.ref (ad k i) :: st) cl sl := by
  subst e; intro hM H locs ls hP hD hS hl
  obtain ⟨q0, h0, h1⟩ := wl_get (c := kC κ) (ad := ad) (M := M) hn
  rw [he] at h1
  exact va_get X.1 X.2.1 X.2.2.2.2.1 c.2.1 X.2.2.2.1 X.2.2.2.2.2.1 hP q0 h1 c.1 f hk (X.2.2.2.2.1 _ hlk) (fun _ h => h) hv d (k1 hM H locs ls hP hD hS hl)
theorem g_getI (X : Cx κ cc own rm) {k ci N f ix : Nat} {i : Int} {C : String} {T : u_T} {ty : Nat → FieldType} {fs : List Value} (c : CI ci C T N ty) (hn : (k, i) ∈ nm) (he : ent (kC κ) ad M k i = .inr (ci, fs)) (hk : f < N) (hlk : Cond.fieldLink own ix (T f).1 (T f).2.1 (T f).2.2.1 ∈ Tb) (hv : fs[f]? = some (.int (iI (M.1 k f i 0)))) (d : decode cc pc = .ok (.getfield ix, 3)) (e : pc + 3 = pc') (k1 : rng (M.1 k f i 0) → G κ nm ad M pc' lv (.int (iI (M.1 k f i 0)) :: st) cl sl) : G κ nm ad M pc lv (.ref (ad k i) :: st) cl sl := by
  intro hM
  exact g_get X c hn he hk hlk hv d e (k1 (hM _ _ _ _)) hM
theorem g_put_ (X : Cx κ cc own rm) {k ci N f ix : Nat} {i : Int} {C : String} {T : u_T} {ty : Nat → FieldType} {fs : List Value} {v : Value} {M' : Mem} (c : CI ci C T N ty) (hn : (k, i) ∈ nm) (he : ent (kC κ) ad M k i = .inr (ci, fs)) (hu : ent (kC κ) ad M' k i = .inr (ci, fs.set f v)) (ho : ∀ k' i', (k', i') ≠ (k, i) → ent (kC κ) ad M' k' i' = ent (kC κ) ad M k' i') (hRM : RM M → RM M') (hk : f < N) (hfin : (T f).2.2.2 = false) (hnr : narrow (ty f) v = v) (hft : fits (ty f) v = true) (hlen : f < fs.length) (hlk : Cond.fieldLink own ix (T f).1 (T f).2.1 (T f).2.2.1 ∈ Tb) (d : decode cc pc = .ok (.putfield ix, 3)) (e : pc + 3 = pc') (k1 : G κ nm ad M' pc' lv st cl sl) : G κ nm ad M pc lv (v :: .ref (ad k i) :: st) cl sl := by
  subst e; intro hM H locs ls hP hD hS hl
  obtain ⟨q0, h0, h1⟩ := wl_get (c := kC κ) (ad := ad) (M := M) hn
  rw [he] at h1
  refine va_put X.1 X.2.1 X.2.2.2.2.1 c.2.1 ty c.2.2.1 c.2.2.2 X.2.2.2.1 X.2.2.2.2.2.1 hP hD hS q0 h1 c.1 f hk (X.2.2.2.2.1 _ hlk) (fun _ h => h) hfin (c.2.2.1 f hk) hnr hft hlen d (fun H1 locs1 hP1 hD1 hS1 => ?_)
  rw [wl_set hD h0 hu ho] at hP1 hD1
  exact k1 (hRM hM) H1 locs1 ls hP1 hD1 hS1 hl
theorem g_putI (X : Cx κ cc own rm) {k ci N f ix : Nat} {i z : Int} {C : String} {T : u_T} {ty : Nat → FieldType} {fs : List Value} (c : CI ci C T N ty) (hn : (k, i) ∈ nm) (he : ent (kC κ) ad M k i = .inr (ci, fs)) (hu : ent (kC κ) ad (setI M k f i 0 z) k i = .inr (ci, fs.set f (.int (iI z)))) (hz : rng z) (hk : f < N) (hfin : (T f).2.2.2 = false) (hnr : narrow (ty f) (.int (iI z)) = .int (iI z)) (hft : fits (ty f) (.int (iI z)) = true) (hlen : f < fs.length) (hlk : Cond.fieldLink own ix (T f).1 (T f).2.1 (T f).2.2.1 ∈ Tb) (d : decode cc pc = .ok (.putfield ix, 3)) (e : pc + 3 = pc') (k1 : G κ nm ad (setI M k f i 0 z) pc' lv st cl sl) : G κ nm ad M pc lv (.int (iI z) :: .ref (ad k i) :: st) cl sl :=
  g_put_ X c hn he hu ent_setI_ne (fun h => RM_setI h hz) hk hfin hnr hft hlen hlk d e k1
theorem g_putL (X : Cx κ cc own rm) {k ci N f ix : Nat} {i : Int} {z : Int64} {C : String} {T : u_T} {ty : Nat → FieldType} {fs : List Value} (c : CI ci C T N ty) (hn : (k, i) ∈ nm) (he : ent (kC κ) ad M k i = .inr (ci, fs)) (hu : ent (kC κ) ad (setL M k f i 0 z) k i = .inr (ci, fs.set f (.long z))) (hk : f < N) (hfin : (T f).2.2.2 = false) (hnr : narrow (ty f) (.long z) = .long z) (hft : fits (ty f) (.long z) = true) (hlen : f < fs.length) (hlk : Cond.fieldLink own ix (T f).1 (T f).2.1 (T f).2.2.1 ∈ Tb) (d : decode cc pc = .ok (.putfield ix, 3)) (e : pc + 3 = pc') (k1 : G κ nm ad (setL M k f i 0 z) pc' lv st cl sl) : G κ nm ad M pc lv (.long z :: .ref (ad k i) :: st) cl sl :=
  g_put_ X c hn he hu ent_setL_ne (fun h => RM_setL h) hk hfin hnr hft hlen hlk d e k1
theorem nar01 {z : Int} (h : z = 0 ∨ z = 1) : narrow .boolean (.int (iI z)) = .int (iI z) := by rcases h with h | h <;> rw [h] <;> decide
theorem fit01 {z : Int} (h : z = 0 ∨ z = 1) : fits .boolean (.int (iI z)) = true := by rcases h with h | h <;> rw [h] <;> decide
theorem vnar01 {z : Int} (h : z = 0 ∨ z = 1) : vp_nar .boolean (iI z) = iI z := by rcases h with h | h <;> rw [h] <;> decide
theorem g_iald (X : Cx κ cc own rm) {k n t0 : Nat} {i z : Int} {cA : ClassId} (d : decode cc pc = .ok (.iaload, 1)) (e : pc + 1 = pc') (hn : (k, i) ∈ nm) (he : ent (kC κ) ad M k i = .inl (cA, n, .inl (fun j : Nat => iI (M.1 k 0 i (j : Int))))) (ht : (tysO (kC κ))[t0]? = some (cA, .int)) (h0 : 0 ≤ z) (h1 : z < (n : Int)) (h2 : n ≤ 2147483647) (k1 : rng (M.1 k 0 i z) → G κ nm ad M pc' lv (.int (iI (M.1 k 0 i z)) :: st) cl sl) : G κ nm ad M pc lv (.int (iI z) :: .ref (ad k i) :: st) cl sl := by
  subst e; intro hM H locs ls hP hD hS hl
  obtain ⟨q0, h3, h4⟩ := wl_get (c := kC κ) (ad := ad) (M := M) hn
  rw [he] at h4
  refine va_iald X.1 X.2.1 X.2.2.2.2.2.1 hP q0 t0 h4 ht (iI_in h0 h1 h2) d ?_
  rw [iI_cl h0 (by omega)]
  try dsimp only
  rw [Int.toNat_of_nonneg h0]
  exact k1 (hM _ _ _ _) hM H locs ls hP hD hS hl
theorem g_zald (X : Cx κ cc own rm) {k n t0 : Nat} {i z : Int} {cA : ClassId} (d : decode cc pc = .ok (.baload, 1)) (e : pc + 1 = pc') (hn : (k, i) ∈ nm) (he : ent (kC κ) ad M k i = .inl (cA, n, .inl (fun j : Nat => iI (M.1 k 0 i (j : Int))))) (ht : (tysO (kC κ))[t0]? = some (cA, .boolean)) (h0 : 0 ≤ z) (h1 : z < (n : Int)) (h2 : n ≤ 2147483647) (k1 : rng (M.1 k 0 i z) → G κ nm ad M pc' lv (.int (iI (M.1 k 0 i z)) :: st) cl sl) : G κ nm ad M pc lv (.int (iI z) :: .ref (ad k i) :: st) cl sl := by
  subst e; intro hM H locs ls hP hD hS hl
  obtain ⟨q0, h3, h4⟩ := wl_get (c := kC κ) (ad := ad) (M := M) hn
  rw [he] at h4
  refine va_zald X.1 X.2.1 X.2.2.2.2.2.1 hP q0 t0 h4 ht (iI_in h0 h1 h2) d ?_
  rw [iI_cl h0 (by omega)]
  try dsimp only
  rw [Int.toNat_of_nonneg h0]
  exact k1 (hM _ _ _ _) hM H locs ls hP hD hS hl
theorem g_lald (X : Cx κ cc own rm) {k n t0 : Nat} {i z : Int} {cA : ClassId} (d : decode cc pc = .ok (.laload, 1)) (e : pc + 1 = pc') (hn : (k, i) ∈ nm) (he : ent (kC κ) ad M k i = .inl (cA, n, .inr (.inl (fun j : Nat => M.2 k 0 i (j : Int))))) (ht : (tysO (kC κ))[t0]? = some (cA, .long)) (h0 : 0 ≤ z) (h1 : z < (n : Int)) (h2 : n ≤ 2147483647) (k1 : G κ nm ad M pc' lv (.long (M.2 k 0 i z) :: st) cl sl) : G κ nm ad M pc lv (.int (iI z) :: .ref (ad k i) :: st) cl sl := by
  subst e; intro hM H locs ls hP hD hS hl
  obtain ⟨q0, h3, h4⟩ := wl_get (c := kC κ) (ad := ad) (M := M) hn
  rw [he] at h4
  refine va_lald X.1 X.2.1 X.2.2.2.2.2.1 hP q0 t0 h4 ht (iI_in h0 h1 h2) d ?_
  rw [iI_cl h0 (by omega)]
  try dsimp only
  rw [Int.toNat_of_nonneg h0]
  exact k1 hM H locs ls hP hD hS hl
theorem g_dald (X : Cx κ cc own rm) {k n t0 : Nat} {i z : Int} {cA : ClassId} (d : decode cc pc = .ok (.daload, 1)) (e : pc + 1 = pc') (hn : (k, i) ∈ nm) (he : ent (kC κ) ad M k i = .inl (cA, n, .inr (.inr (.inr (.inl (fun j : Nat => (M.2 k 0 i (j : Int)).toUInt64)))))) (ht : (tysO (kC κ))[t0]? = some (cA, .double)) (h0 : 0 ≤ z) (h1 : z < (n : Int)) (h2 : n ≤ 2147483647) (k1 : G κ nm ad M pc' lv (.double (M.2 k 0 i z).toUInt64 :: st) cl sl) : G κ nm ad M pc lv (.int (iI z) :: .ref (ad k i) :: st) cl sl := by
  subst e; intro hM H locs ls hP hD hS hl
  obtain ⟨q0, h3, h4⟩ := wl_get (c := kC κ) (ad := ad) (M := M) hn
  rw [he] at h4
  refine va_dald X.1 X.2.1 X.2.2.2.2.2.1 hP q0 t0 h4 ht (iI_in h0 h1 h2) d ?_
  rw [iI_cl h0 (by omega)]
  try dsimp only
  rw [Int.toNat_of_nonneg h0]
  exact k1 hM H locs ls hP hD hS hl
theorem g_rald (X : Cx κ cc own rm) {k k2 n t0 : Nat} {i z : Int} {cA : ClassId} {C : String} (hn : (k, i) ∈ nm) (he : ent (kC κ) ad M k i = .inl (cA, n, .inr (.inr (.inr (.inr (fun j : Nat => some (ad k2 (j : Int)))))))) (ht : (tysO (kC κ))[t0]? = some (cA, .object C)) (h0 : 0 ≤ z) (h1 : z < (n : Int)) (h2 : n ≤ 2147483647) (d : decode cc pc = .ok (.aaload, 1)) (e : pc + 1 = pc') (k1 : G κ nm ad M pc' lv (.ref (ad k2 z) :: st) cl sl) : G κ nm ad M pc lv (.int (iI z) :: .ref (ad k i) :: st) cl sl := by
  subst e; intro hM H locs ls hP hD hS hl
  obtain ⟨q0, h3, h4⟩ := wl_get (c := kC κ) (ad := ad) (M := M) hn
  rw [he] at h4
  refine va_aldq X.1 X.2.1 X.2.2.2.2.2.1 hP q0 t0 h4 ht (iI_in h0 h1 h2) d ?_
  rw [iI_cl h0 (by omega)]
  try dsimp only
  rw [Int.toNat_of_nonneg h0]
  exact k1 hM H locs ls hP hD hS hl
theorem g_rrald (X : Cx κ cc own rm) {k k2 n t0 : Nat} {i z : Int} {cA : ClassId} (hn : (k, i) ∈ nm) (he : ent (kC κ) ad M k i = .inl (cA, n, .inr (.inr (.inr (.inr (fun j : Nat => some (ad k2 (j : Int)))))))) (ht : (tysO (kC κ))[t0]? = some (cA, .array .int)) (h0 : 0 ≤ z) (h1 : z < (n : Int)) (h2 : n ≤ 2147483647) (d : decode cc pc = .ok (.aaload, 1)) (e : pc + 1 = pc') (k1 : G κ nm ad M pc' lv (.ref (ad k2 z) :: st) cl sl) : G κ nm ad M pc lv (.int (iI z) :: .ref (ad k i) :: st) cl sl := by
  subst e; intro hM H locs ls hP hD hS hl
  obtain ⟨q0, h3, h4⟩ := wl_get (c := kC κ) (ad := ad) (M := M) hn
  rw [he] at h4
  have hin := iI_in h0 h1 h2
  have hlt : (iI z).toNatClampNeg < n := Nat.not_le.mp fun q => hin (Or.inr q)
  refine W.aald (v := .ref (ad k2 z)) (ty := .array .int) X.1 X.2.1 (hP q0 _ h4) ((X.2.2.2.2.2.1.2 t0 _ ht).1 n (fun j => va_rf (some (ad k2 (j : Int))))) rfl (fun q => by cases q) (by show ¬ (iI z < 0 ∨ (arrV _ _ _).slots.size ≤ _); rw [arrV_size]; exact hin) (by show (arrV _ _ _).slots[_]? = _; rw [arrV_read _ _ hlt, iI_cl h0 (by omega)]; show some (va_rf (some (ad k2 ((z.toNat : Nat) : Int)))) = _; rw [Int.toNat_of_nonneg h0]; rfl) rfl rfl d (k1 hM H locs ls hP hD hS hl)
theorem updI {M : Mem} {k : Nat} {i z v : Int} (h0 : 0 ≤ z) : upd (fun j : Nat => iI (M.1 k 0 i (j : Int))) z.toNat (iI v) = (fun j : Nat => iI ((setI M k 0 i z v).1 k 0 i (j : Int))) := by
  funext j
  unfold upd
  rw [setI_1]
  by_cases h : j = z.toNat
  · rw [if_pos h, if_pos ⟨rfl, rfl, rfl, by omega⟩]
  · rw [if_neg h, if_neg (fun q => h (by have := q.2.2.2; omega))]
theorem updL {M : Mem} {k : Nat} {i z : Int} {v : Int64} (h0 : 0 ≤ z) : vp_updL (fun j : Nat => M.2 k 0 i (j : Int)) z.toNat v = (fun j : Nat => (setL M k 0 i z v).2 k 0 i (j : Int)) := by
  funext j
  unfold vp_updL
  rw [setL_2]
  by_cases h : j = z.toNat
  · rw [if_pos h, if_pos ⟨rfl, rfl, rfl, by omega⟩]
  · rw [if_neg h, if_neg (fun q => h (by have := q.2.2.2; omega))]
theorem updD {M : Mem} {k : Nat} {i z : Int} {v : UInt64} (h0 : 0 ≤ z) : vf_upd (fun j : Nat => (M.2 k 0 i (j : Int)).toUInt64) z.toNat v = (fun j : Nat => ((setL M k 0 i z v.toInt64).2 k 0 i (j : Int)).toUInt64) := by
  funext j
  unfold vf_upd
  rw [setL_2]
  by_cases h : j = z.toNat
  · rw [if_pos h, if_pos ⟨rfl, rfl, rfl, by omega⟩]; rfl
  · rw [if_neg h, if_neg (fun q => h (by have := q.2.2.2; omega))]
theorem g_iast (X : Cx κ cc own rm) {k n t0 : Nat} {i z : Int} {v : Int} {cA : ClassId} (hn : (k, i) ∈ nm) (he : ent (kC κ) ad M k i = .inl (cA, n, .inl (fun j : Nat => iI (M.1 k 0 i (j : Int))))) (he2 : ent (kC κ) ad (setI M k 0 i z v) k i = .inl (cA, n, .inl (fun j : Nat => iI ((setI M k 0 i z v).1 k 0 i (j : Int))))) (ht : (tysO (kC κ))[t0]? = some (cA, .int)) (h0 : 0 ≤ z) (h1 : z < (n : Int)) (h2 : n ≤ 2147483647) (hv : rng v) (d : decode cc pc = .ok (.iastore, 1)) (e : pc + 1 = pc') (k1 : G κ nm ad (setI M k 0 i z v) pc' lv st cl sl) : G κ nm ad M pc lv (.int (iI v) :: .int (iI z) :: .ref (ad k i) :: st) cl sl := by
  subst e; intro hM H locs ls hP hD hS hl
  obtain ⟨q0, h3, h4⟩ := wl_get (c := kC κ) (ad := ad) (M := M) hn
  rw [he] at h4
  refine va_iast X.1 X.2.1 X.2.2.2.2.2.1 hP hD hS q0 t0 h4 ht (iI_in h0 h1 h2) d (fun H1 locs1 hP1 hD1 hS1 => ?_)
  rw [iI_cl h0 (by omega), updI h0] at hP1 hD1
  rw [wl_set hD h3 he2 ent_setI_ne] at hP1 hD1
  exact k1 (RM_setI hM hv) H1 locs1 ls hP1 hD1 hS1 hl
theorem g_zast (X : Cx κ cc own rm) {k n t0 : Nat} {i z : Int} {v : Int} {cA : ClassId} (hn : (k, i) ∈ nm) (he : ent (kC κ) ad M k i = .inl (cA, n, .inl (fun j : Nat => iI (M.1 k 0 i (j : Int))))) (he2 : ent (kC κ) ad (setI M k 0 i z v) k i = .inl (cA, n, .inl (fun j : Nat => iI ((setI M k 0 i z v).1 k 0 i (j : Int))))) (ht : (tysO (kC κ))[t0]? = some (cA, .boolean)) (h0 : 0 ≤ z) (h1 : z < (n : Int)) (h2 : n ≤ 2147483647) (hv : v = 0 ∨ v = 1) (d : decode cc pc = .ok (.bastore, 1)) (e : pc + 1 = pc') (k1 : G κ nm ad (setI M k 0 i z v) pc' lv st cl sl) : G κ nm ad M pc lv (.int (iI v) :: .int (iI z) :: .ref (ad k i) :: st) cl sl := by
  subst e; intro hM H locs ls hP hD hS hl
  obtain ⟨q0, h3, h4⟩ := wl_get (c := kC κ) (ad := ad) (M := M) hn
  rw [he] at h4
  refine va_zast X.1 X.2.1 X.2.2.2.2.2.1 hP hD hS q0 t0 h4 ht (iI_in h0 h1 h2) d (fun H1 locs1 hP1 hD1 hS1 => ?_)
  rw [iI_cl h0 (by omega), vnar01 hv, updI h0] at hP1 hD1
  rw [wl_set hD h3 he2 ent_setI_ne] at hP1 hD1
  exact k1 (RM_setI hM (by rcases hv with h | h <;> rw [h] <;> decide)) H1 locs1 ls hP1 hD1 hS1 hl
theorem g_last (X : Cx κ cc own rm) {k n t0 : Nat} {i z : Int} {v : Int64} {cA : ClassId} (hn : (k, i) ∈ nm) (he : ent (kC κ) ad M k i = .inl (cA, n, .inr (.inl (fun j : Nat => M.2 k 0 i (j : Int))))) (he2 : ent (kC κ) ad (setL M k 0 i z v) k i = .inl (cA, n, .inr (.inl (fun j : Nat => (setL M k 0 i z v).2 k 0 i (j : Int))))) (ht : (tysO (kC κ))[t0]? = some (cA, .long)) (h0 : 0 ≤ z) (h1 : z < (n : Int)) (h2 : n ≤ 2147483647) (d : decode cc pc = .ok (.lastore, 1)) (e : pc + 1 = pc') (k1 : G κ nm ad (setL M k 0 i z v) pc' lv st cl sl) : G κ nm ad M pc lv (.long v :: .int (iI z) :: .ref (ad k i) :: st) cl sl := by
  subst e; intro hM H locs ls hP hD hS hl
  obtain ⟨q0, h3, h4⟩ := wl_get (c := kC κ) (ad := ad) (M := M) hn
  rw [he] at h4
  refine va_last X.1 X.2.1 X.2.2.2.2.2.1 hP hD hS q0 t0 h4 ht (iI_in h0 h1 h2) d (fun H1 locs1 hP1 hD1 hS1 => ?_)
  rw [iI_cl h0 (by omega), updL h0] at hP1 hD1
  rw [wl_set hD h3 he2 ent_setL_ne] at hP1 hD1
  exact k1 (RM_setL hM) H1 locs1 ls hP1 hD1 hS1 hl
theorem g_dast (X : Cx κ cc own rm) {k n t0 : Nat} {i z : Int} {v : UInt64} {cA : ClassId} (hn : (k, i) ∈ nm) (he : ent (kC κ) ad M k i = .inl (cA, n, .inr (.inr (.inr (.inl (fun j : Nat => (M.2 k 0 i (j : Int)).toUInt64)))))) (he2 : ent (kC κ) ad (setL M k 0 i z v.toInt64) k i = .inl (cA, n, .inr (.inr (.inr (.inl (fun j : Nat => ((setL M k 0 i z v.toInt64).2 k 0 i (j : Int)).toUInt64)))))) (ht : (tysO (kC κ))[t0]? = some (cA, .double)) (h0 : 0 ≤ z) (h1 : z < (n : Int)) (h2 : n ≤ 2147483647) (d : decode cc pc = .ok (.dastore, 1)) (e : pc + 1 = pc') (k1 : G κ nm ad (setL M k 0 i z v.toInt64) pc' lv st cl sl) : G κ nm ad M pc lv (.double v :: .int (iI z) :: .ref (ad k i) :: st) cl sl := by
  subst e; intro hM H locs ls hP hD hS hl
  obtain ⟨q0, h3, h4⟩ := wl_get (c := kC κ) (ad := ad) (M := M) hn
  rw [he] at h4
  refine va_dast X.1 X.2.1 X.2.2.2.2.2.1 hP hD hS q0 t0 h4 ht (iI_in h0 h1 h2) d (fun H1 locs1 hP1 hD1 hS1 => ?_)
  rw [iI_cl h0 (by omega), updD h0] at hP1 hD1
  rw [wl_set hD h3 he2 ent_setL_ne] at hP1 hD1
  exact k1 (RM_setL hM) H1 locs1 ls hP1 hD1 hS1 hl
theorem g_alen (X : Cx κ cc own rm) {k n t0 : Nat} {i : Int} {cA : ClassId} {f : (Nat → Int32) ⊕ (Nat → Int64) ⊕ (Nat → UInt32) ⊕ (Nat → UInt64) ⊕ (Nat → Option Nat)} {ty : FieldType} (hn : (k, i) ∈ nm) (he : ent (kC κ) ad M k i = .inl (cA, n, f)) (ht : (tysO (kC κ))[t0]? = some (cA, ty)) (d : decode cc pc = .ok (.arraylength, 1)) (e : pc + 1 = pc') (k1 : G κ nm ad M pc' lv (.int (iI (n : Int)) :: st) cl sl) : G κ nm ad M pc lv (.ref (ad k i) :: st) cl sl := by
  subst e; intro hM H locs ls hP hD hS hl
  obtain ⟨q0, h3, h4⟩ := wl_get (c := kC κ) (ad := ad) (M := M) hn
  rw [he] at h4
  exact va_alen X.1 X.2.1 X.2.2.2.2.2.1 hP q0 t0 h4 ht (v := iI (n : Int)) Int32.ofInt_eq_ofNat.symm d (k1 hM H locs ls hP hD hS hl)
/-! contracts -/
abbrev Dx : Type := Launch × va_G × (Nat → ClassId) × (Nat → Prop)
abbrev kδ (κ : Kx) : Dx := (kl κ, kD κ, kC κ, kA κ)
def Pre (δ : Dx) (nm : List (Nat × Int)) (ad : Ad) (M : Mem) (U : State) : Prop := (∀ q, U.heap.size ≤ q → δ.2.2.2 q) ∧ va_K δ.2.1 vwCl (tysO δ.2.2.1) U ∧ Zz δ.2.2.2 U ∧ RM M ∧ va_P δ.2.1 vwCl (wl δ.2.2.1 nm ad M) U.heap ∧ va_D δ.2.2.2 (wl δ.2.2.1 nm ad M)
def Qct (δ : Dx) (nm : List (Nat × Int)) (post : Option Value → Ad → Mem → Prop) (st : State) (o : Outcome) (t : State) : Prop := (∃ (v : Option Value) (ad' : Ad) (M' : Mem), o = .returned v ∧ post v ad' M' ∧ RM M' ∧ va_P δ.2.1 vwCl (wl δ.2.2.1 nm ad' M') t.heap ∧ va_D δ.2.2.2 (wl δ.2.2.1 nm ad' M')) ∧ va_F δ.2.2.2 st t
def Ct (δ : Dx) (d : Md) (mc ms : Nat) (nm : List (Nat × Int)) (ad : Ad) (M : Mem) (av : List Value) (post : Option Value → Ad → Mem → Prop) : Prop :=
  δ.1.stackTraces = false → Met δ.1 d.1 (mcode d :: Tb) { frames := d.2.2.2.2.1, cells := mc, slots := ms, locals := d.2.2.2.2.2 } (va_Pc av (Pre δ nm ad M)) (fun _ st o t => Qct δ nm post st o t) mc ms δ.2.2.2
/-- what it may throw: then the world is as it was -/
def XCt (δ : Dx) (nm : List (Nat × Int)) (ad : Ad) (M : Mem) (px : String → Prop) (E : String) (st t : State) : Prop := px E ∧ RM M ∧ va_P δ.2.1 vwCl (wl δ.2.2.1 nm ad M) t.heap ∧ va_D δ.2.2.2 (wl δ.2.2.1 nm ad M) ∧ va_F δ.2.2.2 st t
def CtX (δ : Dx) (d : Md) (mc ms : Nat) (nm : List (Nat × Int)) (ad : Ad) (M : Mem) (av : List Value) (post : Option Value → Ad → Mem → Prop) (px : String → Prop) : Prop :=
  δ.1.stackTraces = false → vx_Met δ.1 d.1 (mcode d :: Tb) { frames := d.2.2.2.2.1, cells := mc, slots := ms, locals := d.2.2.2.2.2 } (va_Pc av (Pre δ nm ad M)) (fun _ st o t => Qct δ nm post st o t) (XCt δ nm ad M px) mc ms δ.2.2.2
theorem Pre_blind {δ : Dx} {av : List Value} : FrameBlind (va_Pc av (Pre δ nm ad M)) := fun a U g mk q => ⟨q.1, q.2.1, va_K.moved (u := U) (U := U.calling g mk a) (Vm.Alike.refl U.vm) q.2.2.1, Zz.on (s := U) (U := U.calling g mk a) (H := U.heap) (locs := []) q.2.2.2.1 va_S.rf rfl (State.WarmedH.refl U), q.2.2.2.2⟩
def pV (x : Value) (ad2 : Ad) (M2 : Mem) : Option Value → Ad → Mem → Prop := fun v ad' M' => v = some x ∧ ad' = ad2 ∧ M' = M2
def pN (ad2 : Ad) (M2 : Mem) : Option Value → Ad → Mem → Prop := fun v ad' M' => v = none ∧ ad' = ad2 ∧ M' = M2
theorem Ct.mono {δ : Dx} {d : Md} {mc ms : Nat} {av : List Value} {post post' : Option Value → Ad → Mem → Prop} (h : Ct δ d mc ms nm ad M av post) (hp : ∀ v ad' M', post v ad' M' → post' v ad' M') : Ct δ d mc ms nm ad M av post' := fun hf => MetFree.mono (h hf) (fun _ _ q => q) (fun _ _ _ _ _ q => q) (fun a s o t _ q => ⟨⟨(fun ⟨v, ad', M', h1, h2, h3⟩ => ⟨v, ad', M', h1, hp _ _ _ h2, h3⟩) q.1.1, q.1.2⟩, q.2⟩)
end GH
