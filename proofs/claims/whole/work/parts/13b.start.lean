/-- the names of the law's world -/
def NML : List (Nat × Int) := ((NMC ++ [(40, 0), (41, 0), (42, 0), (43, 0), (44, 0), (45, 0), (46, 0), (47, 0), (48, 0), (49, 0), (50, 0), (51, 0), (52, 0), (53, 0), (54, 0), (55, 0), (56, 0), (57, 0), (58, 0), (59, 0), (60, 0), (61, 0), (62, 0), (63, 0), (64, 0), (65, 0), (66, 0), (67, 0), (68, 0), (69, 0), (70, 0), (71, 0), (72, 0), (73, 0), (74, 0), (75, 0), (76, 0), (77, 0), (78, 0), (79, 0)]) ++ [(90, 0)]) ++ [(91, 0)]
theorem nmc_le : ∀ z ∈ NMC, z.1 ≤ 31 := by
  intro z hz
  obtain ⟨k, i⟩ := z
  simp only [NMC, List.mem_append, List.mem_cons, List.not_mem_nil, or_false, Prod.mk.injEq, mem_nms] at hz
  show k ≤ 31
  omega
theorem nmc_ref : ∀ k, k ≤ 31 → ∀ k' ∈ refK k, k' ≤ 31 := by decide
theorem NML_M : NmM NML := by
  intro z hz
  obtain ⟨k, i⟩ := z
  unfold NML at hz
  rcases List.mem_append.mp hz with hz | hz
  · rcases List.mem_append.mp hz with hz | hz
    · rcases List.mem_append.mp hz with hz | hz
      · have := nmc_le _ hz
        show k ≠ 95 ∧ k ≠ 96
        have h2 : k ≤ 31 := this
        omega
      · simp only [List.mem_cons, List.not_mem_nil, or_false, Prod.mk.injEq] at hz
        show k ≠ 95 ∧ k ≠ 96
        omega
    · simp only [List.mem_cons, List.not_mem_nil, or_false, Prod.mk.injEq] at hz
      show k ≠ 95 ∧ k ≠ 96
      omega
  · simp only [List.mem_cons, List.not_mem_nil, or_false, Prod.mk.injEq] at hz
    show k ≠ 95 ∧ k ≠ 96
    omega
theorem nml_all : (List.range 97).all (fun k : Nat => (List.range (cntK k).toNat).all (fun i : Nat => NML.contains (k, (i : Int)))) = true := by decide +kernel
theorem NML_ok : NmOk NML := by
  intro k i h0 h1
  by_cases hk : k < 97
  · have h := List.all_eq_true.mp nml_all k (List.mem_range.mpr hk)
    have h2 := List.all_eq_true.mp h i.toNat (List.mem_range.mpr (by omega))
    rw [show ((i.toNat : Nat) : Int) = i by omega] at h2
    simpa using h2
  · obtain ⟨m, rfl⟩ : ∃ m, k = m + 97 := ⟨k - 97, by omega⟩
    have : cntK (m + 97) = 0 := rfl
    omega
theorem inv0 : Inv 0 Mem0 Mem0 := by
  have z1 : ∀ (k f : Nat) (i j : Int), mem0 k f = 0 → Mem0.1 k f i j = 0 := fun k f i j h => h
  have z2 : ∀ (k f : Nat) (i j : Int), Mem0.2 k f i j = 0 := fun _ _ _ _ => rfl
  have c0 : (Mem0.1 0 1 0 0) = 0 := rfl
  have c1 : (Mem0.1 0 6 0 0) = 0 := rfl
  have c2 : (Mem0.1 0 7 0 0) = 0 := rfl
  have c3 : (Mem0.1 6 0 0 0) = 0 := rfl
  have c4 : (Mem0.1 10 0 0 0) = 0 := rfl
  have c5 : (Mem0.1 12 0 0 0) = 0 := rfl
  refine ⟨⟨?_, ?_, ?_, ?_, ?_, ?_, ?_, ?_, ?_, ?_, ?_, ?_⟩, ⟨?_, ?_, ?_, ?_, ?_, ?_, ?_, ?_, ?_⟩, ⟨?_, ?_, ?_, ?_⟩, ⟨?_, ?_, ?_, ?_, ?_⟩, ⟨?_, ?_, ?_, ?_, ?_⟩, ⟨?_, ?_, ?_, ?_, ?_, ?_⟩⟩
  · rw [c0]; decide
  · exact ⟨by decide, by decide⟩
  · exact ⟨by decide, by decide⟩
  · intro i i0 i1; rw [c0] at i1; omega
  · intro i i0 i1; rw [c0] at i1; omega
  · intro i i0 i1
    exact ⟨rfl, rfl, rfl, fun _ _ _ => rfl, fun _ _ _ => rfl⟩
  · exact ⟨fun _ => rfl, fun _ => rfl⟩
  · exact ⟨rfl, rfl, rfl⟩
  · intro i i0 i1; rw [c0] at i1; omega
  · intro i i0 i1; exact ⟨rfl, rfl⟩
  · intro i k i0 i1; rw [c0] at i1; omega
  · intro i k i0 i1 k0 k1; rfl
  · rw [c1]; decide
  · intro v v0 v1; rw [c1] at v1; omega
  · intro v v0 v1; exact ⟨Int.le_refl 0, Int.le_refl 0⟩
  · intro v v0 v1; exact ⟨rfl, rfl, rfl, rfl, fun _ _ _ => rfl⟩
  · rfl
  · intro v v0 v1; rw [c1] at v1; omega
  · intro v v0 v1; exact ⟨rfl, rfl⟩
  · intro v s v0 v1; rw [c1] at v1; omega
  · intro v h v0 v1 h0 h1
    rcases (show h = 0 ∨ h = 1 ∨ h = 2 ∨ h = 3 ∨ h = 4 ∨ h = 5 ∨ h = 6 ∨ h = 7 ∨ h = 8 ∨ h = 9 by omega) with h | h | h | h | h | h | h | h | h | h <;> subst h <;> (show abit 0 _ = 0; decide)
  · rw [c3]; decide
  · intro j j0 j1; rw [c3] at j1; omega
  · rfl
  · intro j j0 j1; rw [c3] at j1; omega
  · rw [c2]; decide
  · rfl
  · intro v v0 v1; rw [c2, sm_0 _ (Int.le_refl _)]; rfl
  · intro g g0 g1; rw [c2] at g1; omega
  · intro v k v0 v1 k0 k1
    have : (Mem0.1 22 8 v 0) = 0 := rfl
    omega
  · rw [c4]; decide
  · exact ⟨by decide, by decide⟩
  · intro k k0 k1; rw [c4] at k1; omega
  · exact ⟨rfl, rfl⟩
  · intro k k0 k1; rw [c4] at k1; omega
  · exact ⟨rfl, rfl, Or.inl rfl, by decide, by decide⟩
  · rw [c5]; decide
  · intro k k0 k1; exact ⟨Int.le_refl 0, Int.le_refl 0⟩
  · rfl
  · intro j j0 j1; rw [c5] at j1; omega
  · intro k k0 k1; rw [c4] at k1; omega
theorem arr_of {s : State} {cA comp : ClassId} {kA : Class} {ty : FieldType} (h1 : s.vm.classes[cA]? = some kA) (h2 : kA.kind = .array comp ty) : ArrOfT s cA ty := fun _ _ => ⟨(fun k h => by cases h), kA, h1, comp, h2⟩
theorem start_K {args : Array Value} {s : State} (hts : ∀ w ∈ lw_tbl, w.before args s = true) : ∃ (D : va_G) (c : Nat → ClassId), va_K D vwCl (tysO c) s := by
  have kn : ∀ (C : String) (T : u_T) (N : Nat) (ty : Nat → FieldType) (ci : Nat), CI ci C T N ty → Cond.instantiable C N ∈ Tb → ∃ (cC : ClassId) (iS : Nat → Nat), u_Kn s C T N cC iS := fun C T N ty ci c hi => u_known (ws := Tb) (fun w hw => hts w (Tb_in hw)) c.2.1 (hts _ (Tb_in hi))
  obtain ⟨e0, i0, k0⟩ := kn RX0 TX0 4 _ _ ci0 it_X0
  obtain ⟨e1, i1, k1⟩ := kn RX1 TX1 1 _ _ ci1 it_X1
  obtain ⟨e2, i2, k2⟩ := kn RX2 TX2 4 _ _ ci2 it_X2
  obtain ⟨e3, i3, k3⟩ := kn RX3 TX3 8 _ _ ci3 it_X3
  obtain ⟨e4, i4, k4⟩ := kn RX4 TX4 0 _ _ ci4 it_X4
  obtain ⟨e5, i5, k5⟩ : ∃ (cC : ClassId) (iS : Nat → Nat), u_Kn s RX5 TX5 0 cC iS := by
    obtain ⟨p, k, kp, h1, -, h3, -, -, h6, -⟩ := Cond.superclass_spec (cls := RX4) (sup := RX5) k4.2.1 (hts _ (List.mem_of_getElem? (i := 372) (by decide +kernel)))
    exact ⟨p, fun _ => 0, fun k hk => absurd hk (Nat.not_lt_zero _), h1, kp, h3, h6⟩
  obtain ⟨e6, i6, k6⟩ := kn RX6 TX6 1 _ _ ci6 it_X6
  have ⟨e7, i7, k7⟩ : ∃ (cC : ClassId) (iS : Nat → Nat), u_Kn s RX6 TX6 1 cC iS := ⟨e6, i6, k6⟩
  obtain ⟨e8, i8, k8⟩ := kn RX8 TX8 15 _ _ ci8 it_X8
  obtain ⟨e9, i9, k9⟩ := kn RX9 TX9 4 _ _ ci9 it_X9
  obtain ⟨e10, i10, k10⟩ := kn RX10 TX10 14 _ _ ci10 it_X10
  obtain ⟨e11, i11, k11⟩ := kn RX11 TX11 10 _ _ ci11 it_X11
  obtain ⟨e12, i12, k12⟩ := kn RX12 TX12 49 _ _ ci12 it_X12
  have pr : ∀ ty : FieldType, Cond.arrayClass ty ∈ Tb → ∃ cA : ClassId, ArrOfT s cA ty ∧ s.vm.findClass ("[" ++ ty.toString) = some cA := fun ty h => by
    obtain ⟨c, k, comp, h1, h2, h3⟩ := Cond.arrayClass_spec (hts _ (Tb_in h))
    exact ⟨c, arr_of h2 h3, h1⟩
  have ro : ∀ C : String, Cond.arrayOver (.object C) ∈ lw_tbl → ∃ cA : ClassId, ArrOfT s cA (.object C) ∧ va_RA s cA (.object C) := fun C h => by
    obtain ⟨comp, c, k, h1, h2, h3, h4, h5⟩ := Cond.arrayOver_spec (hts _ h)
    exact ⟨c, arr_of h3 h4, k, comp, h3, h4, h1, h5⟩
  obtain ⟨t0, t0a, t0b⟩ := pr .int ac_int
  obtain ⟨t1, t1a, t1b⟩ := pr .long ac_long
  obtain ⟨t2, t2a, t2b⟩ := pr .boolean ac_boolean
  obtain ⟨t3, t3a, t3b⟩ := pr .double ac_double
  obtain ⟨t4, t4a, t4b⟩ := ro RX8 ao_X8
  obtain ⟨t5, t5a, t5b⟩ := ro RX10 ao_X10
  obtain ⟨t6, t6a, t6b⟩ := ro RX3 ao_X3
  obtain ⟨t7, t7a, t7b⟩ : ∃ cA : ClassId, ArrOfT s cA (.array .int) ∧ va_RA s cA (.array .int) := by
    obtain ⟨comp, c, k, h1, h2, h3, h4, h5⟩ := arrayOverA_spec (hts _ ao_int)
    exact ⟨c, arr_of h3 h4, h5⟩
  refine ⟨(fun c => match c with | 0 => e0 | 1 => e1 | 2 => e2 | 3 => e3 | 4 => e4 | 5 => e5 | 6 => e6 | 7 => e7 | 8 => e8 | 9 => e9 | 10 => e10 | 11 => e11 | _ => e12, fun c => match c with | 0 => i0 | 1 => i1 | 2 => i2 | 3 => i3 | 4 => i4 | 5 => i5 | 6 => i6 | 7 => i7 | 8 => i8 | 9 => i9 | 10 => i10 | 11 => i11 | _ => i12), fun c => match c with | 0 => t0 | 1 => t1 | 2 => t2 | 3 => t3 | 4 => t4 | 5 => t5 | 6 => t6 | _ => t7, ?_, ?_⟩
  · intro c q hq
    match c, hq with
    | 0, hq => cases hq; exact k0
    | 1, hq => cases hq; exact k1
    | 2, hq => cases hq; exact k2
    | 3, hq => cases hq; exact k3
    | 4, hq => cases hq; exact k4
    | 5, hq => cases hq; exact k5
    | 6, hq => cases hq; exact k6
    | 7, hq => cases hq; exact k7
    | 8, hq => cases hq; exact k8
    | 9, hq => cases hq; exact k9
    | 10, hq => cases hq; exact k10
    | 11, hq => cases hq; exact k11
    | 12, hq => cases hq; exact k12
    | c + 13, hq => cases hq
  · intro k q hk
    match k, hk with
    | 0, hk => cases hk; exact ⟨t0a, t0b⟩
    | 1, hk => cases hk; exact ⟨t1a, t1b⟩
    | 2, hk => cases hk; exact ⟨t2a, t2b⟩
    | 3, hk => cases hk; exact ⟨t3a, t3b⟩
    | 4, hk => cases hk; exact ⟨t4a, t4b⟩
    | 5, hk => cases hk; exact ⟨t5a, t5b⟩
    | 6, hk => cases hk; exact ⟨t6a, t6b⟩
    | 7, hk => cases hk; exact ⟨t7a, t7b⟩
    | k + 8, hk => cases hk
