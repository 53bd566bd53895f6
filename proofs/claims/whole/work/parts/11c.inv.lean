/-- all but the kinds ks and the fields fs -/
def cM (ks : List Nat) (fs : List (Nat × Nat)) (k f : Nat) : Bool := !(ks.contains k) && !(fs.contains (k, f))
theorem cM_t {ks : List Nat} {fs : List (Nat × Nat)} {k f : Nat} (h1 : k ∉ ks) (h2 : (k, f) ∉ fs) : cM ks fs k f = true := by
  unfold cM
  simp [h1, h2]
theorem cM_e {ks : List Nat} {fs : List (Nat × Nat)} {k f : Nat} (h : cM ks fs k f = true) : k ∉ ks ∧ (k, f) ∉ fs := by
  unfold cM at h
  simpa using h
def Inv (n : Int) (C M : Mem) : Prop := RelR C M ∧ RelV n C M ∧ RelZ C M ∧ RelH C M ∧ RelE C M ∧ RelK n C M
def kCl (k _ : Nat) : Bool := decide (k < 40)
def kMo (k f : Nat) : Bool := decide (40 ≤ k) && decide (k < 77) && !(k == 51) && !(k == 73) && !(k == 40 && f == 46)
theorem kCl_t {k f : Nat} (h : k < 40) : kCl k f = true := decide_eq_true h
theorem kMo_t {k f : Nat} (h : 40 ≤ k ∧ k < 77 ∧ k ≠ 51 ∧ k ≠ 73 ∧ ¬ (k = 40 ∧ f = 46)) : kMo k f = true := by
  unfold kMo
  simp
  omega
theorem kMo_e {k f : Nat} (h : kMo k f = true) : 40 ≤ k ∧ k < 77 := by
  unfold kMo at h
  simp at h
  omega
theorem sub_qR {k f : Nat} (h : qR k f = true) : kCl k f = true := kCl_t (by
  unfold qR at h
  simp only [Bool.or_eq_true, Bool.and_eq_true, beq_iff_eq] at h
  omega)
theorem sub_pR {k f : Nat} (h : pR k f = true) : kMo k f = true := kMo_t (by
  unfold pR at h
  simp only [Bool.or_eq_true, Bool.and_eq_true, beq_iff_eq] at h
  omega)
theorem sub_qV {k f : Nat} (h : qV k f = true) : kCl k f = true := kCl_t (by
  unfold qV at h
  simp only [Bool.or_eq_true, Bool.and_eq_true, beq_iff_eq] at h
  omega)
theorem sub_pV {k f : Nat} (h : pV_ k f = true) : kMo k f = true := kMo_t (by
  unfold pV_ at h
  simp only [Bool.or_eq_true, Bool.and_eq_true, beq_iff_eq] at h
  omega)
theorem sub_qZ {k f : Nat} (h : qZ k f = true) : kCl k f = true := kCl_t (by
  unfold qZ at h
  simp only [Bool.or_eq_true, Bool.and_eq_true, beq_iff_eq] at h
  omega)
theorem sub_pZ {k f : Nat} (h : pZ k f = true) : kMo k f = true := kMo_t (by
  unfold pZ at h
  simp only [Bool.or_eq_true, Bool.and_eq_true, beq_iff_eq] at h
  omega)
theorem sub_qH {k f : Nat} (h : qH k f = true) : kCl k f = true := kCl_t (by
  unfold qH at h
  simp only [Bool.or_eq_true, Bool.and_eq_true, beq_iff_eq] at h
  omega)
theorem sub_pH {k f : Nat} (h : pH k f = true) : kMo k f = true := kMo_t (by
  unfold pH at h
  simp only [Bool.or_eq_true, Bool.and_eq_true, beq_iff_eq] at h
  omega)
theorem sub_qE {k f : Nat} (h : qE k f = true) : kCl k f = true := kCl_t (by
  unfold qE at h
  simp only [Bool.or_eq_true, Bool.and_eq_true, beq_iff_eq] at h
  omega)
theorem sub_pE {k f : Nat} (h : pE k f = true) : kMo k f = true := kMo_t (by
  unfold pE at h
  simp only [Bool.or_eq_true, Bool.and_eq_true, beq_iff_eq] at h
  omega)
theorem sub_qK {k f : Nat} (h : qK k f = true) : kCl k f = true := kCl_t (by
  unfold qK at h
  simp only [Bool.or_eq_true, Bool.and_eq_true, beq_iff_eq] at h
  omega)
theorem sub_pK {k f : Nat} (h : pK k f = true) : kMo k f = true := kMo_t (by
  unfold pK at h
  simp only [Bool.or_eq_true, Bool.and_eq_true, beq_iff_eq] at h
  omega)
theorem Inv.ag {n : Int} {C C' M M' : Mem} (h : Inv n C M) (hC : Ag kCl C C') (hM : Ag kMo M M') : Inv n C' M' :=
  ⟨h.1.ag (hC.mono (fun _ _ q => sub_qR q)) (hM.mono (fun _ _ q => sub_pR q)), h.2.1.ag (hC.mono (fun _ _ q => sub_qV q)) (hM.mono (fun _ _ q => sub_pV q)), h.2.2.1.ag (hC.mono (fun _ _ q => sub_qZ q)) (hM.mono (fun _ _ q => sub_pZ q)), h.2.2.2.1.ag (hC.mono (fun _ _ q => sub_qH q)) (hM.mono (fun _ _ q => sub_pH q)), h.2.2.2.2.1.ag (hC.mono (fun _ _ q => sub_qE q)) (hM.mono (fun _ _ q => sub_pE q)), h.2.2.2.2.2.ag (hC.mono (fun _ _ q => sub_qK q)) (hM.mono (fun _ _ q => sub_pK q))⟩
theorem Inv.up {n : Int} {C M : Mem} (h : Inv n C M) : Inv (n + 1) C M := ⟨h.1, h.2.1.up, h.2.2.1, h.2.2.2.1, h.2.2.2.2.1, h.2.2.2.2.2.up⟩
theorem Inv.th {n z : Int} {C M : Mem} (h : Inv n C M) : Inv n C (setI M 40 46 0 0 z) := ⟨h.1.th, h.2.1.th, h.2.2.1.th, h.2.2.2.1.th, h.2.2.2.2.1.th, h.2.2.2.2.2.th⟩
/-- behind a call of both: C1 the class's memory, M1 with what the law laid out, M2 the end -/
def Fin' (n : Int) (C1 M1 M2 : Mem) : Prop := Inv (n + 1) M2 M2 ∧ (M2.1 40 46 0 0) = 0 ∧ M2.2 90 0 0 0 = M1.2 90 0 0 0 ∧ M2.2 91 0 0 0 = M1.2 91 0 0 0 ∧ (M2.1 13 1 0 0) = (C1.1 13 1 0 0)
theorem Fin'.of {n : Int} {C1 M1 M2 : Mem} {ks : List Nat} {fs : List (Nat × Nat)} (h : Inv (n + 1) C1 M2) (f1 : Ag (cM [90, 91] []) C1 M1) (f3 : Ag (cM ks fs) (setI M1 40 46 0 0 0) M2) (hb : ∀ k f, k < 40 ∨ k = 90 ∨ k = 91 ∨ (k = 40 ∧ f = 46) → cM ks fs k f = true) : Fin' n C1 M1 M2 := by
  have hC : Ag kCl C1 M2 := fun k f i j hk => by
    have hk : k < 40 := of_decide_eq_true hk
    have a := f1 k f i j (cM_t (by simp; omega) (by simp))
    have b := f3 k f i j (hb k f (Or.inl hk))
    rw [b.1, b.2, setI_1, if_neg (by omega)]
    exact a
  refine ⟨h.ag hC (Ag.rf M2), ?_, ?_, ?_, ?_⟩
  · rw [f3.i 40 46 0 0 (hb 40 46 (Or.inr (Or.inr (Or.inr ⟨rfl, rfl⟩))))]
    simp [setI_1]
  · rw [f3.l 90 0 0 0 (hb 90 0 (Or.inr (Or.inl rfl)))]
    rfl
  · rw [f3.l 91 0 0 0 (hb 91 0 (Or.inr (Or.inr (Or.inl rfl))))]
    rfl
  · exact hC.i 13 1 0 0 rfl
theorem th0_ag {ks : List Nat} {fs : List (Nat × Nat)} {M1 M2 : Mem} (h : Ag (cM ks fs) (setI M1 40 46 0 0 0) M2) : Ag (cM ks ((40, 46) :: fs)) M1 M2 := fun k f i j hk => by
  have q := cM_e hk
  simp only [List.mem_cons, not_or, Prod.mk.injEq] at q
  have b := h k f i j (cM_t q.1 q.2.2)
  rw [b.1, b.2, setI_1, if_neg (fun z => q.2.1 ⟨z.1, z.2.1⟩)]
  exact ⟨rfl, rfl⟩
theorem Ag.ofEx {ks : List Nat} {fs : List (Nat × Nat)} {q : Nat → Bool} {M M' : Mem} (h : Ex q M M') (hq : ∀ k, k ∉ ks → q k = false) : Ag (cM ks fs) M M' := fun k f i j hk => h k f i j (hq k (cM_e hk).1)
theorem RelR.hg {C M : Mem} (h : RelR C M) : ∀ i, 0 ≤ i → i < (C.1 0 1 0 0) → (0 ≤ (C.1 16 3 i 0) ∧ (C.1 16 3 i 0) ≤ 12) ∧ (0 ≤ (C.1 16 4 i 0) ∧ (C.1 16 4 i 0) ≤ 1000) := fun i i0 i1 => by
  have a := h.gn i i0 i1
  have b := h.rc
  have c := h.yr
  omega
theorem reelM_ag {M : Mem} {b y l p d : Int} : Ag (cM [16, 20] [(0, 1)]) M (reelM M b y l p d) := fun k f i j hk => by
  have q := cM_e hk
  simp only [List.mem_cons, List.not_mem_nil, or_false, not_or, Prod.mk.injEq] at q
  have e := beginR_at (C := M) (r := (M.1 0 1 0 0)) (b := b) (y := y) (l := l) (g := if p = -1 then 0 else (M.1 16 3 p 0) + 1) (d := d)
  unfold reelM
  rw [setI_1, if_neg (fun z => q.2 ⟨z.1, z.2.1⟩), e.2.1 k q.1.1 q.1.2]
  exact ⟨rfl, by rw [setI_2, e.2.2]⟩
theorem addsM_ag {M : Mem} {b y l g d : Int} : Ag (cM [41, 42, 43, 44, 45] [(40, 10)]) M (addsM M b y l g d) := by
  unfold addsM
  exact ((((((Ag.rf M).setI rfl).setI rfl).setI rfl).setI rfl).setI rfl).setI rfl
theorem cpB_ag {M : Mem} {r : Int} : Ag (cM [41, 42, 43, 44, 45, 47] [(40, 10)]) M (cpB M r) := by
  unfold cpB addsM
  exact (((((((Ag.rf M).setI rfl).setI rfl).setI rfl).setI rfl).setI rfl).setI rfl).setI rfl
theorem beginR_ag {M : Mem} {i b y l g d : Int} : Ag (cM [16, 20] []) M (beginR M i b y l g d) := fun k f i' j hk => by
  have q := cM_e hk
  simp only [List.mem_cons, List.not_mem_nil, or_false, not_or] at q
  have e := beginR_at (C := M) (r := i) (b := b) (y := y) (l := l) (g := g) (d := d)
  exact ⟨e.2.1 k q.1.1 q.1.2 f i' j, by rw [e.2.2]⟩
theorem s_reel {n : Int} {b y l p d : Int} {M M1 C1 M2 : Mem} (hI : Inv n M M1) (f1 : Ag (cM [90, 91] []) C1 M1) (hp : p = -1 ∨ (0 ≤ p ∧ p < (M.1 0 1 0 0))) (hc : (M.1 0 1 0 0) < 12) (hd : 0 ≤ d ∧ d ≤ 299) (q3 : C1 = reelM M b y l p d) (hP : M2 = addsM (setI M1 40 46 0 0 0) b y l (if p < 0 then 0 else (M.1 16 3 p 0) + 1) d) : Fin' n C1 M1 M2 := by
  have f2 : Ag (cM [16, 20] [(0, 1)]) M C1 := by rw [q3]; exact reelM_ag
  have f3 : Ag (cM [41, 42, 43, 44, 45] [(40, 10)]) (setI M1 40 46 0 0 0) M2 := by rw [hP]; exact addsM_ag
  have f4 := th0_ag f3
  have hB : Inv n M (setI M1 40 46 0 0 0) := hI.th
  have kR : RelR C1 M2 := by rw [q3, hP]; exact hB.1.reelK hc hp hd rfl
  have kV : RelV (n + 1) C1 M2 := (hI.2.1.ag (f2.mono (by
      intro k f h
      unfold qV at h
      simp only [Bool.or_eq_true, Bool.and_eq_true, beq_iff_eq] at h
      exact cM_t (by first | exact List.not_mem_nil | (simp only [List.mem_cons, List.not_mem_nil, or_false]; omega)) (by first | exact List.not_mem_nil | (simp only [List.mem_cons, List.not_mem_nil, or_false, Prod.mk.injEq]; omega)))) (f4.mono (by
      intro k f h
      unfold pV_ at h
      simp only [Bool.or_eq_true, Bool.and_eq_true, beq_iff_eq] at h
      exact cM_t (by first | exact List.not_mem_nil | (simp only [List.mem_cons, List.not_mem_nil, or_false]; omega)) (by first | exact List.not_mem_nil | (simp only [List.mem_cons, List.not_mem_nil, or_false, Prod.mk.injEq]; omega))))).up
  have kZ : RelZ C1 M2 := (hI.2.2.1.ag (f2.mono (by
      intro k f h
      unfold qZ at h
      simp only [Bool.or_eq_true, Bool.and_eq_true, beq_iff_eq] at h
      exact cM_t (by first | exact List.not_mem_nil | (simp only [List.mem_cons, List.not_mem_nil, or_false]; omega)) (by first | exact List.not_mem_nil | (simp only [List.mem_cons, List.not_mem_nil, or_false, Prod.mk.injEq]; omega)))) (f4.mono (by
      intro k f h
      unfold pZ at h
      simp only [Bool.or_eq_true, Bool.and_eq_true, beq_iff_eq] at h
      exact cM_t (by first | exact List.not_mem_nil | (simp only [List.mem_cons, List.not_mem_nil, or_false]; omega)) (by first | exact List.not_mem_nil | (simp only [List.mem_cons, List.not_mem_nil, or_false, Prod.mk.injEq]; omega)))))
  have kH : RelH C1 M2 := (hI.2.2.2.1.ag (f2.mono (by
      intro k f h
      unfold qH at h
      simp only [Bool.or_eq_true, Bool.and_eq_true, beq_iff_eq] at h
      exact cM_t (by first | exact List.not_mem_nil | (simp only [List.mem_cons, List.not_mem_nil, or_false]; omega)) (by first | exact List.not_mem_nil | (simp only [List.mem_cons, List.not_mem_nil, or_false, Prod.mk.injEq]; omega)))) (f4.mono (by
      intro k f h
      unfold pH at h
      simp only [Bool.or_eq_true, Bool.and_eq_true, beq_iff_eq] at h
      exact cM_t (by first | exact List.not_mem_nil | (simp only [List.mem_cons, List.not_mem_nil, or_false]; omega)) (by first | exact List.not_mem_nil | (simp only [List.mem_cons, List.not_mem_nil, or_false, Prod.mk.injEq]; omega)))))
  have kE : RelE C1 M2 := (hI.2.2.2.2.1.ag (f2.mono (by
      intro k f h
      unfold qE at h
      simp only [Bool.or_eq_true, Bool.and_eq_true, beq_iff_eq] at h
      exact cM_t (by first | exact List.not_mem_nil | (simp only [List.mem_cons, List.not_mem_nil, or_false]; omega)) (by first | exact List.not_mem_nil | (simp only [List.mem_cons, List.not_mem_nil, or_false, Prod.mk.injEq]; omega)))) (f4.mono (by
      intro k f h
      unfold pE at h
      simp only [Bool.or_eq_true, Bool.and_eq_true, beq_iff_eq] at h
      exact cM_t (by first | exact List.not_mem_nil | (simp only [List.mem_cons, List.not_mem_nil, or_false]; omega)) (by first | exact List.not_mem_nil | (simp only [List.mem_cons, List.not_mem_nil, or_false, Prod.mk.injEq]; omega)))))
  have kK : RelK (n + 1) C1 M2 := (hI.2.2.2.2.2.ag (f2.mono (by
      intro k f h
      unfold qK at h
      simp only [Bool.or_eq_true, Bool.and_eq_true, beq_iff_eq] at h
      exact cM_t (by first | exact List.not_mem_nil | (simp only [List.mem_cons, List.not_mem_nil, or_false]; omega)) (by first | exact List.not_mem_nil | (simp only [List.mem_cons, List.not_mem_nil, or_false, Prod.mk.injEq]; omega)))) (f4.mono (by
      intro k f h
      unfold pK at h
      simp only [Bool.or_eq_true, Bool.and_eq_true, beq_iff_eq] at h
      exact cM_t (by first | exact List.not_mem_nil | (simp only [List.mem_cons, List.not_mem_nil, or_false]; omega)) (by first | exact List.not_mem_nil | (simp only [List.mem_cons, List.not_mem_nil, or_false, Prod.mk.injEq]; omega))))).up
  exact Fin'.of ⟨kR, kV, kZ, kH, kE, kK⟩ f1 f3 (fun k f h => cM_t (by first | exact List.not_mem_nil | (simp only [List.mem_cons, List.not_mem_nil, or_false]; omega)) (by first | exact List.not_mem_nil | (simp only [List.mem_cons, List.not_mem_nil, or_false, Prod.mk.injEq]; omega)))
theorem s_frame {n : Int} {r c : Int} {x : Int64} {M M1 C1 M2 : Mem} (hI : Inv n M M1) (f1 : Ag (cM [90, 91] []) C1 M1) (r0 : 0 ≤ r ∧ r < (M.1 0 1 0 0)) (c0 : 0 ≤ c ∧ c ≤ 999) (hf : (M.1 16 6 r 0) < 60) (q3 : C1 = addF M r c x) (hP : M2 = frM (setI M1 40 46 0 0 0) r c x) : Fin' n C1 M1 M2 := by
  have f2 : Ag (cM [16, 17, 18, 19, 20, 21] []) M C1 := by rw [q3]; exact Ag.ofEx (addF_ex (Ex.rf M)) (by
    intro k hk
    (try simp only [List.mem_cons, List.not_mem_nil, or_false, not_or] at hk)
    unfold exR; simp only [Bool.or_eq_false_iff, beq_eq_false_iff_ne]
    omega)
  have f3 : Ag (cM [47, 48, 49] []) (setI M1 40 46 0 0 0) M2 := by rw [hP]; exact (((Ag.rf _).setI rfl).setL rfl).setI rfl
  have f4 := th0_ag f3
  have hB : Inv n M (setI M1 40 46 0 0 0) := hI.th
  have kR : RelR C1 M2 := by rw [q3, hP]; exact hB.1.frameK r0.1 r0.2 c0 hf
  have kV : RelV (n + 1) C1 M2 := (hI.2.1.ag (f2.mono (by
      intro k f h
      unfold qV at h
      simp only [Bool.or_eq_true, Bool.and_eq_true, beq_iff_eq] at h
      exact cM_t (by first | exact List.not_mem_nil | (simp only [List.mem_cons, List.not_mem_nil, or_false]; omega)) (by first | exact List.not_mem_nil | (simp only [List.mem_cons, List.not_mem_nil, or_false, Prod.mk.injEq]; omega)))) (f4.mono (by
      intro k f h
      unfold pV_ at h
      simp only [Bool.or_eq_true, Bool.and_eq_true, beq_iff_eq] at h
      exact cM_t (by first | exact List.not_mem_nil | (simp only [List.mem_cons, List.not_mem_nil, or_false]; omega)) (by first | exact List.not_mem_nil | (simp only [List.mem_cons, List.not_mem_nil, or_false, Prod.mk.injEq]; omega))))).up
  have kZ : RelZ C1 M2 := (hI.2.2.1.ag (f2.mono (by
      intro k f h
      unfold qZ at h
      simp only [Bool.or_eq_true, Bool.and_eq_true, beq_iff_eq] at h
      exact cM_t (by first | exact List.not_mem_nil | (simp only [List.mem_cons, List.not_mem_nil, or_false]; omega)) (by first | exact List.not_mem_nil | (simp only [List.mem_cons, List.not_mem_nil, or_false, Prod.mk.injEq]; omega)))) (f4.mono (by
      intro k f h
      unfold pZ at h
      simp only [Bool.or_eq_true, Bool.and_eq_true, beq_iff_eq] at h
      exact cM_t (by first | exact List.not_mem_nil | (simp only [List.mem_cons, List.not_mem_nil, or_false]; omega)) (by first | exact List.not_mem_nil | (simp only [List.mem_cons, List.not_mem_nil, or_false, Prod.mk.injEq]; omega)))))
  have kH : RelH C1 M2 := (hI.2.2.2.1.ag (f2.mono (by
      intro k f h
      unfold qH at h
      simp only [Bool.or_eq_true, Bool.and_eq_true, beq_iff_eq] at h
      exact cM_t (by first | exact List.not_mem_nil | (simp only [List.mem_cons, List.not_mem_nil, or_false]; omega)) (by first | exact List.not_mem_nil | (simp only [List.mem_cons, List.not_mem_nil, or_false, Prod.mk.injEq]; omega)))) (f4.mono (by
      intro k f h
      unfold pH at h
      simp only [Bool.or_eq_true, Bool.and_eq_true, beq_iff_eq] at h
      exact cM_t (by first | exact List.not_mem_nil | (simp only [List.mem_cons, List.not_mem_nil, or_false]; omega)) (by first | exact List.not_mem_nil | (simp only [List.mem_cons, List.not_mem_nil, or_false, Prod.mk.injEq]; omega)))))
  have kE : RelE C1 M2 := (hI.2.2.2.2.1.ag (f2.mono (by
      intro k f h
      unfold qE at h
      simp only [Bool.or_eq_true, Bool.and_eq_true, beq_iff_eq] at h
      exact cM_t (by first | exact List.not_mem_nil | (simp only [List.mem_cons, List.not_mem_nil, or_false]; omega)) (by first | exact List.not_mem_nil | (simp only [List.mem_cons, List.not_mem_nil, or_false, Prod.mk.injEq]; omega)))) (f4.mono (by
      intro k f h
      unfold pE at h
      simp only [Bool.or_eq_true, Bool.and_eq_true, beq_iff_eq] at h
      exact cM_t (by first | exact List.not_mem_nil | (simp only [List.mem_cons, List.not_mem_nil, or_false]; omega)) (by first | exact List.not_mem_nil | (simp only [List.mem_cons, List.not_mem_nil, or_false, Prod.mk.injEq]; omega)))))
  have kK : RelK (n + 1) C1 M2 := (hI.2.2.2.2.2.ag (f2.mono (by
      intro k f h
      unfold qK at h
      simp only [Bool.or_eq_true, Bool.and_eq_true, beq_iff_eq] at h
      exact cM_t (by first | exact List.not_mem_nil | (simp only [List.mem_cons, List.not_mem_nil, or_false]; omega)) (by first | exact List.not_mem_nil | (simp only [List.mem_cons, List.not_mem_nil, or_false, Prod.mk.injEq]; omega)))) (f4.mono (by
      intro k f h
      unfold pK at h
      simp only [Bool.or_eq_true, Bool.and_eq_true, beq_iff_eq] at h
      exact cM_t (by first | exact List.not_mem_nil | (simp only [List.mem_cons, List.not_mem_nil, or_false]; omega)) (by first | exact List.not_mem_nil | (simp only [List.mem_cons, List.not_mem_nil, or_false, Prod.mk.injEq]; omega))))).up
  exact Fin'.of ⟨kR, kV, kZ, kH, kE, kK⟩ f1 f3 (fun k f h => cM_t (by first | exact List.not_mem_nil | (simp only [List.mem_cons, List.not_mem_nil, or_false]; omega)) (by first | exact List.not_mem_nil | (simp only [List.mem_cons, List.not_mem_nil, or_false, Prod.mk.injEq]; omega)))
theorem s_splice {n : Int} {r p : Int} {M M1 C1 M2 : Mem} (hI : Inv n M M1) (f1 : Ag (cM [90, 91] []) C1 M1) (r0 : 0 ≤ r ∧ r < (M.1 0 1 0 0)) (p0 : 0 ≤ p ∧ p < (M.1 16 6 r 0)) (q3 : C1 = addS M r p) (hP : M2 = spM (setI M1 40 46 0 0 0) r p) : Fin' n C1 M1 M2 := by
  have f2 : Ag (cM [16, 17, 18, 19, 20, 21] []) M C1 := by rw [q3]; exact Ag.ofEx (addS_ex (Ex.rf M)) (by
    intro k hk
    (try simp only [List.mem_cons, List.not_mem_nil, or_false, not_or] at hk)
    unfold exR; simp only [Bool.or_eq_false_iff, beq_eq_false_iff_ne]
    omega)
  have f3 : Ag (cM [50] []) (setI M1 40 46 0 0 0) M2 := by rw [hP]; exact (Ag.rf _).setI rfl
  have f4 := th0_ag f3
  have hB : Inv n M (setI M1 40 46 0 0 0) := hI.th
  have kR : RelR C1 M2 := by rw [q3, hP]; exact hB.1.spliceK r0.1 r0.2 p0.1 p0.2
  have kV : RelV (n + 1) C1 M2 := (hI.2.1.ag (f2.mono (by
      intro k f h
      unfold qV at h
      simp only [Bool.or_eq_true, Bool.and_eq_true, beq_iff_eq] at h
      exact cM_t (by first | exact List.not_mem_nil | (simp only [List.mem_cons, List.not_mem_nil, or_false]; omega)) (by first | exact List.not_mem_nil | (simp only [List.mem_cons, List.not_mem_nil, or_false, Prod.mk.injEq]; omega)))) (f4.mono (by
      intro k f h
      unfold pV_ at h
      simp only [Bool.or_eq_true, Bool.and_eq_true, beq_iff_eq] at h
      exact cM_t (by first | exact List.not_mem_nil | (simp only [List.mem_cons, List.not_mem_nil, or_false]; omega)) (by first | exact List.not_mem_nil | (simp only [List.mem_cons, List.not_mem_nil, or_false, Prod.mk.injEq]; omega))))).up
  have kZ : RelZ C1 M2 := (hI.2.2.1.ag (f2.mono (by
      intro k f h
      unfold qZ at h
      simp only [Bool.or_eq_true, Bool.and_eq_true, beq_iff_eq] at h
      exact cM_t (by first | exact List.not_mem_nil | (simp only [List.mem_cons, List.not_mem_nil, or_false]; omega)) (by first | exact List.not_mem_nil | (simp only [List.mem_cons, List.not_mem_nil, or_false, Prod.mk.injEq]; omega)))) (f4.mono (by
      intro k f h
      unfold pZ at h
      simp only [Bool.or_eq_true, Bool.and_eq_true, beq_iff_eq] at h
      exact cM_t (by first | exact List.not_mem_nil | (simp only [List.mem_cons, List.not_mem_nil, or_false]; omega)) (by first | exact List.not_mem_nil | (simp only [List.mem_cons, List.not_mem_nil, or_false, Prod.mk.injEq]; omega)))))
  have kH : RelH C1 M2 := (hI.2.2.2.1.ag (f2.mono (by
      intro k f h
      unfold qH at h
      simp only [Bool.or_eq_true, Bool.and_eq_true, beq_iff_eq] at h
      exact cM_t (by first | exact List.not_mem_nil | (simp only [List.mem_cons, List.not_mem_nil, or_false]; omega)) (by first | exact List.not_mem_nil | (simp only [List.mem_cons, List.not_mem_nil, or_false, Prod.mk.injEq]; omega)))) (f4.mono (by
      intro k f h
      unfold pH at h
      simp only [Bool.or_eq_true, Bool.and_eq_true, beq_iff_eq] at h
      exact cM_t (by first | exact List.not_mem_nil | (simp only [List.mem_cons, List.not_mem_nil, or_false]; omega)) (by first | exact List.not_mem_nil | (simp only [List.mem_cons, List.not_mem_nil, or_false, Prod.mk.injEq]; omega)))))
  have kE : RelE C1 M2 := (hI.2.2.2.2.1.ag (f2.mono (by
      intro k f h
      unfold qE at h
      simp only [Bool.or_eq_true, Bool.and_eq_true, beq_iff_eq] at h
      exact cM_t (by first | exact List.not_mem_nil | (simp only [List.mem_cons, List.not_mem_nil, or_false]; omega)) (by first | exact List.not_mem_nil | (simp only [List.mem_cons, List.not_mem_nil, or_false, Prod.mk.injEq]; omega)))) (f4.mono (by
      intro k f h
      unfold pE at h
      simp only [Bool.or_eq_true, Bool.and_eq_true, beq_iff_eq] at h
      exact cM_t (by first | exact List.not_mem_nil | (simp only [List.mem_cons, List.not_mem_nil, or_false]; omega)) (by first | exact List.not_mem_nil | (simp only [List.mem_cons, List.not_mem_nil, or_false, Prod.mk.injEq]; omega)))))
  have kK : RelK (n + 1) C1 M2 := (hI.2.2.2.2.2.ag (f2.mono (by
      intro k f h
      unfold qK at h
      simp only [Bool.or_eq_true, Bool.and_eq_true, beq_iff_eq] at h
      exact cM_t (by first | exact List.not_mem_nil | (simp only [List.mem_cons, List.not_mem_nil, or_false]; omega)) (by first | exact List.not_mem_nil | (simp only [List.mem_cons, List.not_mem_nil, or_false, Prod.mk.injEq]; omega)))) (f4.mono (by
      intro k f h
      unfold pK at h
      simp only [Bool.or_eq_true, Bool.and_eq_true, beq_iff_eq] at h
      exact cM_t (by first | exact List.not_mem_nil | (simp only [List.mem_cons, List.not_mem_nil, or_false]; omega)) (by first | exact List.not_mem_nil | (simp only [List.mem_cons, List.not_mem_nil, or_false, Prod.mk.injEq]; omega))))).up
  exact Fin'.of ⟨kR, kV, kZ, kH, kE, kK⟩ f1 f3 (fun k f h => cM_t (by first | exact List.not_mem_nil | (simp only [List.mem_cons, List.not_mem_nil, or_false]; omega)) (by first | exact List.not_mem_nil | (simp only [List.mem_cons, List.not_mem_nil, or_false, Prod.mk.injEq]; omega)))
theorem s_cold {n : Int} {r : Int} {P : Prop} {M M1 C1 M2 : Mem} (hI : Inv n M M1) (f1 : Ag (cM [90, 91] []) C1 M1) (r0 : 0 ≤ r ∧ r < (M.1 0 1 0 0)) (q3 : C1 = setI M 16 5 r 0 (bI P)) (hP : M2 = setI (setI M1 40 46 0 0 0) 46 0 0 r (bI P)) : Fin' n C1 M1 M2 := by
  have f2 : Ag (cM [16] []) M C1 := by rw [q3]; exact (Ag.rf _).setI rfl
  have f3 : Ag (cM [46] []) (setI M1 40 46 0 0 0) M2 := by rw [hP]; exact (Ag.rf _).setI rfl
  have f4 := th0_ag f3
  have hB : Inv n M (setI M1 40 46 0 0 0) := hI.th
  have kR : RelR C1 M2 := by rw [q3, hP]; exact hB.1.coldK r0.1 r0.2
  have kV : RelV (n + 1) C1 M2 := (hI.2.1.ag (f2.mono (by
      intro k f h
      unfold qV at h
      simp only [Bool.or_eq_true, Bool.and_eq_true, beq_iff_eq] at h
      exact cM_t (by first | exact List.not_mem_nil | (simp only [List.mem_cons, List.not_mem_nil, or_false]; omega)) (by first | exact List.not_mem_nil | (simp only [List.mem_cons, List.not_mem_nil, or_false, Prod.mk.injEq]; omega)))) (f4.mono (by
      intro k f h
      unfold pV_ at h
      simp only [Bool.or_eq_true, Bool.and_eq_true, beq_iff_eq] at h
      exact cM_t (by first | exact List.not_mem_nil | (simp only [List.mem_cons, List.not_mem_nil, or_false]; omega)) (by first | exact List.not_mem_nil | (simp only [List.mem_cons, List.not_mem_nil, or_false, Prod.mk.injEq]; omega))))).up
  have kZ : RelZ C1 M2 := (hI.2.2.1.ag (f2.mono (by
      intro k f h
      unfold qZ at h
      simp only [Bool.or_eq_true, Bool.and_eq_true, beq_iff_eq] at h
      exact cM_t (by first | exact List.not_mem_nil | (simp only [List.mem_cons, List.not_mem_nil, or_false]; omega)) (by first | exact List.not_mem_nil | (simp only [List.mem_cons, List.not_mem_nil, or_false, Prod.mk.injEq]; omega)))) (f4.mono (by
      intro k f h
      unfold pZ at h
      simp only [Bool.or_eq_true, Bool.and_eq_true, beq_iff_eq] at h
      exact cM_t (by first | exact List.not_mem_nil | (simp only [List.mem_cons, List.not_mem_nil, or_false]; omega)) (by first | exact List.not_mem_nil | (simp only [List.mem_cons, List.not_mem_nil, or_false, Prod.mk.injEq]; omega)))))
  have kH : RelH C1 M2 := (hI.2.2.2.1.ag (f2.mono (by
      intro k f h
      unfold qH at h
      simp only [Bool.or_eq_true, Bool.and_eq_true, beq_iff_eq] at h
      exact cM_t (by first | exact List.not_mem_nil | (simp only [List.mem_cons, List.not_mem_nil, or_false]; omega)) (by first | exact List.not_mem_nil | (simp only [List.mem_cons, List.not_mem_nil, or_false, Prod.mk.injEq]; omega)))) (f4.mono (by
      intro k f h
      unfold pH at h
      simp only [Bool.or_eq_true, Bool.and_eq_true, beq_iff_eq] at h
      exact cM_t (by first | exact List.not_mem_nil | (simp only [List.mem_cons, List.not_mem_nil, or_false]; omega)) (by first | exact List.not_mem_nil | (simp only [List.mem_cons, List.not_mem_nil, or_false, Prod.mk.injEq]; omega)))))
  have kE : RelE C1 M2 := (hI.2.2.2.2.1.ag (f2.mono (by
      intro k f h
      unfold qE at h
      simp only [Bool.or_eq_true, Bool.and_eq_true, beq_iff_eq] at h
      exact cM_t (by first | exact List.not_mem_nil | (simp only [List.mem_cons, List.not_mem_nil, or_false]; omega)) (by first | exact List.not_mem_nil | (simp only [List.mem_cons, List.not_mem_nil, or_false, Prod.mk.injEq]; omega)))) (f4.mono (by
      intro k f h
      unfold pE at h
      simp only [Bool.or_eq_true, Bool.and_eq_true, beq_iff_eq] at h
      exact cM_t (by first | exact List.not_mem_nil | (simp only [List.mem_cons, List.not_mem_nil, or_false]; omega)) (by first | exact List.not_mem_nil | (simp only [List.mem_cons, List.not_mem_nil, or_false, Prod.mk.injEq]; omega)))))
  have kK : RelK (n + 1) C1 M2 := (hI.2.2.2.2.2.ag (f2.mono (by
      intro k f h
      unfold qK at h
      simp only [Bool.or_eq_true, Bool.and_eq_true, beq_iff_eq] at h
      exact cM_t (by first | exact List.not_mem_nil | (simp only [List.mem_cons, List.not_mem_nil, or_false]; omega)) (by first | exact List.not_mem_nil | (simp only [List.mem_cons, List.not_mem_nil, or_false, Prod.mk.injEq]; omega)))) (f4.mono (by
      intro k f h
      unfold pK at h
      simp only [Bool.or_eq_true, Bool.and_eq_true, beq_iff_eq] at h
      exact cM_t (by first | exact List.not_mem_nil | (simp only [List.mem_cons, List.not_mem_nil, or_false]; omega)) (by first | exact List.not_mem_nil | (simp only [List.mem_cons, List.not_mem_nil, or_false, Prod.mk.injEq]; omega))))).up
  exact Fin'.of ⟨kR, kV, kZ, kH, kE, kK⟩ f1 f3 (fun k f h => cM_t (by first | exact List.not_mem_nil | (simp only [List.mem_cons, List.not_mem_nil, or_false]; omega)) (by first | exact List.not_mem_nil | (simp only [List.mem_cons, List.not_mem_nil, or_false, Prod.mk.injEq]; omega)))
theorem s_copy {n : Int} {r : Int} {M M1 C1 M2 : Mem} (hI : Inv n M M1) (f1 : Ag (cM [90, 91] []) C1 M1) (r0 : 0 ≤ r ∧ r < (M.1 0 1 0 0)) (hc : (M.1 0 1 0 0) < 12) (q3 : ∃ M2, CpR (beginR M (M.1 0 1 0 0) 1 (M.1 0 2 0 0) (M.1 16 2 r 0) ((M.1 16 3 r 0) + 1) 0) (M.1 0 1 0 0) r (M.1 16 6 r 0) M2 ∧ C1 = setI M2 0 1 0 0 ((M.1 0 1 0 0) + 1)) (hP : CpM (cpB (setI M1 40 46 0 0 0) r) (M.1 0 1 0 0) r 60 M2) : Fin' n C1 M1 M2 := by
  have f2 : Ag (cM [16, 17, 18, 19, 20, 21] [(0, 1)]) M C1 := by
    obtain ⟨M9, ⟨hx, -⟩, e⟩ := q3
    rw [e]
    exact ((beginR_ag.mono (fun k f h => cM_t (fun z => (cM_e h).1 (by simp only [List.mem_cons, List.not_mem_nil, or_false] at z ⊢; omega)) (by simp))).tr (Ag.ofEx hx (by
      intro k hk
      (try simp only [List.mem_cons, List.not_mem_nil, or_false, not_or] at hk)
      unfold exR; simp only [Bool.or_eq_false_iff, beq_eq_false_iff_ne]
      omega))).setI rfl
  have f3 : Ag (cM [41, 42, 43, 44, 45, 47, 48, 49, 50] [(40, 10)]) (setI M1 40 46 0 0 0) M2 := (cpB_ag.mono (fun k f h => cM_t (fun z => (cM_e h).1 (by simp only [List.mem_cons, List.not_mem_nil, or_false] at z ⊢; omega)) (cM_e h).2)).tr (hP.1.mono (fun k f h => by
    have z := (cM_e h).1
    simp only [List.mem_cons, List.not_mem_nil, or_false, not_or] at z
    simp only [Bool.not_eq_true', Bool.or_eq_false_iff, beq_eq_false_iff_ne]
    omega))
  have f4 := th0_ag f3
  have hB : Inv n M (setI M1 40 46 0 0 0) := hI.th
  have kR : RelR C1 M2 := hB.1.copyK r0.1 r0.2 hc q3 hP
  have kV : RelV (n + 1) C1 M2 := (hI.2.1.ag (f2.mono (by
      intro k f h
      unfold qV at h
      simp only [Bool.or_eq_true, Bool.and_eq_true, beq_iff_eq] at h
      exact cM_t (by first | exact List.not_mem_nil | (simp only [List.mem_cons, List.not_mem_nil, or_false]; omega)) (by first | exact List.not_mem_nil | (simp only [List.mem_cons, List.not_mem_nil, or_false, Prod.mk.injEq]; omega)))) (f4.mono (by
      intro k f h
      unfold pV_ at h
      simp only [Bool.or_eq_true, Bool.and_eq_true, beq_iff_eq] at h
      exact cM_t (by first | exact List.not_mem_nil | (simp only [List.mem_cons, List.not_mem_nil, or_false]; omega)) (by first | exact List.not_mem_nil | (simp only [List.mem_cons, List.not_mem_nil, or_false, Prod.mk.injEq]; omega))))).up
  have kZ : RelZ C1 M2 := (hI.2.2.1.ag (f2.mono (by
      intro k f h
      unfold qZ at h
      simp only [Bool.or_eq_true, Bool.and_eq_true, beq_iff_eq] at h
      exact cM_t (by first | exact List.not_mem_nil | (simp only [List.mem_cons, List.not_mem_nil, or_false]; omega)) (by first | exact List.not_mem_nil | (simp only [List.mem_cons, List.not_mem_nil, or_false, Prod.mk.injEq]; omega)))) (f4.mono (by
      intro k f h
      unfold pZ at h
      simp only [Bool.or_eq_true, Bool.and_eq_true, beq_iff_eq] at h
      exact cM_t (by first | exact List.not_mem_nil | (simp only [List.mem_cons, List.not_mem_nil, or_false]; omega)) (by first | exact List.not_mem_nil | (simp only [List.mem_cons, List.not_mem_nil, or_false, Prod.mk.injEq]; omega)))))
  have kH : RelH C1 M2 := (hI.2.2.2.1.ag (f2.mono (by
      intro k f h
      unfold qH at h
      simp only [Bool.or_eq_true, Bool.and_eq_true, beq_iff_eq] at h
      exact cM_t (by first | exact List.not_mem_nil | (simp only [List.mem_cons, List.not_mem_nil, or_false]; omega)) (by first | exact List.not_mem_nil | (simp only [List.mem_cons, List.not_mem_nil, or_false, Prod.mk.injEq]; omega)))) (f4.mono (by
      intro k f h
      unfold pH at h
      simp only [Bool.or_eq_true, Bool.and_eq_true, beq_iff_eq] at h
      exact cM_t (by first | exact List.not_mem_nil | (simp only [List.mem_cons, List.not_mem_nil, or_false]; omega)) (by first | exact List.not_mem_nil | (simp only [List.mem_cons, List.not_mem_nil, or_false, Prod.mk.injEq]; omega)))))
  have kE : RelE C1 M2 := (hI.2.2.2.2.1.ag (f2.mono (by
      intro k f h
      unfold qE at h
      simp only [Bool.or_eq_true, Bool.and_eq_true, beq_iff_eq] at h
      exact cM_t (by first | exact List.not_mem_nil | (simp only [List.mem_cons, List.not_mem_nil, or_false]; omega)) (by first | exact List.not_mem_nil | (simp only [List.mem_cons, List.not_mem_nil, or_false, Prod.mk.injEq]; omega)))) (f4.mono (by
      intro k f h
      unfold pE at h
      simp only [Bool.or_eq_true, Bool.and_eq_true, beq_iff_eq] at h
      exact cM_t (by first | exact List.not_mem_nil | (simp only [List.mem_cons, List.not_mem_nil, or_false]; omega)) (by first | exact List.not_mem_nil | (simp only [List.mem_cons, List.not_mem_nil, or_false, Prod.mk.injEq]; omega)))))
  have kK : RelK (n + 1) C1 M2 := (hI.2.2.2.2.2.ag (f2.mono (by
      intro k f h
      unfold qK at h
      simp only [Bool.or_eq_true, Bool.and_eq_true, beq_iff_eq] at h
      exact cM_t (by first | exact List.not_mem_nil | (simp only [List.mem_cons, List.not_mem_nil, or_false]; omega)) (by first | exact List.not_mem_nil | (simp only [List.mem_cons, List.not_mem_nil, or_false, Prod.mk.injEq]; omega)))) (f4.mono (by
      intro k f h
      unfold pK at h
      simp only [Bool.or_eq_true, Bool.and_eq_true, beq_iff_eq] at h
      exact cM_t (by first | exact List.not_mem_nil | (simp only [List.mem_cons, List.not_mem_nil, or_false]; omega)) (by first | exact List.not_mem_nil | (simp only [List.mem_cons, List.not_mem_nil, or_false, Prod.mk.injEq]; omega))))).up
  exact Fin'.of ⟨kR, kV, kZ, kH, kE, kK⟩ f1 f3 (fun k f h => cM_t (by first | exact List.not_mem_nil | (simp only [List.mem_cons, List.not_mem_nil, or_false]; omega)) (by first | exact List.not_mem_nil | (simp only [List.mem_cons, List.not_mem_nil, or_false, Prod.mk.injEq]; omega)))
theorem s_none {n : Int} {M M1 C1 M2 : Mem} (hI : Inv n M M1) (f1 : Ag (cM [90, 91] []) C1 M1) (q3 : C1 = M) (hP : M2 = (setI M1 40 46 0 0 0)) : Fin' n C1 M1 M2 := by
  have f2 : Ag (cM [] []) M C1 := by rw [q3]; exact Ag.rf M
  have f3 : Ag (cM [] []) (setI M1 40 46 0 0 0) M2 := by rw [hP]; exact Ag.rf _
  have f4 := th0_ag f3
  have hB : Inv n M (setI M1 40 46 0 0 0) := hI.th
  have kR : RelR C1 M2 := (hI.1.ag (f2.mono (by
      intro k f h
      unfold qR at h
      simp only [Bool.or_eq_true, Bool.and_eq_true, beq_iff_eq] at h
      exact cM_t (by first | exact List.not_mem_nil | (simp only [List.mem_cons, List.not_mem_nil, or_false]; omega)) (by first | exact List.not_mem_nil | (simp only [List.mem_cons, List.not_mem_nil, or_false, Prod.mk.injEq]; omega)))) (f4.mono (by
      intro k f h
      unfold pR at h
      simp only [Bool.or_eq_true, Bool.and_eq_true, beq_iff_eq] at h
      exact cM_t (by first | exact List.not_mem_nil | (simp only [List.mem_cons, List.not_mem_nil, or_false]; omega)) (by first | exact List.not_mem_nil | (simp only [List.mem_cons, List.not_mem_nil, or_false, Prod.mk.injEq]; omega)))))
  have kV : RelV (n + 1) C1 M2 := (hI.2.1.ag (f2.mono (by
      intro k f h
      unfold qV at h
      simp only [Bool.or_eq_true, Bool.and_eq_true, beq_iff_eq] at h
      exact cM_t (by first | exact List.not_mem_nil | (simp only [List.mem_cons, List.not_mem_nil, or_false]; omega)) (by first | exact List.not_mem_nil | (simp only [List.mem_cons, List.not_mem_nil, or_false, Prod.mk.injEq]; omega)))) (f4.mono (by
      intro k f h
      unfold pV_ at h
      simp only [Bool.or_eq_true, Bool.and_eq_true, beq_iff_eq] at h
      exact cM_t (by first | exact List.not_mem_nil | (simp only [List.mem_cons, List.not_mem_nil, or_false]; omega)) (by first | exact List.not_mem_nil | (simp only [List.mem_cons, List.not_mem_nil, or_false, Prod.mk.injEq]; omega))))).up
  have kZ : RelZ C1 M2 := (hI.2.2.1.ag (f2.mono (by
      intro k f h
      unfold qZ at h
      simp only [Bool.or_eq_true, Bool.and_eq_true, beq_iff_eq] at h
      exact cM_t (by first | exact List.not_mem_nil | (simp only [List.mem_cons, List.not_mem_nil, or_false]; omega)) (by first | exact List.not_mem_nil | (simp only [List.mem_cons, List.not_mem_nil, or_false, Prod.mk.injEq]; omega)))) (f4.mono (by
      intro k f h
      unfold pZ at h
      simp only [Bool.or_eq_true, Bool.and_eq_true, beq_iff_eq] at h
      exact cM_t (by first | exact List.not_mem_nil | (simp only [List.mem_cons, List.not_mem_nil, or_false]; omega)) (by first | exact List.not_mem_nil | (simp only [List.mem_cons, List.not_mem_nil, or_false, Prod.mk.injEq]; omega)))))
  have kH : RelH C1 M2 := (hI.2.2.2.1.ag (f2.mono (by
      intro k f h
      unfold qH at h
      simp only [Bool.or_eq_true, Bool.and_eq_true, beq_iff_eq] at h
      exact cM_t (by first | exact List.not_mem_nil | (simp only [List.mem_cons, List.not_mem_nil, or_false]; omega)) (by first | exact List.not_mem_nil | (simp only [List.mem_cons, List.not_mem_nil, or_false, Prod.mk.injEq]; omega)))) (f4.mono (by
      intro k f h
      unfold pH at h
      simp only [Bool.or_eq_true, Bool.and_eq_true, beq_iff_eq] at h
      exact cM_t (by first | exact List.not_mem_nil | (simp only [List.mem_cons, List.not_mem_nil, or_false]; omega)) (by first | exact List.not_mem_nil | (simp only [List.mem_cons, List.not_mem_nil, or_false, Prod.mk.injEq]; omega)))))
  have kE : RelE C1 M2 := (hI.2.2.2.2.1.ag (f2.mono (by
      intro k f h
      unfold qE at h
      simp only [Bool.or_eq_true, Bool.and_eq_true, beq_iff_eq] at h
      exact cM_t (by first | exact List.not_mem_nil | (simp only [List.mem_cons, List.not_mem_nil, or_false]; omega)) (by first | exact List.not_mem_nil | (simp only [List.mem_cons, List.not_mem_nil, or_false, Prod.mk.injEq]; omega)))) (f4.mono (by
      intro k f h
      unfold pE at h
      simp only [Bool.or_eq_true, Bool.and_eq_true, beq_iff_eq] at h
      exact cM_t (by first | exact List.not_mem_nil | (simp only [List.mem_cons, List.not_mem_nil, or_false]; omega)) (by first | exact List.not_mem_nil | (simp only [List.mem_cons, List.not_mem_nil, or_false, Prod.mk.injEq]; omega)))))
  have kK : RelK (n + 1) C1 M2 := (hI.2.2.2.2.2.ag (f2.mono (by
      intro k f h
      unfold qK at h
      simp only [Bool.or_eq_true, Bool.and_eq_true, beq_iff_eq] at h
      exact cM_t (by first | exact List.not_mem_nil | (simp only [List.mem_cons, List.not_mem_nil, or_false]; omega)) (by first | exact List.not_mem_nil | (simp only [List.mem_cons, List.not_mem_nil, or_false, Prod.mk.injEq]; omega)))) (f4.mono (by
      intro k f h
      unfold pK at h
      simp only [Bool.or_eq_true, Bool.and_eq_true, beq_iff_eq] at h
      exact cM_t (by first | exact List.not_mem_nil | (simp only [List.mem_cons, List.not_mem_nil, or_false]; omega)) (by first | exact List.not_mem_nil | (simp only [List.mem_cons, List.not_mem_nil, or_false, Prod.mk.injEq]; omega))))).up
  exact Fin'.of ⟨kR, kV, kZ, kH, kE, kK⟩ f1 f3 (fun k f h => cM_t (by first | exact List.not_mem_nil | (simp only [List.mem_cons, List.not_mem_nil, or_false]; omega)) (by first | exact List.not_mem_nil | (simp only [List.mem_cons, List.not_mem_nil, or_false, Prod.mk.injEq]; omega)))
theorem s_ofReel {n : Int} {M M1 C1 M2 : Mem} (hI : Inv n M M1) (f1 : Ag (cM [90, 91] []) C1 M1) (q3 : C1 = M) (hP : Ex (fun k => k == 78 || k == 79) (setI M1 40 46 0 0 0) M2) : Fin' n C1 M1 M2 := by
  have f2 : Ag (cM [] []) M C1 := by rw [q3]; exact Ag.rf M
  have f3 : Ag (cM [78, 79] []) (setI M1 40 46 0 0 0) M2 := Ag.ofEx hP (by
    intro k hk
    (try simp only [List.mem_cons, List.not_mem_nil, or_false, not_or] at hk)
    simp only [Bool.or_eq_false_iff, beq_eq_false_iff_ne]
    omega)
  have f4 := th0_ag f3
  have hB : Inv n M (setI M1 40 46 0 0 0) := hI.th
  have kR : RelR C1 M2 := (hI.1.ag (f2.mono (by
      intro k f h
      unfold qR at h
      simp only [Bool.or_eq_true, Bool.and_eq_true, beq_iff_eq] at h
      exact cM_t (by first | exact List.not_mem_nil | (simp only [List.mem_cons, List.not_mem_nil, or_false]; omega)) (by first | exact List.not_mem_nil | (simp only [List.mem_cons, List.not_mem_nil, or_false, Prod.mk.injEq]; omega)))) (f4.mono (by
      intro k f h
      unfold pR at h
      simp only [Bool.or_eq_true, Bool.and_eq_true, beq_iff_eq] at h
      exact cM_t (by first | exact List.not_mem_nil | (simp only [List.mem_cons, List.not_mem_nil, or_false]; omega)) (by first | exact List.not_mem_nil | (simp only [List.mem_cons, List.not_mem_nil, or_false, Prod.mk.injEq]; omega)))))
  have kV : RelV (n + 1) C1 M2 := (hI.2.1.ag (f2.mono (by
      intro k f h
      unfold qV at h
      simp only [Bool.or_eq_true, Bool.and_eq_true, beq_iff_eq] at h
      exact cM_t (by first | exact List.not_mem_nil | (simp only [List.mem_cons, List.not_mem_nil, or_false]; omega)) (by first | exact List.not_mem_nil | (simp only [List.mem_cons, List.not_mem_nil, or_false, Prod.mk.injEq]; omega)))) (f4.mono (by
      intro k f h
      unfold pV_ at h
      simp only [Bool.or_eq_true, Bool.and_eq_true, beq_iff_eq] at h
      exact cM_t (by first | exact List.not_mem_nil | (simp only [List.mem_cons, List.not_mem_nil, or_false]; omega)) (by first | exact List.not_mem_nil | (simp only [List.mem_cons, List.not_mem_nil, or_false, Prod.mk.injEq]; omega))))).up
  have kZ : RelZ C1 M2 := (hI.2.2.1.ag (f2.mono (by
      intro k f h
      unfold qZ at h
      simp only [Bool.or_eq_true, Bool.and_eq_true, beq_iff_eq] at h
      exact cM_t (by first | exact List.not_mem_nil | (simp only [List.mem_cons, List.not_mem_nil, or_false]; omega)) (by first | exact List.not_mem_nil | (simp only [List.mem_cons, List.not_mem_nil, or_false, Prod.mk.injEq]; omega)))) (f4.mono (by
      intro k f h
      unfold pZ at h
      simp only [Bool.or_eq_true, Bool.and_eq_true, beq_iff_eq] at h
      exact cM_t (by first | exact List.not_mem_nil | (simp only [List.mem_cons, List.not_mem_nil, or_false]; omega)) (by first | exact List.not_mem_nil | (simp only [List.mem_cons, List.not_mem_nil, or_false, Prod.mk.injEq]; omega)))))
  have kH : RelH C1 M2 := (hI.2.2.2.1.ag (f2.mono (by
      intro k f h
      unfold qH at h
      simp only [Bool.or_eq_true, Bool.and_eq_true, beq_iff_eq] at h
      exact cM_t (by first | exact List.not_mem_nil | (simp only [List.mem_cons, List.not_mem_nil, or_false]; omega)) (by first | exact List.not_mem_nil | (simp only [List.mem_cons, List.not_mem_nil, or_false, Prod.mk.injEq]; omega)))) (f4.mono (by
      intro k f h
      unfold pH at h
      simp only [Bool.or_eq_true, Bool.and_eq_true, beq_iff_eq] at h
      exact cM_t (by first | exact List.not_mem_nil | (simp only [List.mem_cons, List.not_mem_nil, or_false]; omega)) (by first | exact List.not_mem_nil | (simp only [List.mem_cons, List.not_mem_nil, or_false, Prod.mk.injEq]; omega)))))
  have kE : RelE C1 M2 := (hI.2.2.2.2.1.ag (f2.mono (by
      intro k f h
      unfold qE at h
      simp only [Bool.or_eq_true, Bool.and_eq_true, beq_iff_eq] at h
      exact cM_t (by first | exact List.not_mem_nil | (simp only [List.mem_cons, List.not_mem_nil, or_false]; omega)) (by first | exact List.not_mem_nil | (simp only [List.mem_cons, List.not_mem_nil, or_false, Prod.mk.injEq]; omega)))) (f4.mono (by
      intro k f h
      unfold pE at h
      simp only [Bool.or_eq_true, Bool.and_eq_true, beq_iff_eq] at h
      exact cM_t (by first | exact List.not_mem_nil | (simp only [List.mem_cons, List.not_mem_nil, or_false]; omega)) (by first | exact List.not_mem_nil | (simp only [List.mem_cons, List.not_mem_nil, or_false, Prod.mk.injEq]; omega)))))
  have kK : RelK (n + 1) C1 M2 := (hI.2.2.2.2.2.ag (f2.mono (by
      intro k f h
      unfold qK at h
      simp only [Bool.or_eq_true, Bool.and_eq_true, beq_iff_eq] at h
      exact cM_t (by first | exact List.not_mem_nil | (simp only [List.mem_cons, List.not_mem_nil, or_false]; omega)) (by first | exact List.not_mem_nil | (simp only [List.mem_cons, List.not_mem_nil, or_false, Prod.mk.injEq]; omega)))) (f4.mono (by
      intro k f h
      unfold pK at h
      simp only [Bool.or_eq_true, Bool.and_eq_true, beq_iff_eq] at h
      exact cM_t (by first | exact List.not_mem_nil | (simp only [List.mem_cons, List.not_mem_nil, or_false]; omega)) (by first | exact List.not_mem_nil | (simp only [List.mem_cons, List.not_mem_nil, or_false, Prod.mk.injEq]; omega))))).up
  exact Fin'.of ⟨kR, kV, kZ, kH, kE, kK⟩ f1 f3 (fun k f h => cM_t (by first | exact List.not_mem_nil | (simp only [List.mem_cons, List.not_mem_nil, or_false]; omega)) (by first | exact List.not_mem_nil | (simp only [List.mem_cons, List.not_mem_nil, or_false, Prod.mk.injEq]; omega)))
theorem s_tolerance {n : Int} {t : Int} {M M1 C1 M2 : Mem} (hI : Inv n M M1) (f1 : Ag (cM [90, 91] []) C1 M1) (ht : 0 ≤ t ∧ t ≤ 2040) (q3 : C1 = setI M 0 3 0 0 t) (hP : M2 = setI (setI M1 40 46 0 0 0) 40 11 0 0 t) : Fin' n C1 M1 M2 := by
  have f2 : Ag (cM [] [(0, 3)]) M C1 := by rw [q3]; exact (Ag.rf _).setI rfl
  have f3 : Ag (cM [] [(40, 11)]) (setI M1 40 46 0 0 0) M2 := by rw [hP]; exact (Ag.rf _).setI rfl
  have f4 := th0_ag f3
  have hB : Inv n M (setI M1 40 46 0 0 0) := hI.th
  have kR : RelR C1 M2 := by rw [q3, hP]; exact hB.1.tol ht
  have kV : RelV (n + 1) C1 M2 := (hI.2.1.ag (f2.mono (by
      intro k f h
      unfold qV at h
      simp only [Bool.or_eq_true, Bool.and_eq_true, beq_iff_eq] at h
      exact cM_t (by first | exact List.not_mem_nil | (simp only [List.mem_cons, List.not_mem_nil, or_false]; omega)) (by first | exact List.not_mem_nil | (simp only [List.mem_cons, List.not_mem_nil, or_false, Prod.mk.injEq]; omega)))) (f4.mono (by
      intro k f h
      unfold pV_ at h
      simp only [Bool.or_eq_true, Bool.and_eq_true, beq_iff_eq] at h
      exact cM_t (by first | exact List.not_mem_nil | (simp only [List.mem_cons, List.not_mem_nil, or_false]; omega)) (by first | exact List.not_mem_nil | (simp only [List.mem_cons, List.not_mem_nil, or_false, Prod.mk.injEq]; omega))))).up
  have kZ : RelZ C1 M2 := (hI.2.2.1.ag (f2.mono (by
      intro k f h
      unfold qZ at h
      simp only [Bool.or_eq_true, Bool.and_eq_true, beq_iff_eq] at h
      exact cM_t (by first | exact List.not_mem_nil | (simp only [List.mem_cons, List.not_mem_nil, or_false]; omega)) (by first | exact List.not_mem_nil | (simp only [List.mem_cons, List.not_mem_nil, or_false, Prod.mk.injEq]; omega)))) (f4.mono (by
      intro k f h
      unfold pZ at h
      simp only [Bool.or_eq_true, Bool.and_eq_true, beq_iff_eq] at h
      exact cM_t (by first | exact List.not_mem_nil | (simp only [List.mem_cons, List.not_mem_nil, or_false]; omega)) (by first | exact List.not_mem_nil | (simp only [List.mem_cons, List.not_mem_nil, or_false, Prod.mk.injEq]; omega)))))
  have kH : RelH C1 M2 := (hI.2.2.2.1.ag (f2.mono (by
      intro k f h
      unfold qH at h
      simp only [Bool.or_eq_true, Bool.and_eq_true, beq_iff_eq] at h
      exact cM_t (by first | exact List.not_mem_nil | (simp only [List.mem_cons, List.not_mem_nil, or_false]; omega)) (by first | exact List.not_mem_nil | (simp only [List.mem_cons, List.not_mem_nil, or_false, Prod.mk.injEq]; omega)))) (f4.mono (by
      intro k f h
      unfold pH at h
      simp only [Bool.or_eq_true, Bool.and_eq_true, beq_iff_eq] at h
      exact cM_t (by first | exact List.not_mem_nil | (simp only [List.mem_cons, List.not_mem_nil, or_false]; omega)) (by first | exact List.not_mem_nil | (simp only [List.mem_cons, List.not_mem_nil, or_false, Prod.mk.injEq]; omega)))))
  have kE : RelE C1 M2 := (hI.2.2.2.2.1.ag (f2.mono (by
      intro k f h
      unfold qE at h
      simp only [Bool.or_eq_true, Bool.and_eq_true, beq_iff_eq] at h
      exact cM_t (by first | exact List.not_mem_nil | (simp only [List.mem_cons, List.not_mem_nil, or_false]; omega)) (by first | exact List.not_mem_nil | (simp only [List.mem_cons, List.not_mem_nil, or_false, Prod.mk.injEq]; omega)))) (f4.mono (by
      intro k f h
      unfold pE at h
      simp only [Bool.or_eq_true, Bool.and_eq_true, beq_iff_eq] at h
      exact cM_t (by first | exact List.not_mem_nil | (simp only [List.mem_cons, List.not_mem_nil, or_false]; omega)) (by first | exact List.not_mem_nil | (simp only [List.mem_cons, List.not_mem_nil, or_false, Prod.mk.injEq]; omega)))))
  have kK : RelK (n + 1) C1 M2 := (hI.2.2.2.2.2.ag (f2.mono (by
      intro k f h
      unfold qK at h
      simp only [Bool.or_eq_true, Bool.and_eq_true, beq_iff_eq] at h
      exact cM_t (by first | exact List.not_mem_nil | (simp only [List.mem_cons, List.not_mem_nil, or_false]; omega)) (by first | exact List.not_mem_nil | (simp only [List.mem_cons, List.not_mem_nil, or_false, Prod.mk.injEq]; omega)))) (f4.mono (by
      intro k f h
      unfold pK at h
      simp only [Bool.or_eq_true, Bool.and_eq_true, beq_iff_eq] at h
      exact cM_t (by first | exact List.not_mem_nil | (simp only [List.mem_cons, List.not_mem_nil, or_false]; omega)) (by first | exact List.not_mem_nil | (simp only [List.mem_cons, List.not_mem_nil, or_false, Prod.mk.injEq]; omega))))).up
  exact Fin'.of ⟨kR, kV, kZ, kH, kE, kK⟩ f1 f3 (fun k f h => cM_t (by first | exact List.not_mem_nil | (simp only [List.mem_cons, List.not_mem_nil, or_false]; omega)) (by first | exact List.not_mem_nil | (simp only [List.mem_cons, List.not_mem_nil, or_false, Prod.mk.injEq]; omega)))
theorem s_align {n : Int} {M M1 C1 M2 : Mem} (hI : Inv n M M1) (f1 : Ag (cM [90, 91] []) C1 M1) (q3 : Ex (fun k => k == 4) M C1 ∧ Bz C1) (hP : Ex (fun k => k == 51) (setI M1 40 46 0 0 0) M2) : Fin' n C1 M1 M2 := by
  have f2 : Ag (cM [4] []) M C1 := Ag.ofEx q3.1 (by
    intro k hk
    (try simp only [List.mem_cons, List.not_mem_nil, or_false, not_or] at hk)
    simp only [Bool.or_eq_false_iff, beq_eq_false_iff_ne]
    omega)
  have f3 : Ag (cM [51] []) (setI M1 40 46 0 0 0) M2 := Ag.ofEx hP (by
    intro k hk
    (try simp only [List.mem_cons, List.not_mem_nil, or_false, not_or] at hk)
    simp only [Bool.or_eq_false_iff, beq_eq_false_iff_ne]
    omega)
  have f4 := th0_ag f3
  have hB : Inv n M (setI M1 40 46 0 0 0) := hI.th
  have kR : RelR C1 M2 := (hI.1.bzK q3.1 q3.2).ag (Ag.rf C1) (f4.mono (by
      intro k f h
      unfold pR at h
      simp only [Bool.or_eq_true, Bool.and_eq_true, beq_iff_eq] at h
      exact cM_t (by first | exact List.not_mem_nil | (simp only [List.mem_cons, List.not_mem_nil, or_false]; omega)) (by first | exact List.not_mem_nil | (simp only [List.mem_cons, List.not_mem_nil, or_false, Prod.mk.injEq]; omega))))
  have kV : RelV (n + 1) C1 M2 := (hI.2.1.ag (f2.mono (by
      intro k f h
      unfold qV at h
      simp only [Bool.or_eq_true, Bool.and_eq_true, beq_iff_eq] at h
      exact cM_t (by first | exact List.not_mem_nil | (simp only [List.mem_cons, List.not_mem_nil, or_false]; omega)) (by first | exact List.not_mem_nil | (simp only [List.mem_cons, List.not_mem_nil, or_false, Prod.mk.injEq]; omega)))) (f4.mono (by
      intro k f h
      unfold pV_ at h
      simp only [Bool.or_eq_true, Bool.and_eq_true, beq_iff_eq] at h
      exact cM_t (by first | exact List.not_mem_nil | (simp only [List.mem_cons, List.not_mem_nil, or_false]; omega)) (by first | exact List.not_mem_nil | (simp only [List.mem_cons, List.not_mem_nil, or_false, Prod.mk.injEq]; omega))))).up
  have kZ : RelZ C1 M2 := (hI.2.2.1.ag (f2.mono (by
      intro k f h
      unfold qZ at h
      simp only [Bool.or_eq_true, Bool.and_eq_true, beq_iff_eq] at h
      exact cM_t (by first | exact List.not_mem_nil | (simp only [List.mem_cons, List.not_mem_nil, or_false]; omega)) (by first | exact List.not_mem_nil | (simp only [List.mem_cons, List.not_mem_nil, or_false, Prod.mk.injEq]; omega)))) (f4.mono (by
      intro k f h
      unfold pZ at h
      simp only [Bool.or_eq_true, Bool.and_eq_true, beq_iff_eq] at h
      exact cM_t (by first | exact List.not_mem_nil | (simp only [List.mem_cons, List.not_mem_nil, or_false]; omega)) (by first | exact List.not_mem_nil | (simp only [List.mem_cons, List.not_mem_nil, or_false, Prod.mk.injEq]; omega)))))
  have kH : RelH C1 M2 := (hI.2.2.2.1.ag (f2.mono (by
      intro k f h
      unfold qH at h
      simp only [Bool.or_eq_true, Bool.and_eq_true, beq_iff_eq] at h
      exact cM_t (by first | exact List.not_mem_nil | (simp only [List.mem_cons, List.not_mem_nil, or_false]; omega)) (by first | exact List.not_mem_nil | (simp only [List.mem_cons, List.not_mem_nil, or_false, Prod.mk.injEq]; omega)))) (f4.mono (by
      intro k f h
      unfold pH at h
      simp only [Bool.or_eq_true, Bool.and_eq_true, beq_iff_eq] at h
      exact cM_t (by first | exact List.not_mem_nil | (simp only [List.mem_cons, List.not_mem_nil, or_false]; omega)) (by first | exact List.not_mem_nil | (simp only [List.mem_cons, List.not_mem_nil, or_false, Prod.mk.injEq]; omega)))))
  have kE : RelE C1 M2 := (hI.2.2.2.2.1.ag (f2.mono (by
      intro k f h
      unfold qE at h
      simp only [Bool.or_eq_true, Bool.and_eq_true, beq_iff_eq] at h
      exact cM_t (by first | exact List.not_mem_nil | (simp only [List.mem_cons, List.not_mem_nil, or_false]; omega)) (by first | exact List.not_mem_nil | (simp only [List.mem_cons, List.not_mem_nil, or_false, Prod.mk.injEq]; omega)))) (f4.mono (by
      intro k f h
      unfold pE at h
      simp only [Bool.or_eq_true, Bool.and_eq_true, beq_iff_eq] at h
      exact cM_t (by first | exact List.not_mem_nil | (simp only [List.mem_cons, List.not_mem_nil, or_false]; omega)) (by first | exact List.not_mem_nil | (simp only [List.mem_cons, List.not_mem_nil, or_false, Prod.mk.injEq]; omega)))))
  have kK : RelK (n + 1) C1 M2 := (hI.2.2.2.2.2.ag (f2.mono (by
      intro k f h
      unfold qK at h
      simp only [Bool.or_eq_true, Bool.and_eq_true, beq_iff_eq] at h
      exact cM_t (by first | exact List.not_mem_nil | (simp only [List.mem_cons, List.not_mem_nil, or_false]; omega)) (by first | exact List.not_mem_nil | (simp only [List.mem_cons, List.not_mem_nil, or_false, Prod.mk.injEq]; omega)))) (f4.mono (by
      intro k f h
      unfold pK at h
      simp only [Bool.or_eq_true, Bool.and_eq_true, beq_iff_eq] at h
      exact cM_t (by first | exact List.not_mem_nil | (simp only [List.mem_cons, List.not_mem_nil, or_false]; omega)) (by first | exact List.not_mem_nil | (simp only [List.mem_cons, List.not_mem_nil, or_false, Prod.mk.injEq]; omega))))).up
  exact Fin'.of ⟨kR, kV, kZ, kH, kE, kK⟩ f1 f3 (fun k f h => cM_t (by first | exact List.not_mem_nil | (simp only [List.mem_cons, List.not_mem_nil, or_false]; omega)) (by first | exact List.not_mem_nil | (simp only [List.mem_cons, List.not_mem_nil, or_false, Prod.mk.injEq]; omega)))
theorem s_version {n : Int} {l y : Int} {M M1 C1 M2 : Mem} (hI : Inv n M M1) (f1 : Ag (cM [90, 91] []) C1 M1) (hc : (M.1 0 6 0 0) < 6) (q3 : C1 = setI (setI (setI M 22 0 (M.1 0 6 0 0) 0 l) 22 1 (M.1 0 6 0 0) 0 y) 0 6 0 0 ((M.1 0 6 0 0) + 1)) (hP : M2 = verM (setI M1 40 46 0 0 0) l y) : Fin' n C1 M1 M2 := by
  have f2 : Ag (cM [] [(22, 0), (22, 1), (0, 6)]) M C1 := by rw [q3]; exact (((Ag.rf _).setI rfl).setI rfl).setI rfl
  have f3 : Ag (cM [52, 53] [(40, 22)]) (setI M1 40 46 0 0 0) M2 := by rw [hP]; exact (((Ag.rf _).setI rfl).setI rfl).setI rfl
  have f4 := th0_ag f3
  have hB : Inv n M (setI M1 40 46 0 0 0) := hI.th
  have kR : RelR C1 M2 := (hI.1.ag (f2.mono (by
      intro k f h
      unfold qR at h
      simp only [Bool.or_eq_true, Bool.and_eq_true, beq_iff_eq] at h
      exact cM_t (by first | exact List.not_mem_nil | (simp only [List.mem_cons, List.not_mem_nil, or_false]; omega)) (by first | exact List.not_mem_nil | (simp only [List.mem_cons, List.not_mem_nil, or_false, Prod.mk.injEq]; omega)))) (f4.mono (by
      intro k f h
      unfold pR at h
      simp only [Bool.or_eq_true, Bool.and_eq_true, beq_iff_eq] at h
      exact cM_t (by first | exact List.not_mem_nil | (simp only [List.mem_cons, List.not_mem_nil, or_false]; omega)) (by first | exact List.not_mem_nil | (simp only [List.mem_cons, List.not_mem_nil, or_false, Prod.mk.injEq]; omega)))))
  have kV : RelV (n + 1) C1 M2 := by rw [q3, hP]; exact (hB.2.1.versionK hI.2.2.2.1.rc.1 hc).up
  have kZ : RelZ C1 M2 := (hI.2.2.1.ag (f2.mono (by
      intro k f h
      unfold qZ at h
      simp only [Bool.or_eq_true, Bool.and_eq_true, beq_iff_eq] at h
      exact cM_t (by first | exact List.not_mem_nil | (simp only [List.mem_cons, List.not_mem_nil, or_false]; omega)) (by first | exact List.not_mem_nil | (simp only [List.mem_cons, List.not_mem_nil, or_false, Prod.mk.injEq]; omega)))) (f4.mono (by
      intro k f h
      unfold pZ at h
      simp only [Bool.or_eq_true, Bool.and_eq_true, beq_iff_eq] at h
      exact cM_t (by first | exact List.not_mem_nil | (simp only [List.mem_cons, List.not_mem_nil, or_false]; omega)) (by first | exact List.not_mem_nil | (simp only [List.mem_cons, List.not_mem_nil, or_false, Prod.mk.injEq]; omega)))))
  have kH : RelH C1 M2 := by rw [q3, hP]; exact hB.2.2.2.1.versionK
  have kE : RelE C1 M2 := (hI.2.2.2.2.1.ag (f2.mono (by
      intro k f h
      unfold qE at h
      simp only [Bool.or_eq_true, Bool.and_eq_true, beq_iff_eq] at h
      exact cM_t (by first | exact List.not_mem_nil | (simp only [List.mem_cons, List.not_mem_nil, or_false]; omega)) (by first | exact List.not_mem_nil | (simp only [List.mem_cons, List.not_mem_nil, or_false, Prod.mk.injEq]; omega)))) (f4.mono (by
      intro k f h
      unfold pE at h
      simp only [Bool.or_eq_true, Bool.and_eq_true, beq_iff_eq] at h
      exact cM_t (by first | exact List.not_mem_nil | (simp only [List.mem_cons, List.not_mem_nil, or_false]; omega)) (by first | exact List.not_mem_nil | (simp only [List.mem_cons, List.not_mem_nil, or_false, Prod.mk.injEq]; omega)))))
  have kK : RelK (n + 1) C1 M2 := (hI.2.2.2.2.2.ag (f2.mono (by
      intro k f h
      unfold qK at h
      simp only [Bool.or_eq_true, Bool.and_eq_true, beq_iff_eq] at h
      exact cM_t (by first | exact List.not_mem_nil | (simp only [List.mem_cons, List.not_mem_nil, or_false]; omega)) (by first | exact List.not_mem_nil | (simp only [List.mem_cons, List.not_mem_nil, or_false, Prod.mk.injEq]; omega)))) (f4.mono (by
      intro k f h
      unfold pK at h
      simp only [Bool.or_eq_true, Bool.and_eq_true, beq_iff_eq] at h
      exact cM_t (by first | exact List.not_mem_nil | (simp only [List.mem_cons, List.not_mem_nil, or_false]; omega)) (by first | exact List.not_mem_nil | (simp only [List.mem_cons, List.not_mem_nil, or_false, Prod.mk.injEq]; omega))))).up
  exact Fin'.of ⟨kR, kV, kZ, kH, kE, kK⟩ f1 f3 (fun k f h => cM_t (by first | exact List.not_mem_nil | (simp only [List.mem_cons, List.not_mem_nil, or_false]; omega)) (by first | exact List.not_mem_nil | (simp only [List.mem_cons, List.not_mem_nil, or_false, Prod.mk.injEq]; omega)))
theorem s_shot {n : Int} {v f t : Int} {M M1 C1 M2 : Mem} (hI : Inv n M M1) (f1 : Ag (cM [90, 91] []) C1 M1) (v0 : 0 ≤ v ∧ v < (M.1 0 6 0 0)) (hf : 0 ≤ f ∧ f ≤ t ∧ t ≤ 999) (hs : (M.1 22 3 v 0) < 10) (hc : (M.1 22 4 v 0) + t - f + 1 ≤ 120) (q3 : C1 = addShotM M v f t) (hP : M2 = shM (setI M1 40 46 0 0 0) v f t) : Fin' n C1 M1 M2 := by
  have f2 : Ag (cM [23, 24, 25] [(22, 3), (22, 4)]) M C1 := by rw [q3]; exact (((((Ag.rf _).setI rfl).setI rfl).setI rfl).setI rfl).setI rfl
  have f3 : Ag (cM [55, 56, 57, 58] []) (setI M1 40 46 0 0 0) M2 := by rw [hP]; exact ((((Ag.rf _).setI rfl).setI rfl).setI rfl).setI rfl
  have f4 := th0_ag f3
  have hB : Inv n M (setI M1 40 46 0 0 0) := hI.th
  have kR : RelR C1 M2 := (hI.1.ag (f2.mono (by
      intro k f h
      unfold qR at h
      simp only [Bool.or_eq_true, Bool.and_eq_true, beq_iff_eq] at h
      exact cM_t (by first | exact List.not_mem_nil | (simp only [List.mem_cons, List.not_mem_nil, or_false]; omega)) (by first | exact List.not_mem_nil | (simp only [List.mem_cons, List.not_mem_nil, or_false, Prod.mk.injEq]; omega)))) (f4.mono (by
      intro k f h
      unfold pR at h
      simp only [Bool.or_eq_true, Bool.and_eq_true, beq_iff_eq] at h
      exact cM_t (by first | exact List.not_mem_nil | (simp only [List.mem_cons, List.not_mem_nil, or_false]; omega)) (by first | exact List.not_mem_nil | (simp only [List.mem_cons, List.not_mem_nil, or_false, Prod.mk.injEq]; omega)))))
  have kV : RelV (n + 1) C1 M2 := by rw [q3, hP]; exact (hB.2.1.shot v0.1 v0.2 hf hs hc).up
  have kZ : RelZ C1 M2 := (hI.2.2.1.ag (f2.mono (by
      intro k f h
      unfold qZ at h
      simp only [Bool.or_eq_true, Bool.and_eq_true, beq_iff_eq] at h
      exact cM_t (by first | exact List.not_mem_nil | (simp only [List.mem_cons, List.not_mem_nil, or_false]; omega)) (by first | exact List.not_mem_nil | (simp only [List.mem_cons, List.not_mem_nil, or_false, Prod.mk.injEq]; omega)))) (f4.mono (by
      intro k f h
      unfold pZ at h
      simp only [Bool.or_eq_true, Bool.and_eq_true, beq_iff_eq] at h
      exact cM_t (by first | exact List.not_mem_nil | (simp only [List.mem_cons, List.not_mem_nil, or_false]; omega)) (by first | exact List.not_mem_nil | (simp only [List.mem_cons, List.not_mem_nil, or_false, Prod.mk.injEq]; omega)))))
  have kH : RelH C1 M2 := (hI.2.2.2.1.ag (f2.mono (by
      intro k f h
      unfold qH at h
      simp only [Bool.or_eq_true, Bool.and_eq_true, beq_iff_eq] at h
      exact cM_t (by first | exact List.not_mem_nil | (simp only [List.mem_cons, List.not_mem_nil, or_false]; omega)) (by first | exact List.not_mem_nil | (simp only [List.mem_cons, List.not_mem_nil, or_false, Prod.mk.injEq]; omega)))) (f4.mono (by
      intro k f h
      unfold pH at h
      simp only [Bool.or_eq_true, Bool.and_eq_true, beq_iff_eq] at h
      exact cM_t (by first | exact List.not_mem_nil | (simp only [List.mem_cons, List.not_mem_nil, or_false]; omega)) (by first | exact List.not_mem_nil | (simp only [List.mem_cons, List.not_mem_nil, or_false, Prod.mk.injEq]; omega)))))
  have kE : RelE C1 M2 := (hI.2.2.2.2.1.ag (f2.mono (by
      intro k f h
      unfold qE at h
      simp only [Bool.or_eq_true, Bool.and_eq_true, beq_iff_eq] at h
      exact cM_t (by first | exact List.not_mem_nil | (simp only [List.mem_cons, List.not_mem_nil, or_false]; omega)) (by first | exact List.not_mem_nil | (simp only [List.mem_cons, List.not_mem_nil, or_false, Prod.mk.injEq]; omega)))) (f4.mono (by
      intro k f h
      unfold pE at h
      simp only [Bool.or_eq_true, Bool.and_eq_true, beq_iff_eq] at h
      exact cM_t (by first | exact List.not_mem_nil | (simp only [List.mem_cons, List.not_mem_nil, or_false]; omega)) (by first | exact List.not_mem_nil | (simp only [List.mem_cons, List.not_mem_nil, or_false, Prod.mk.injEq]; omega)))))
  have kK : RelK (n + 1) C1 M2 := (hI.2.2.2.2.2.ag (f2.mono (by
      intro k f h
      unfold qK at h
      simp only [Bool.or_eq_true, Bool.and_eq_true, beq_iff_eq] at h
      exact cM_t (by first | exact List.not_mem_nil | (simp only [List.mem_cons, List.not_mem_nil, or_false]; omega)) (by first | exact List.not_mem_nil | (simp only [List.mem_cons, List.not_mem_nil, or_false, Prod.mk.injEq]; omega)))) (f4.mono (by
      intro k f h
      unfold pK at h
      simp only [Bool.or_eq_true, Bool.and_eq_true, beq_iff_eq] at h
      exact cM_t (by first | exact List.not_mem_nil | (simp only [List.mem_cons, List.not_mem_nil, or_false]; omega)) (by first | exact List.not_mem_nil | (simp only [List.mem_cons, List.not_mem_nil, or_false, Prod.mk.injEq]; omega))))).up
  exact Fin'.of ⟨kR, kV, kZ, kH, kE, kK⟩ f1 f3 (fun k f h => cM_t (by first | exact List.not_mem_nil | (simp only [List.mem_cons, List.not_mem_nil, or_false]; omega)) (by first | exact List.not_mem_nil | (simp only [List.mem_cons, List.not_mem_nil, or_false, Prod.mk.injEq]; omega)))
theorem s_proof {n : Int} {v : Int} {M M1 C1 M2 : Mem} (hI : Inv n M M1) (f1 : Ag (cM [90, 91] []) C1 M1) (hn : n ≤ 1000) (v0 : 0 ≤ v ∧ v < (M.1 0 6 0 0)) (q3 : C1 = setI M 22 2 v 0 ((M.1 22 2 v 0) + 1)) (hP : M2 = setI (setI M1 40 46 0 0 0) 54 0 0 v ((M.1 22 2 v 0) + 1)) : Fin' n C1 M1 M2 := by
  have f2 : Ag (cM [] [(22, 2)]) M C1 := by rw [q3]; exact (Ag.rf _).setI rfl
  have f3 : Ag (cM [54] []) (setI M1 40 46 0 0 0) M2 := by rw [hP]; exact (Ag.rf _).setI rfl
  have f4 := th0_ag f3
  have hB : Inv n M (setI M1 40 46 0 0 0) := hI.th
  have kR : RelR C1 M2 := (hI.1.ag (f2.mono (by
      intro k f h
      unfold qR at h
      simp only [Bool.or_eq_true, Bool.and_eq_true, beq_iff_eq] at h
      exact cM_t (by first | exact List.not_mem_nil | (simp only [List.mem_cons, List.not_mem_nil, or_false]; omega)) (by first | exact List.not_mem_nil | (simp only [List.mem_cons, List.not_mem_nil, or_false, Prod.mk.injEq]; omega)))) (f4.mono (by
      intro k f h
      unfold pR at h
      simp only [Bool.or_eq_true, Bool.and_eq_true, beq_iff_eq] at h
      exact cM_t (by first | exact List.not_mem_nil | (simp only [List.mem_cons, List.not_mem_nil, or_false]; omega)) (by first | exact List.not_mem_nil | (simp only [List.mem_cons, List.not_mem_nil, or_false, Prod.mk.injEq]; omega)))))
  have kV : RelV (n + 1) C1 M2 := by rw [q3, hP]; exact hB.2.1.proofK hn v0.1 v0.2
  have kZ : RelZ C1 M2 := (hI.2.2.1.ag (f2.mono (by
      intro k f h
      unfold qZ at h
      simp only [Bool.or_eq_true, Bool.and_eq_true, beq_iff_eq] at h
      exact cM_t (by first | exact List.not_mem_nil | (simp only [List.mem_cons, List.not_mem_nil, or_false]; omega)) (by first | exact List.not_mem_nil | (simp only [List.mem_cons, List.not_mem_nil, or_false, Prod.mk.injEq]; omega)))) (f4.mono (by
      intro k f h
      unfold pZ at h
      simp only [Bool.or_eq_true, Bool.and_eq_true, beq_iff_eq] at h
      exact cM_t (by first | exact List.not_mem_nil | (simp only [List.mem_cons, List.not_mem_nil, or_false]; omega)) (by first | exact List.not_mem_nil | (simp only [List.mem_cons, List.not_mem_nil, or_false, Prod.mk.injEq]; omega)))))
  have kH : RelH C1 M2 := (hI.2.2.2.1.ag (f2.mono (by
      intro k f h
      unfold qH at h
      simp only [Bool.or_eq_true, Bool.and_eq_true, beq_iff_eq] at h
      exact cM_t (by first | exact List.not_mem_nil | (simp only [List.mem_cons, List.not_mem_nil, or_false]; omega)) (by first | exact List.not_mem_nil | (simp only [List.mem_cons, List.not_mem_nil, or_false, Prod.mk.injEq]; omega)))) (f4.mono (by
      intro k f h
      unfold pH at h
      simp only [Bool.or_eq_true, Bool.and_eq_true, beq_iff_eq] at h
      exact cM_t (by first | exact List.not_mem_nil | (simp only [List.mem_cons, List.not_mem_nil, or_false]; omega)) (by first | exact List.not_mem_nil | (simp only [List.mem_cons, List.not_mem_nil, or_false, Prod.mk.injEq]; omega)))))
  have kE : RelE C1 M2 := (hI.2.2.2.2.1.ag (f2.mono (by
      intro k f h
      unfold qE at h
      simp only [Bool.or_eq_true, Bool.and_eq_true, beq_iff_eq] at h
      exact cM_t (by first | exact List.not_mem_nil | (simp only [List.mem_cons, List.not_mem_nil, or_false]; omega)) (by first | exact List.not_mem_nil | (simp only [List.mem_cons, List.not_mem_nil, or_false, Prod.mk.injEq]; omega)))) (f4.mono (by
      intro k f h
      unfold pE at h
      simp only [Bool.or_eq_true, Bool.and_eq_true, beq_iff_eq] at h
      exact cM_t (by first | exact List.not_mem_nil | (simp only [List.mem_cons, List.not_mem_nil, or_false]; omega)) (by first | exact List.not_mem_nil | (simp only [List.mem_cons, List.not_mem_nil, or_false, Prod.mk.injEq]; omega)))))
  have kK : RelK (n + 1) C1 M2 := (hI.2.2.2.2.2.ag (f2.mono (by
      intro k f h
      unfold qK at h
      simp only [Bool.or_eq_true, Bool.and_eq_true, beq_iff_eq] at h
      exact cM_t (by first | exact List.not_mem_nil | (simp only [List.mem_cons, List.not_mem_nil, or_false]; omega)) (by first | exact List.not_mem_nil | (simp only [List.mem_cons, List.not_mem_nil, or_false, Prod.mk.injEq]; omega)))) (f4.mono (by
      intro k f h
      unfold pK at h
      simp only [Bool.or_eq_true, Bool.and_eq_true, beq_iff_eq] at h
      exact cM_t (by first | exact List.not_mem_nil | (simp only [List.mem_cons, List.not_mem_nil, or_false]; omega)) (by first | exact List.not_mem_nil | (simp only [List.mem_cons, List.not_mem_nil, or_false, Prod.mk.injEq]; omega))))).up
  exact Fin'.of ⟨kR, kV, kZ, kH, kE, kK⟩ f1 f3 (fun k f h => cM_t (by first | exact List.not_mem_nil | (simp only [List.mem_cons, List.not_mem_nil, or_false]; omega)) (by first | exact List.not_mem_nil | (simp only [List.mem_cons, List.not_mem_nil, or_false, Prod.mk.injEq]; omega)))
theorem s_speed {n : Int} {v s x : Int} {M M1 C1 M2 : Mem} (hI : Inv n M M1) (f1 : Ag (cM [90, 91] []) C1 M1) (v0 : 0 ≤ v ∧ v < (M.1 0 6 0 0)) (s0 : 0 ≤ s ∧ s < (M.1 22 3 v 0)) (hx : 8 ≤ x ∧ x ≤ 30) (q3 : C1 = setI M 25 0 v s x) (hP : M2 = setI (setI M1 40 46 0 0 0) 58 0 0 (10 * v + s) x) : Fin' n C1 M1 M2 := by
  have f2 : Ag (cM [25] []) M C1 := by rw [q3]; exact (Ag.rf _).setI rfl
  have f3 : Ag (cM [58] []) (setI M1 40 46 0 0 0) M2 := by rw [hP]; exact (Ag.rf _).setI rfl
  have f4 := th0_ag f3
  have hB : Inv n M (setI M1 40 46 0 0 0) := hI.th
  have kR : RelR C1 M2 := (hI.1.ag (f2.mono (by
      intro k f h
      unfold qR at h
      simp only [Bool.or_eq_true, Bool.and_eq_true, beq_iff_eq] at h
      exact cM_t (by first | exact List.not_mem_nil | (simp only [List.mem_cons, List.not_mem_nil, or_false]; omega)) (by first | exact List.not_mem_nil | (simp only [List.mem_cons, List.not_mem_nil, or_false, Prod.mk.injEq]; omega)))) (f4.mono (by
      intro k f h
      unfold pR at h
      simp only [Bool.or_eq_true, Bool.and_eq_true, beq_iff_eq] at h
      exact cM_t (by first | exact List.not_mem_nil | (simp only [List.mem_cons, List.not_mem_nil, or_false]; omega)) (by first | exact List.not_mem_nil | (simp only [List.mem_cons, List.not_mem_nil, or_false, Prod.mk.injEq]; omega)))))
  have kV : RelV (n + 1) C1 M2 := by rw [q3, hP]; exact (hB.2.1.speedK v0.1 v0.2 s0.1 s0.2 hx).up
  have kZ : RelZ C1 M2 := (hI.2.2.1.ag (f2.mono (by
      intro k f h
      unfold qZ at h
      simp only [Bool.or_eq_true, Bool.and_eq_true, beq_iff_eq] at h
      exact cM_t (by first | exact List.not_mem_nil | (simp only [List.mem_cons, List.not_mem_nil, or_false]; omega)) (by first | exact List.not_mem_nil | (simp only [List.mem_cons, List.not_mem_nil, or_false, Prod.mk.injEq]; omega)))) (f4.mono (by
      intro k f h
      unfold pZ at h
      simp only [Bool.or_eq_true, Bool.and_eq_true, beq_iff_eq] at h
      exact cM_t (by first | exact List.not_mem_nil | (simp only [List.mem_cons, List.not_mem_nil, or_false]; omega)) (by first | exact List.not_mem_nil | (simp only [List.mem_cons, List.not_mem_nil, or_false, Prod.mk.injEq]; omega)))))
  have kH : RelH C1 M2 := (hI.2.2.2.1.ag (f2.mono (by
      intro k f h
      unfold qH at h
      simp only [Bool.or_eq_true, Bool.and_eq_true, beq_iff_eq] at h
      exact cM_t (by first | exact List.not_mem_nil | (simp only [List.mem_cons, List.not_mem_nil, or_false]; omega)) (by first | exact List.not_mem_nil | (simp only [List.mem_cons, List.not_mem_nil, or_false, Prod.mk.injEq]; omega)))) (f4.mono (by
      intro k f h
      unfold pH at h
      simp only [Bool.or_eq_true, Bool.and_eq_true, beq_iff_eq] at h
      exact cM_t (by first | exact List.not_mem_nil | (simp only [List.mem_cons, List.not_mem_nil, or_false]; omega)) (by first | exact List.not_mem_nil | (simp only [List.mem_cons, List.not_mem_nil, or_false, Prod.mk.injEq]; omega)))))
  have kE : RelE C1 M2 := (hI.2.2.2.2.1.ag (f2.mono (by
      intro k f h
      unfold qE at h
      simp only [Bool.or_eq_true, Bool.and_eq_true, beq_iff_eq] at h
      exact cM_t (by first | exact List.not_mem_nil | (simp only [List.mem_cons, List.not_mem_nil, or_false]; omega)) (by first | exact List.not_mem_nil | (simp only [List.mem_cons, List.not_mem_nil, or_false, Prod.mk.injEq]; omega)))) (f4.mono (by
      intro k f h
      unfold pE at h
      simp only [Bool.or_eq_true, Bool.and_eq_true, beq_iff_eq] at h
      exact cM_t (by first | exact List.not_mem_nil | (simp only [List.mem_cons, List.not_mem_nil, or_false]; omega)) (by first | exact List.not_mem_nil | (simp only [List.mem_cons, List.not_mem_nil, or_false, Prod.mk.injEq]; omega)))))
  have kK : RelK (n + 1) C1 M2 := (hI.2.2.2.2.2.ag (f2.mono (by
      intro k f h
      unfold qK at h
      simp only [Bool.or_eq_true, Bool.and_eq_true, beq_iff_eq] at h
      exact cM_t (by first | exact List.not_mem_nil | (simp only [List.mem_cons, List.not_mem_nil, or_false]; omega)) (by first | exact List.not_mem_nil | (simp only [List.mem_cons, List.not_mem_nil, or_false, Prod.mk.injEq]; omega)))) (f4.mono (by
      intro k f h
      unfold pK at h
      simp only [Bool.or_eq_true, Bool.and_eq_true, beq_iff_eq] at h
      exact cM_t (by first | exact List.not_mem_nil | (simp only [List.mem_cons, List.not_mem_nil, or_false]; omega)) (by first | exact List.not_mem_nil | (simp only [List.mem_cons, List.not_mem_nil, or_false, Prod.mk.injEq]; omega))))).up
  exact Fin'.of ⟨kR, kV, kZ, kH, kE, kK⟩ f1 f3 (fun k f h => cM_t (by first | exact List.not_mem_nil | (simp only [List.mem_cons, List.not_mem_nil, or_false]; omega)) (by first | exact List.not_mem_nil | (simp only [List.mem_cons, List.not_mem_nil, or_false, Prod.mk.injEq]; omega)))
theorem s_scrap {n : Int} {c t : Int} {M M1 C1 M2 : Mem} (hI : Inv n M M1) (f1 : Ag (cM [90, 91] []) C1 M1) (hs : (M.1 6 0 0 0) < 100) (ht : 0 ≤ t ∧ t ≤ 9) (q3 : C1 = setI (setI (setI M 7 0 0 (M.1 6 0 0 0) c) 8 0 0 (M.1 6 0 0 0) t) 6 0 0 0 ((M.1 6 0 0 0) + 1)) (hP : M2 = scM (setI M1 40 46 0 0 0) c t) : Fin' n C1 M1 M2 := by
  have f2 : Ag (cM [6, 7, 8] []) M C1 := by rw [q3]; exact (((Ag.rf _).setI rfl).setI rfl).setI rfl
  have f3 : Ag (cM [60, 61] [(40, 25)]) (setI M1 40 46 0 0 0) M2 := by rw [hP]; exact (((Ag.rf _).setI rfl).setI rfl).setI rfl
  have f4 := th0_ag f3
  have hB : Inv n M (setI M1 40 46 0 0 0) := hI.th
  have kR : RelR C1 M2 := (hI.1.ag (f2.mono (by
      intro k f h
      unfold qR at h
      simp only [Bool.or_eq_true, Bool.and_eq_true, beq_iff_eq] at h
      exact cM_t (by first | exact List.not_mem_nil | (simp only [List.mem_cons, List.not_mem_nil, or_false]; omega)) (by first | exact List.not_mem_nil | (simp only [List.mem_cons, List.not_mem_nil, or_false, Prod.mk.injEq]; omega)))) (f4.mono (by
      intro k f h
      unfold pR at h
      simp only [Bool.or_eq_true, Bool.and_eq_true, beq_iff_eq] at h
      exact cM_t (by first | exact List.not_mem_nil | (simp only [List.mem_cons, List.not_mem_nil, or_false]; omega)) (by first | exact List.not_mem_nil | (simp only [List.mem_cons, List.not_mem_nil, or_false, Prod.mk.injEq]; omega)))))
  have kV : RelV (n + 1) C1 M2 := (hI.2.1.ag (f2.mono (by
      intro k f h
      unfold qV at h
      simp only [Bool.or_eq_true, Bool.and_eq_true, beq_iff_eq] at h
      exact cM_t (by first | exact List.not_mem_nil | (simp only [List.mem_cons, List.not_mem_nil, or_false]; omega)) (by first | exact List.not_mem_nil | (simp only [List.mem_cons, List.not_mem_nil, or_false, Prod.mk.injEq]; omega)))) (f4.mono (by
      intro k f h
      unfold pV_ at h
      simp only [Bool.or_eq_true, Bool.and_eq_true, beq_iff_eq] at h
      exact cM_t (by first | exact List.not_mem_nil | (simp only [List.mem_cons, List.not_mem_nil, or_false]; omega)) (by first | exact List.not_mem_nil | (simp only [List.mem_cons, List.not_mem_nil, or_false, Prod.mk.injEq]; omega))))).up
  have kZ : RelZ C1 M2 := by rw [q3, hP]; exact hB.2.2.1.scrap hs ht
  have kH : RelH C1 M2 := (hI.2.2.2.1.ag (f2.mono (by
      intro k f h
      unfold qH at h
      simp only [Bool.or_eq_true, Bool.and_eq_true, beq_iff_eq] at h
      exact cM_t (by first | exact List.not_mem_nil | (simp only [List.mem_cons, List.not_mem_nil, or_false]; omega)) (by first | exact List.not_mem_nil | (simp only [List.mem_cons, List.not_mem_nil, or_false, Prod.mk.injEq]; omega)))) (f4.mono (by
      intro k f h
      unfold pH at h
      simp only [Bool.or_eq_true, Bool.and_eq_true, beq_iff_eq] at h
      exact cM_t (by first | exact List.not_mem_nil | (simp only [List.mem_cons, List.not_mem_nil, or_false]; omega)) (by first | exact List.not_mem_nil | (simp only [List.mem_cons, List.not_mem_nil, or_false, Prod.mk.injEq]; omega)))))
  have kE : RelE C1 M2 := (hI.2.2.2.2.1.ag (f2.mono (by
      intro k f h
      unfold qE at h
      simp only [Bool.or_eq_true, Bool.and_eq_true, beq_iff_eq] at h
      exact cM_t (by first | exact List.not_mem_nil | (simp only [List.mem_cons, List.not_mem_nil, or_false]; omega)) (by first | exact List.not_mem_nil | (simp only [List.mem_cons, List.not_mem_nil, or_false, Prod.mk.injEq]; omega)))) (f4.mono (by
      intro k f h
      unfold pE at h
      simp only [Bool.or_eq_true, Bool.and_eq_true, beq_iff_eq] at h
      exact cM_t (by first | exact List.not_mem_nil | (simp only [List.mem_cons, List.not_mem_nil, or_false]; omega)) (by first | exact List.not_mem_nil | (simp only [List.mem_cons, List.not_mem_nil, or_false, Prod.mk.injEq]; omega)))))
  have kK : RelK (n + 1) C1 M2 := (hI.2.2.2.2.2.ag (f2.mono (by
      intro k f h
      unfold qK at h
      simp only [Bool.or_eq_true, Bool.and_eq_true, beq_iff_eq] at h
      exact cM_t (by first | exact List.not_mem_nil | (simp only [List.mem_cons, List.not_mem_nil, or_false]; omega)) (by first | exact List.not_mem_nil | (simp only [List.mem_cons, List.not_mem_nil, or_false, Prod.mk.injEq]; omega)))) (f4.mono (by
      intro k f h
      unfold pK at h
      simp only [Bool.or_eq_true, Bool.and_eq_true, beq_iff_eq] at h
      exact cM_t (by first | exact List.not_mem_nil | (simp only [List.mem_cons, List.not_mem_nil, or_false]; omega)) (by first | exact List.not_mem_nil | (simp only [List.mem_cons, List.not_mem_nil, or_false, Prod.mk.injEq]; omega))))).up
  exact Fin'.of ⟨kR, kV, kZ, kH, kE, kK⟩ f1 f3 (fun k f h => cM_t (by first | exact List.not_mem_nil | (simp only [List.mem_cons, List.not_mem_nil, or_false]; omega)) (by first | exact List.not_mem_nil | (simp only [List.mem_cons, List.not_mem_nil, or_false, Prod.mk.injEq]; omega)))
theorem s_tint {n : Int} {M M1 C1 M2 : Mem} (hI : Inv n M M1) (f1 : Ag (cM [90, 91] []) C1 M1) (q3 : Ex (fun k => k == 9) M C1) (hP : Ex (fun k => k == 77) (setI M1 40 46 0 0 0) M2) : Fin' n C1 M1 M2 := by
  have f2 : Ag (cM [9] []) M C1 := Ag.ofEx q3 (by
    intro k hk
    (try simp only [List.mem_cons, List.not_mem_nil, or_false, not_or] at hk)
    simp only [Bool.or_eq_false_iff, beq_eq_false_iff_ne]
    omega)
  have f3 : Ag (cM [77] []) (setI M1 40 46 0 0 0) M2 := Ag.ofEx hP (by
    intro k hk
    (try simp only [List.mem_cons, List.not_mem_nil, or_false, not_or] at hk)
    simp only [Bool.or_eq_false_iff, beq_eq_false_iff_ne]
    omega)
  have f4 := th0_ag f3
  have hB : Inv n M (setI M1 40 46 0 0 0) := hI.th
  have kR : RelR C1 M2 := (hI.1.ag (f2.mono (by
      intro k f h
      unfold qR at h
      simp only [Bool.or_eq_true, Bool.and_eq_true, beq_iff_eq] at h
      exact cM_t (by first | exact List.not_mem_nil | (simp only [List.mem_cons, List.not_mem_nil, or_false]; omega)) (by first | exact List.not_mem_nil | (simp only [List.mem_cons, List.not_mem_nil, or_false, Prod.mk.injEq]; omega)))) (f4.mono (by
      intro k f h
      unfold pR at h
      simp only [Bool.or_eq_true, Bool.and_eq_true, beq_iff_eq] at h
      exact cM_t (by first | exact List.not_mem_nil | (simp only [List.mem_cons, List.not_mem_nil, or_false]; omega)) (by first | exact List.not_mem_nil | (simp only [List.mem_cons, List.not_mem_nil, or_false, Prod.mk.injEq]; omega)))))
  have kV : RelV (n + 1) C1 M2 := (hI.2.1.ag (f2.mono (by
      intro k f h
      unfold qV at h
      simp only [Bool.or_eq_true, Bool.and_eq_true, beq_iff_eq] at h
      exact cM_t (by first | exact List.not_mem_nil | (simp only [List.mem_cons, List.not_mem_nil, or_false]; omega)) (by first | exact List.not_mem_nil | (simp only [List.mem_cons, List.not_mem_nil, or_false, Prod.mk.injEq]; omega)))) (f4.mono (by
      intro k f h
      unfold pV_ at h
      simp only [Bool.or_eq_true, Bool.and_eq_true, beq_iff_eq] at h
      exact cM_t (by first | exact List.not_mem_nil | (simp only [List.mem_cons, List.not_mem_nil, or_false]; omega)) (by first | exact List.not_mem_nil | (simp only [List.mem_cons, List.not_mem_nil, or_false, Prod.mk.injEq]; omega))))).up
  have kZ : RelZ C1 M2 := (hI.2.2.1.ag (f2.mono (by
      intro k f h
      unfold qZ at h
      simp only [Bool.or_eq_true, Bool.and_eq_true, beq_iff_eq] at h
      exact cM_t (by first | exact List.not_mem_nil | (simp only [List.mem_cons, List.not_mem_nil, or_false]; omega)) (by first | exact List.not_mem_nil | (simp only [List.mem_cons, List.not_mem_nil, or_false, Prod.mk.injEq]; omega)))) (f4.mono (by
      intro k f h
      unfold pZ at h
      simp only [Bool.or_eq_true, Bool.and_eq_true, beq_iff_eq] at h
      exact cM_t (by first | exact List.not_mem_nil | (simp only [List.mem_cons, List.not_mem_nil, or_false]; omega)) (by first | exact List.not_mem_nil | (simp only [List.mem_cons, List.not_mem_nil, or_false, Prod.mk.injEq]; omega)))))
  have kH : RelH C1 M2 := (hI.2.2.2.1.ag (f2.mono (by
      intro k f h
      unfold qH at h
      simp only [Bool.or_eq_true, Bool.and_eq_true, beq_iff_eq] at h
      exact cM_t (by first | exact List.not_mem_nil | (simp only [List.mem_cons, List.not_mem_nil, or_false]; omega)) (by first | exact List.not_mem_nil | (simp only [List.mem_cons, List.not_mem_nil, or_false, Prod.mk.injEq]; omega)))) (f4.mono (by
      intro k f h
      unfold pH at h
      simp only [Bool.or_eq_true, Bool.and_eq_true, beq_iff_eq] at h
      exact cM_t (by first | exact List.not_mem_nil | (simp only [List.mem_cons, List.not_mem_nil, or_false]; omega)) (by first | exact List.not_mem_nil | (simp only [List.mem_cons, List.not_mem_nil, or_false, Prod.mk.injEq]; omega)))))
  have kE : RelE C1 M2 := (hI.2.2.2.2.1.ag (f2.mono (by
      intro k f h
      unfold qE at h
      simp only [Bool.or_eq_true, Bool.and_eq_true, beq_iff_eq] at h
      exact cM_t (by first | exact List.not_mem_nil | (simp only [List.mem_cons, List.not_mem_nil, or_false]; omega)) (by first | exact List.not_mem_nil | (simp only [List.mem_cons, List.not_mem_nil, or_false, Prod.mk.injEq]; omega)))) (f4.mono (by
      intro k f h
      unfold pE at h
      simp only [Bool.or_eq_true, Bool.and_eq_true, beq_iff_eq] at h
      exact cM_t (by first | exact List.not_mem_nil | (simp only [List.mem_cons, List.not_mem_nil, or_false]; omega)) (by first | exact List.not_mem_nil | (simp only [List.mem_cons, List.not_mem_nil, or_false, Prod.mk.injEq]; omega)))))
  have kK : RelK (n + 1) C1 M2 := (hI.2.2.2.2.2.ag (f2.mono (by
      intro k f h
      unfold qK at h
      simp only [Bool.or_eq_true, Bool.and_eq_true, beq_iff_eq] at h
      exact cM_t (by first | exact List.not_mem_nil | (simp only [List.mem_cons, List.not_mem_nil, or_false]; omega)) (by first | exact List.not_mem_nil | (simp only [List.mem_cons, List.not_mem_nil, or_false, Prod.mk.injEq]; omega)))) (f4.mono (by
      intro k f h
      unfold pK at h
      simp only [Bool.or_eq_true, Bool.and_eq_true, beq_iff_eq] at h
      exact cM_t (by first | exact List.not_mem_nil | (simp only [List.mem_cons, List.not_mem_nil, or_false]; omega)) (by first | exact List.not_mem_nil | (simp only [List.mem_cons, List.not_mem_nil, or_false, Prod.mk.injEq]; omega))))).up
  exact Fin'.of ⟨kR, kV, kZ, kH, kE, kK⟩ f1 f3 (fun k f h => cM_t (by first | exact List.not_mem_nil | (simp only [List.mem_cons, List.not_mem_nil, or_false]; omega)) (by first | exact List.not_mem_nil | (simp only [List.mem_cons, List.not_mem_nil, or_false, Prod.mk.injEq]; omega)))
theorem s_right {n : Int} {v h l f t : Int} {M M1 C1 M2 : Mem} (hI : Inv n M M1) (f1 : Ag (cM [90, 91] []) C1 M1) (v0 : 0 ≤ v ∧ v < (M.1 0 6 0 0)) (hh : 0 ≤ h ∧ h < 10) (hr : (M.1 0 7 0 0) < 40) (q3 : C1 = setI (addRightM M v h l f t) 0 7 0 0 ((M.1 0 7 0 0) + 1)) (hP : M2 = rgM (setI M1 40 46 0 0 0) v h l f t) : Fin' n C1 M1 M2 := by
  have f2 : Ag (cM [26, 27, 28, 29] [(22, 8), (0, 7)]) M C1 := by rw [q3]; exact ((((((Ag.rf _).setI rfl).setI rfl).setI rfl).setI rfl).setI rfl).setI rfl
  have f3 : Ag (cM [62, 63, 64, 65, 66] [(40, 31)]) (setI M1 40 46 0 0 0) M2 := by rw [hP]; exact ((((((Ag.rf _).setI rfl).setI rfl).setI rfl).setI rfl).setI rfl).setI rfl
  have f4 := th0_ag f3
  have hB : Inv n M (setI M1 40 46 0 0 0) := hI.th
  have kR : RelR C1 M2 := (hI.1.ag (f2.mono (by
      intro k f h
      unfold qR at h
      simp only [Bool.or_eq_true, Bool.and_eq_true, beq_iff_eq] at h
      exact cM_t (by first | exact List.not_mem_nil | (simp only [List.mem_cons, List.not_mem_nil, or_false]; omega)) (by first | exact List.not_mem_nil | (simp only [List.mem_cons, List.not_mem_nil, or_false, Prod.mk.injEq]; omega)))) (f4.mono (by
      intro k f h
      unfold pR at h
      simp only [Bool.or_eq_true, Bool.and_eq_true, beq_iff_eq] at h
      exact cM_t (by first | exact List.not_mem_nil | (simp only [List.mem_cons, List.not_mem_nil, or_false]; omega)) (by first | exact List.not_mem_nil | (simp only [List.mem_cons, List.not_mem_nil, or_false, Prod.mk.injEq]; omega)))))
  have kV : RelV (n + 1) C1 M2 := by rw [q3, hP]; exact (hB.2.1.rightK v0.1 v0.2 ⟨hh.1, by omega⟩).up
  have kZ : RelZ C1 M2 := (hI.2.2.1.ag (f2.mono (by
      intro k f h
      unfold qZ at h
      simp only [Bool.or_eq_true, Bool.and_eq_true, beq_iff_eq] at h
      exact cM_t (by first | exact List.not_mem_nil | (simp only [List.mem_cons, List.not_mem_nil, or_false]; omega)) (by first | exact List.not_mem_nil | (simp only [List.mem_cons, List.not_mem_nil, or_false, Prod.mk.injEq]; omega)))) (f4.mono (by
      intro k f h
      unfold pZ at h
      simp only [Bool.or_eq_true, Bool.and_eq_true, beq_iff_eq] at h
      exact cM_t (by first | exact List.not_mem_nil | (simp only [List.mem_cons, List.not_mem_nil, or_false]; omega)) (by first | exact List.not_mem_nil | (simp only [List.mem_cons, List.not_mem_nil, or_false, Prod.mk.injEq]; omega)))))
  have kH : RelH C1 M2 := by rw [q3, hP]; exact hB.2.2.2.1.rightK v0.1 v0.2 hI.2.1.vc.2 ⟨hh.1, by omega⟩ hr
  have kE : RelE C1 M2 := (hI.2.2.2.2.1.ag (f2.mono (by
      intro k f h
      unfold qE at h
      simp only [Bool.or_eq_true, Bool.and_eq_true, beq_iff_eq] at h
      exact cM_t (by first | exact List.not_mem_nil | (simp only [List.mem_cons, List.not_mem_nil, or_false]; omega)) (by first | exact List.not_mem_nil | (simp only [List.mem_cons, List.not_mem_nil, or_false, Prod.mk.injEq]; omega)))) (f4.mono (by
      intro k f h
      unfold pE at h
      simp only [Bool.or_eq_true, Bool.and_eq_true, beq_iff_eq] at h
      exact cM_t (by first | exact List.not_mem_nil | (simp only [List.mem_cons, List.not_mem_nil, or_false]; omega)) (by first | exact List.not_mem_nil | (simp only [List.mem_cons, List.not_mem_nil, or_false, Prod.mk.injEq]; omega)))))
  have kK : RelK (n + 1) C1 M2 := (hI.2.2.2.2.2.ag (f2.mono (by
      intro k f h
      unfold qK at h
      simp only [Bool.or_eq_true, Bool.and_eq_true, beq_iff_eq] at h
      exact cM_t (by first | exact List.not_mem_nil | (simp only [List.mem_cons, List.not_mem_nil, or_false]; omega)) (by first | exact List.not_mem_nil | (simp only [List.mem_cons, List.not_mem_nil, or_false, Prod.mk.injEq]; omega)))) (f4.mono (by
      intro k f h
      unfold pK at h
      simp only [Bool.or_eq_true, Bool.and_eq_true, beq_iff_eq] at h
      exact cM_t (by first | exact List.not_mem_nil | (simp only [List.mem_cons, List.not_mem_nil, or_false]; omega)) (by first | exact List.not_mem_nil | (simp only [List.mem_cons, List.not_mem_nil, or_false, Prod.mk.injEq]; omega))))).up
  exact Fin'.of ⟨kR, kV, kZ, kH, kE, kK⟩ f1 f3 (fun k f h => cM_t (by first | exact List.not_mem_nil | (simp only [List.mem_cons, List.not_mem_nil, or_false]; omega)) (by first | exact List.not_mem_nil | (simp only [List.mem_cons, List.not_mem_nil, or_false, Prod.mk.injEq]; omega)))
theorem s_allow {n : Int} {v h : Int} {P : Prop} {M M1 C1 M2 : Mem} (hI : Inv n M M1) (f1 : Ag (cM [90, 91] []) C1 M1) (v0 : 0 ≤ v ∧ v < (M.1 0 6 0 0)) (hh : 0 ≤ h ∧ h < 10) (q3 : C1 = setI M 30 0 v h (bI P)) (hP : M2 = setI (setI M1 40 46 0 0 0) 59 0 0 v (vaS (M1.1 59 0 0 v) h P)) : Fin' n C1 M1 M2 := by
  have f2 : Ag (cM [30] []) M C1 := by rw [q3]; exact (Ag.rf _).setI rfl
  have f3 : Ag (cM [59] []) (setI M1 40 46 0 0 0) M2 := by rw [hP]; exact (Ag.rf _).setI rfl
  have f4 := th0_ag f3
  have hB : Inv n M (setI M1 40 46 0 0 0) := hI.th
  have kR : RelR C1 M2 := (hI.1.ag (f2.mono (by
      intro k f h
      unfold qR at h
      simp only [Bool.or_eq_true, Bool.and_eq_true, beq_iff_eq] at h
      exact cM_t (by first | exact List.not_mem_nil | (simp only [List.mem_cons, List.not_mem_nil, or_false]; omega)) (by first | exact List.not_mem_nil | (simp only [List.mem_cons, List.not_mem_nil, or_false, Prod.mk.injEq]; omega)))) (f4.mono (by
      intro k f h
      unfold pR at h
      simp only [Bool.or_eq_true, Bool.and_eq_true, beq_iff_eq] at h
      exact cM_t (by first | exact List.not_mem_nil | (simp only [List.mem_cons, List.not_mem_nil, or_false]; omega)) (by first | exact List.not_mem_nil | (simp only [List.mem_cons, List.not_mem_nil, or_false, Prod.mk.injEq]; omega)))))
  have kV : RelV (n + 1) C1 M2 := by
    rw [q3, hP]
    have z := (hB.2.1.allowK (P := P) v0.1 v0.2 hh.1 hh.2).up
    exact z
  have kZ : RelZ C1 M2 := (hI.2.2.1.ag (f2.mono (by
      intro k f h
      unfold qZ at h
      simp only [Bool.or_eq_true, Bool.and_eq_true, beq_iff_eq] at h
      exact cM_t (by first | exact List.not_mem_nil | (simp only [List.mem_cons, List.not_mem_nil, or_false]; omega)) (by first | exact List.not_mem_nil | (simp only [List.mem_cons, List.not_mem_nil, or_false, Prod.mk.injEq]; omega)))) (f4.mono (by
      intro k f h
      unfold pZ at h
      simp only [Bool.or_eq_true, Bool.and_eq_true, beq_iff_eq] at h
      exact cM_t (by first | exact List.not_mem_nil | (simp only [List.mem_cons, List.not_mem_nil, or_false]; omega)) (by first | exact List.not_mem_nil | (simp only [List.mem_cons, List.not_mem_nil, or_false, Prod.mk.injEq]; omega)))))
  have kH : RelH C1 M2 := (hI.2.2.2.1.ag (f2.mono (by
      intro k f h
      unfold qH at h
      simp only [Bool.or_eq_true, Bool.and_eq_true, beq_iff_eq] at h
      exact cM_t (by first | exact List.not_mem_nil | (simp only [List.mem_cons, List.not_mem_nil, or_false]; omega)) (by first | exact List.not_mem_nil | (simp only [List.mem_cons, List.not_mem_nil, or_false, Prod.mk.injEq]; omega)))) (f4.mono (by
      intro k f h
      unfold pH at h
      simp only [Bool.or_eq_true, Bool.and_eq_true, beq_iff_eq] at h
      exact cM_t (by first | exact List.not_mem_nil | (simp only [List.mem_cons, List.not_mem_nil, or_false]; omega)) (by first | exact List.not_mem_nil | (simp only [List.mem_cons, List.not_mem_nil, or_false, Prod.mk.injEq]; omega)))))
  have kE : RelE C1 M2 := (hI.2.2.2.2.1.ag (f2.mono (by
      intro k f h
      unfold qE at h
      simp only [Bool.or_eq_true, Bool.and_eq_true, beq_iff_eq] at h
      exact cM_t (by first | exact List.not_mem_nil | (simp only [List.mem_cons, List.not_mem_nil, or_false]; omega)) (by first | exact List.not_mem_nil | (simp only [List.mem_cons, List.not_mem_nil, or_false, Prod.mk.injEq]; omega)))) (f4.mono (by
      intro k f h
      unfold pE at h
      simp only [Bool.or_eq_true, Bool.and_eq_true, beq_iff_eq] at h
      exact cM_t (by first | exact List.not_mem_nil | (simp only [List.mem_cons, List.not_mem_nil, or_false]; omega)) (by first | exact List.not_mem_nil | (simp only [List.mem_cons, List.not_mem_nil, or_false, Prod.mk.injEq]; omega)))))
  have kK : RelK (n + 1) C1 M2 := (hI.2.2.2.2.2.ag (f2.mono (by
      intro k f h
      unfold qK at h
      simp only [Bool.or_eq_true, Bool.and_eq_true, beq_iff_eq] at h
      exact cM_t (by first | exact List.not_mem_nil | (simp only [List.mem_cons, List.not_mem_nil, or_false]; omega)) (by first | exact List.not_mem_nil | (simp only [List.mem_cons, List.not_mem_nil, or_false, Prod.mk.injEq]; omega)))) (f4.mono (by
      intro k f h
      unfold pK at h
      simp only [Bool.or_eq_true, Bool.and_eq_true, beq_iff_eq] at h
      exact cM_t (by first | exact List.not_mem_nil | (simp only [List.mem_cons, List.not_mem_nil, or_false]; omega)) (by first | exact List.not_mem_nil | (simp only [List.mem_cons, List.not_mem_nil, or_false, Prod.mk.injEq]; omega))))).up
  exact Fin'.of ⟨kR, kV, kZ, kH, kE, kK⟩ f1 f3 (fun k f h => cM_t (by first | exact List.not_mem_nil | (simp only [List.mem_cons, List.not_mem_nil, or_false]; omega)) (by first | exact List.not_mem_nil | (simp only [List.mem_cons, List.not_mem_nil, or_false, Prod.mk.injEq]; omega)))
theorem s_edition {n : Int} {v : Int} {M M1 C1 M2 : Mem} (hI : Inv n M M1) (f1 : Ag (cM [90, 91] []) C1 M1) (n0 : 0 ≤ n) (v0 : 0 ≤ v ∧ v < (M.1 0 6 0 0)) (q3 : EdL M v (M.1 22 3 v 0) 0 C1) (hP : EdM M v (M.1 22 3 v 0) 0 (setI (setI (setI M1 40 46 0 0 0) 40 39 0 0 0) 40 44 0 0 0) M2) : Fin' n C1 M1 M2 := by
  have f2 : Ag (cM [10, 12, 31] []) M C1 := Ag.ofEx q3.1 (by
    intro k hk
    (try simp only [List.mem_cons, List.not_mem_nil, or_false, not_or] at hk)
    unfold exD; simp only [Bool.or_eq_false_iff, beq_eq_false_iff_ne]
    omega)
  have f3 : Ag (cM [67, 68, 69, 70, 71, 72] [(40, 39), (40, 44)]) (setI M1 40 46 0 0 0) M2 := (((Ag.rf _).setI rfl).setI rfl : Ag (cM [67, 68, 69, 70, 71, 72] [(40, 39), (40, 44)]) (setI M1 40 46 0 0 0) (setI (setI (setI M1 40 46 0 0 0) 40 39 0 0 0) 40 44 0 0 0)).tr (hP.1.mono (fun k f h => by
    have z := cM_e h
    simp only [List.mem_cons, List.not_mem_nil, or_false, not_or, Prod.mk.injEq] at z
    unfold kpE
    simp only [Bool.not_eq_true', Bool.or_eq_false_iff, Bool.and_eq_false_iff, beq_eq_false_iff_ne]
    omega))
  have f4 := th0_ag f3
  have hB : Inv n M (setI M1 40 46 0 0 0) := hI.th
  have kR : RelR C1 M2 := (hI.1.ag (f2.mono (by
      intro k f h
      unfold qR at h
      simp only [Bool.or_eq_true, Bool.and_eq_true, beq_iff_eq] at h
      exact cM_t (by first | exact List.not_mem_nil | (simp only [List.mem_cons, List.not_mem_nil, or_false]; omega)) (by first | exact List.not_mem_nil | (simp only [List.mem_cons, List.not_mem_nil, or_false, Prod.mk.injEq]; omega)))) (f4.mono (by
      intro k f h
      unfold pR at h
      simp only [Bool.or_eq_true, Bool.and_eq_true, beq_iff_eq] at h
      exact cM_t (by first | exact List.not_mem_nil | (simp only [List.mem_cons, List.not_mem_nil, or_false]; omega)) (by first | exact List.not_mem_nil | (simp only [List.mem_cons, List.not_mem_nil, or_false, Prod.mk.injEq]; omega)))))
  have kV : RelV (n + 1) C1 M2 := (hI.2.1.ag (f2.mono (by
      intro k f h
      unfold qV at h
      simp only [Bool.or_eq_true, Bool.and_eq_true, beq_iff_eq] at h
      exact cM_t (by first | exact List.not_mem_nil | (simp only [List.mem_cons, List.not_mem_nil, or_false]; omega)) (by first | exact List.not_mem_nil | (simp only [List.mem_cons, List.not_mem_nil, or_false, Prod.mk.injEq]; omega)))) (f4.mono (by
      intro k f h
      unfold pV_ at h
      simp only [Bool.or_eq_true, Bool.and_eq_true, beq_iff_eq] at h
      exact cM_t (by first | exact List.not_mem_nil | (simp only [List.mem_cons, List.not_mem_nil, or_false]; omega)) (by first | exact List.not_mem_nil | (simp only [List.mem_cons, List.not_mem_nil, or_false, Prod.mk.injEq]; omega))))).up
  have kZ : RelZ C1 M2 := (hI.2.2.1.ag (f2.mono (by
      intro k f h
      unfold qZ at h
      simp only [Bool.or_eq_true, Bool.and_eq_true, beq_iff_eq] at h
      exact cM_t (by first | exact List.not_mem_nil | (simp only [List.mem_cons, List.not_mem_nil, or_false]; omega)) (by first | exact List.not_mem_nil | (simp only [List.mem_cons, List.not_mem_nil, or_false, Prod.mk.injEq]; omega)))) (f4.mono (by
      intro k f h
      unfold pZ at h
      simp only [Bool.or_eq_true, Bool.and_eq_true, beq_iff_eq] at h
      exact cM_t (by first | exact List.not_mem_nil | (simp only [List.mem_cons, List.not_mem_nil, or_false]; omega)) (by first | exact List.not_mem_nil | (simp only [List.mem_cons, List.not_mem_nil, or_false, Prod.mk.injEq]; omega)))))
  have kH : RelH C1 M2 := (hI.2.2.2.1.ag (f2.mono (by
      intro k f h
      unfold qH at h
      simp only [Bool.or_eq_true, Bool.and_eq_true, beq_iff_eq] at h
      exact cM_t (by first | exact List.not_mem_nil | (simp only [List.mem_cons, List.not_mem_nil, or_false]; omega)) (by first | exact List.not_mem_nil | (simp only [List.mem_cons, List.not_mem_nil, or_false, Prod.mk.injEq]; omega)))) (f4.mono (by
      intro k f h
      unfold pH at h
      simp only [Bool.or_eq_true, Bool.and_eq_true, beq_iff_eq] at h
      exact cM_t (by first | exact List.not_mem_nil | (simp only [List.mem_cons, List.not_mem_nil, or_false]; omega)) (by first | exact List.not_mem_nil | (simp only [List.mem_cons, List.not_mem_nil, or_false, Prod.mk.injEq]; omega)))))
  have kE : RelE C1 M2 := (edition_K hI.2.2.2.2.1 hI.2.2.2.2.2 hI.2.1 hI.1 n0 v0.1 v0.2 q3 hP).1.1
  have kK : RelK (n + 1) C1 M2 := (edition_K hI.2.2.2.2.1 hI.2.2.2.2.2 hI.2.1 hI.1 n0 v0.1 v0.2 q3 hP).1.2
  exact Fin'.of ⟨kR, kV, kZ, kH, kE, kK⟩ f1 f3 (fun k f h => cM_t (by first | exact List.not_mem_nil | (simp only [List.mem_cons, List.not_mem_nil, or_false]; omega)) (by first | exact List.not_mem_nil | (simp only [List.mem_cons, List.not_mem_nil, or_false, Prod.mk.injEq]; omega)))
theorem s_protect {n : Int} {p : Int} {P : Prop} {M M1 C1 M2 : Mem} (hI : Inv n M M1) (f1 : Ag (cM [90, 91] []) C1 M1) (q3 : C1 = setI M 31 5 p 0 (bI P)) (hP : M2 = setI (setI M1 40 46 0 0 0) 72 0 0 p (bI P)) : Fin' n C1 M1 M2 := by
  have f2 : Ag (cM [] [(31, 5)]) M C1 := by rw [q3]; exact (Ag.rf _).setI rfl
  have f3 : Ag (cM [72] []) (setI M1 40 46 0 0 0) M2 := by rw [hP]; exact (Ag.rf _).setI rfl
  have f4 := th0_ag f3
  have hB : Inv n M (setI M1 40 46 0 0 0) := hI.th
  have kR : RelR C1 M2 := (hI.1.ag (f2.mono (by
      intro k f h
      unfold qR at h
      simp only [Bool.or_eq_true, Bool.and_eq_true, beq_iff_eq] at h
      exact cM_t (by first | exact List.not_mem_nil | (simp only [List.mem_cons, List.not_mem_nil, or_false]; omega)) (by first | exact List.not_mem_nil | (simp only [List.mem_cons, List.not_mem_nil, or_false, Prod.mk.injEq]; omega)))) (f4.mono (by
      intro k f h
      unfold pR at h
      simp only [Bool.or_eq_true, Bool.and_eq_true, beq_iff_eq] at h
      exact cM_t (by first | exact List.not_mem_nil | (simp only [List.mem_cons, List.not_mem_nil, or_false]; omega)) (by first | exact List.not_mem_nil | (simp only [List.mem_cons, List.not_mem_nil, or_false, Prod.mk.injEq]; omega)))))
  have kV : RelV (n + 1) C1 M2 := (hI.2.1.ag (f2.mono (by
      intro k f h
      unfold qV at h
      simp only [Bool.or_eq_true, Bool.and_eq_true, beq_iff_eq] at h
      exact cM_t (by first | exact List.not_mem_nil | (simp only [List.mem_cons, List.not_mem_nil, or_false]; omega)) (by first | exact List.not_mem_nil | (simp only [List.mem_cons, List.not_mem_nil, or_false, Prod.mk.injEq]; omega)))) (f4.mono (by
      intro k f h
      unfold pV_ at h
      simp only [Bool.or_eq_true, Bool.and_eq_true, beq_iff_eq] at h
      exact cM_t (by first | exact List.not_mem_nil | (simp only [List.mem_cons, List.not_mem_nil, or_false]; omega)) (by first | exact List.not_mem_nil | (simp only [List.mem_cons, List.not_mem_nil, or_false, Prod.mk.injEq]; omega))))).up
  have kZ : RelZ C1 M2 := (hI.2.2.1.ag (f2.mono (by
      intro k f h
      unfold qZ at h
      simp only [Bool.or_eq_true, Bool.and_eq_true, beq_iff_eq] at h
      exact cM_t (by first | exact List.not_mem_nil | (simp only [List.mem_cons, List.not_mem_nil, or_false]; omega)) (by first | exact List.not_mem_nil | (simp only [List.mem_cons, List.not_mem_nil, or_false, Prod.mk.injEq]; omega)))) (f4.mono (by
      intro k f h
      unfold pZ at h
      simp only [Bool.or_eq_true, Bool.and_eq_true, beq_iff_eq] at h
      exact cM_t (by first | exact List.not_mem_nil | (simp only [List.mem_cons, List.not_mem_nil, or_false]; omega)) (by first | exact List.not_mem_nil | (simp only [List.mem_cons, List.not_mem_nil, or_false, Prod.mk.injEq]; omega)))))
  have kH : RelH C1 M2 := (hI.2.2.2.1.ag (f2.mono (by
      intro k f h
      unfold qH at h
      simp only [Bool.or_eq_true, Bool.and_eq_true, beq_iff_eq] at h
      exact cM_t (by first | exact List.not_mem_nil | (simp only [List.mem_cons, List.not_mem_nil, or_false]; omega)) (by first | exact List.not_mem_nil | (simp only [List.mem_cons, List.not_mem_nil, or_false, Prod.mk.injEq]; omega)))) (f4.mono (by
      intro k f h
      unfold pH at h
      simp only [Bool.or_eq_true, Bool.and_eq_true, beq_iff_eq] at h
      exact cM_t (by first | exact List.not_mem_nil | (simp only [List.mem_cons, List.not_mem_nil, or_false]; omega)) (by first | exact List.not_mem_nil | (simp only [List.mem_cons, List.not_mem_nil, or_false, Prod.mk.injEq]; omega)))))
  have kE : RelE C1 M2 := by rw [q3, hP]; exact hB.2.2.2.2.1.protectK
  have kK : RelK (n + 1) C1 M2 := (hI.2.2.2.2.2.ag (f2.mono (by
      intro k f h
      unfold qK at h
      simp only [Bool.or_eq_true, Bool.and_eq_true, beq_iff_eq] at h
      exact cM_t (by first | exact List.not_mem_nil | (simp only [List.mem_cons, List.not_mem_nil, or_false]; omega)) (by first | exact List.not_mem_nil | (simp only [List.mem_cons, List.not_mem_nil, or_false, Prod.mk.injEq]; omega)))) (f4.mono (by
      intro k f h
      unfold pK at h
      simp only [Bool.or_eq_true, Bool.and_eq_true, beq_iff_eq] at h
      exact cM_t (by first | exact List.not_mem_nil | (simp only [List.mem_cons, List.not_mem_nil, or_false]; omega)) (by first | exact List.not_mem_nil | (simp only [List.mem_cons, List.not_mem_nil, or_false, Prod.mk.injEq]; omega))))).up
  exact Fin'.of ⟨kR, kV, kZ, kH, kE, kK⟩ f1 f3 (fun k f h => cM_t (by first | exact List.not_mem_nil | (simp only [List.mem_cons, List.not_mem_nil, or_false]; omega)) (by first | exact List.not_mem_nil | (simp only [List.mem_cons, List.not_mem_nil, or_false, Prod.mk.injEq]; omega)))
theorem s_limit {n : Int} {l : Int} {M M1 C1 M2 : Mem} (hI : Inv n M M1) (f1 : Ag (cM [90, 91] []) C1 M1) (hl : 0 ≤ l ∧ l ≤ 8) (q3 : C1 = setI M 10 1 0 0 l) (hP : M2 = setI (setI M1 40 46 0 0 0) 40 40 0 0 l) : Fin' n C1 M1 M2 := by
  have f2 : Ag (cM [] [(10, 1)]) M C1 := by rw [q3]; exact (Ag.rf _).setI rfl
  have f3 : Ag (cM [] [(40, 40)]) (setI M1 40 46 0 0 0) M2 := by rw [hP]; exact (Ag.rf _).setI rfl
  have f4 := th0_ag f3
  have hB : Inv n M (setI M1 40 46 0 0 0) := hI.th
  have kR : RelR C1 M2 := (hI.1.ag (f2.mono (by
      intro k f h
      unfold qR at h
      simp only [Bool.or_eq_true, Bool.and_eq_true, beq_iff_eq] at h
      exact cM_t (by first | exact List.not_mem_nil | (simp only [List.mem_cons, List.not_mem_nil, or_false]; omega)) (by first | exact List.not_mem_nil | (simp only [List.mem_cons, List.not_mem_nil, or_false, Prod.mk.injEq]; omega)))) (f4.mono (by
      intro k f h
      unfold pR at h
      simp only [Bool.or_eq_true, Bool.and_eq_true, beq_iff_eq] at h
      exact cM_t (by first | exact List.not_mem_nil | (simp only [List.mem_cons, List.not_mem_nil, or_false]; omega)) (by first | exact List.not_mem_nil | (simp only [List.mem_cons, List.not_mem_nil, or_false, Prod.mk.injEq]; omega)))))
  have kV : RelV (n + 1) C1 M2 := (hI.2.1.ag (f2.mono (by
      intro k f h
      unfold qV at h
      simp only [Bool.or_eq_true, Bool.and_eq_true, beq_iff_eq] at h
      exact cM_t (by first | exact List.not_mem_nil | (simp only [List.mem_cons, List.not_mem_nil, or_false]; omega)) (by first | exact List.not_mem_nil | (simp only [List.mem_cons, List.not_mem_nil, or_false, Prod.mk.injEq]; omega)))) (f4.mono (by
      intro k f h
      unfold pV_ at h
      simp only [Bool.or_eq_true, Bool.and_eq_true, beq_iff_eq] at h
      exact cM_t (by first | exact List.not_mem_nil | (simp only [List.mem_cons, List.not_mem_nil, or_false]; omega)) (by first | exact List.not_mem_nil | (simp only [List.mem_cons, List.not_mem_nil, or_false, Prod.mk.injEq]; omega))))).up
  have kZ : RelZ C1 M2 := (hI.2.2.1.ag (f2.mono (by
      intro k f h
      unfold qZ at h
      simp only [Bool.or_eq_true, Bool.and_eq_true, beq_iff_eq] at h
      exact cM_t (by first | exact List.not_mem_nil | (simp only [List.mem_cons, List.not_mem_nil, or_false]; omega)) (by first | exact List.not_mem_nil | (simp only [List.mem_cons, List.not_mem_nil, or_false, Prod.mk.injEq]; omega)))) (f4.mono (by
      intro k f h
      unfold pZ at h
      simp only [Bool.or_eq_true, Bool.and_eq_true, beq_iff_eq] at h
      exact cM_t (by first | exact List.not_mem_nil | (simp only [List.mem_cons, List.not_mem_nil, or_false]; omega)) (by first | exact List.not_mem_nil | (simp only [List.mem_cons, List.not_mem_nil, or_false, Prod.mk.injEq]; omega)))))
  have kH : RelH C1 M2 := (hI.2.2.2.1.ag (f2.mono (by
      intro k f h
      unfold qH at h
      simp only [Bool.or_eq_true, Bool.and_eq_true, beq_iff_eq] at h
      exact cM_t (by first | exact List.not_mem_nil | (simp only [List.mem_cons, List.not_mem_nil, or_false]; omega)) (by first | exact List.not_mem_nil | (simp only [List.mem_cons, List.not_mem_nil, or_false, Prod.mk.injEq]; omega)))) (f4.mono (by
      intro k f h
      unfold pH at h
      simp only [Bool.or_eq_true, Bool.and_eq_true, beq_iff_eq] at h
      exact cM_t (by first | exact List.not_mem_nil | (simp only [List.mem_cons, List.not_mem_nil, or_false]; omega)) (by first | exact List.not_mem_nil | (simp only [List.mem_cons, List.not_mem_nil, or_false, Prod.mk.injEq]; omega)))))
  have kE : RelE C1 M2 := by rw [q3, hP]; exact hB.2.2.2.2.1.limitK hl
  have kK : RelK (n + 1) C1 M2 := (hI.2.2.2.2.2.ag (f2.mono (by
      intro k f h
      unfold qK at h
      simp only [Bool.or_eq_true, Bool.and_eq_true, beq_iff_eq] at h
      exact cM_t (by first | exact List.not_mem_nil | (simp only [List.mem_cons, List.not_mem_nil, or_false]; omega)) (by first | exact List.not_mem_nil | (simp only [List.mem_cons, List.not_mem_nil, or_false, Prod.mk.injEq]; omega)))) (f4.mono (by
      intro k f h
      unfold pK at h
      simp only [Bool.or_eq_true, Bool.and_eq_true, beq_iff_eq] at h
      exact cM_t (by first | exact List.not_mem_nil | (simp only [List.mem_cons, List.not_mem_nil, or_false]; omega)) (by first | exact List.not_mem_nil | (simp only [List.mem_cons, List.not_mem_nil, or_false, Prod.mk.injEq]; omega))))).up
  exact Fin'.of ⟨kR, kV, kZ, kH, kE, kK⟩ f1 f3 (fun k f h => cM_t (by first | exact List.not_mem_nil | (simp only [List.mem_cons, List.not_mem_nil, or_false]; omega)) (by first | exact List.not_mem_nil | (simp only [List.mem_cons, List.not_mem_nil, or_false, Prod.mk.injEq]; omega)))
theorem s_takeBack {n : Int} {c : Int} {M M1 C1 M2 : Mem} (hI : Inv n M M1) (f1 : Ag (cM [90, 91] []) C1 M1) (n0 : 0 ≤ n) (c0 : 0 ≤ c ∧ c < (M.1 12 0 0 0)) (ht : (M.1 31 7 ((M.1 13 0 0 c)) 0) = c) (q3 : C1 = undoM M c) (hP : M2 = tbM (setI M1 40 46 0 0 0) c) : Fin' n C1 M1 M2 := by
  have f2 : Ag (cM [] [(31, 4), (31, 6), (31, 7)]) M C1 := by rw [q3]; exact (((Ag.rf _).setL rfl).setI rfl).setI rfl
  have f3 : Ag (cM [71, 76] []) (setI M1 40 46 0 0 0) M2 := by rw [hP]; exact ((Ag.rf _).setI rfl).setL rfl
  have f4 := th0_ag f3
  have hB : Inv n M (setI M1 40 46 0 0 0) := hI.th
  have kR : RelR C1 M2 := (hI.1.ag (f2.mono (by
      intro k f h
      unfold qR at h
      simp only [Bool.or_eq_true, Bool.and_eq_true, beq_iff_eq] at h
      exact cM_t (by first | exact List.not_mem_nil | (simp only [List.mem_cons, List.not_mem_nil, or_false]; omega)) (by first | exact List.not_mem_nil | (simp only [List.mem_cons, List.not_mem_nil, or_false, Prod.mk.injEq]; omega)))) (f4.mono (by
      intro k f h
      unfold pR at h
      simp only [Bool.or_eq_true, Bool.and_eq_true, beq_iff_eq] at h
      exact cM_t (by first | exact List.not_mem_nil | (simp only [List.mem_cons, List.not_mem_nil, or_false]; omega)) (by first | exact List.not_mem_nil | (simp only [List.mem_cons, List.not_mem_nil, or_false, Prod.mk.injEq]; omega)))))
  have kV : RelV (n + 1) C1 M2 := (hI.2.1.ag (f2.mono (by
      intro k f h
      unfold qV at h
      simp only [Bool.or_eq_true, Bool.and_eq_true, beq_iff_eq] at h
      exact cM_t (by first | exact List.not_mem_nil | (simp only [List.mem_cons, List.not_mem_nil, or_false]; omega)) (by first | exact List.not_mem_nil | (simp only [List.mem_cons, List.not_mem_nil, or_false, Prod.mk.injEq]; omega)))) (f4.mono (by
      intro k f h
      unfold pV_ at h
      simp only [Bool.or_eq_true, Bool.and_eq_true, beq_iff_eq] at h
      exact cM_t (by first | exact List.not_mem_nil | (simp only [List.mem_cons, List.not_mem_nil, or_false]; omega)) (by first | exact List.not_mem_nil | (simp only [List.mem_cons, List.not_mem_nil, or_false, Prod.mk.injEq]; omega))))).up
  have kZ : RelZ C1 M2 := (hI.2.2.1.ag (f2.mono (by
      intro k f h
      unfold qZ at h
      simp only [Bool.or_eq_true, Bool.and_eq_true, beq_iff_eq] at h
      exact cM_t (by first | exact List.not_mem_nil | (simp only [List.mem_cons, List.not_mem_nil, or_false]; omega)) (by first | exact List.not_mem_nil | (simp only [List.mem_cons, List.not_mem_nil, or_false, Prod.mk.injEq]; omega)))) (f4.mono (by
      intro k f h
      unfold pZ at h
      simp only [Bool.or_eq_true, Bool.and_eq_true, beq_iff_eq] at h
      exact cM_t (by first | exact List.not_mem_nil | (simp only [List.mem_cons, List.not_mem_nil, or_false]; omega)) (by first | exact List.not_mem_nil | (simp only [List.mem_cons, List.not_mem_nil, or_false, Prod.mk.injEq]; omega)))))
  have kH : RelH C1 M2 := (hI.2.2.2.1.ag (f2.mono (by
      intro k f h
      unfold qH at h
      simp only [Bool.or_eq_true, Bool.and_eq_true, beq_iff_eq] at h
      exact cM_t (by first | exact List.not_mem_nil | (simp only [List.mem_cons, List.not_mem_nil, or_false]; omega)) (by first | exact List.not_mem_nil | (simp only [List.mem_cons, List.not_mem_nil, or_false, Prod.mk.injEq]; omega)))) (f4.mono (by
      intro k f h
      unfold pH at h
      simp only [Bool.or_eq_true, Bool.and_eq_true, beq_iff_eq] at h
      exact cM_t (by first | exact List.not_mem_nil | (simp only [List.mem_cons, List.not_mem_nil, or_false]; omega)) (by first | exact List.not_mem_nil | (simp only [List.mem_cons, List.not_mem_nil, or_false, Prod.mk.injEq]; omega)))))
  have kE : RelE C1 M2 := by rw [q3, hP]; exact hB.2.2.2.2.1.backK hB.2.2.2.2.2 c0.1 c0.2
  have kK : RelK (n + 1) C1 M2 := by rw [q3, hP]; exact (hB.2.2.2.2.2.backK hB.2.2.2.2.1 n0 c0.1 c0.2 ht).up
  exact Fin'.of ⟨kR, kV, kZ, kH, kE, kK⟩ f1 f3 (fun k f h => cM_t (by first | exact List.not_mem_nil | (simp only [List.mem_cons, List.not_mem_nil, or_false]; omega)) (by first | exact List.not_mem_nil | (simp only [List.mem_cons, List.not_mem_nil, or_false, Prod.mk.injEq]; omega)))
theorem RelV.ag0 {n : Int} {C C' M M' : Mem} (h : RelV n C M) (hC : Ag (cM [0, 16] []) C C') (h6 : (C'.1 0 6 0 0) = (C.1 0 6 0 0)) (h7 : (C'.1 0 7 0 0) = (C.1 0 7 0 0)) (hM : Ag pV_ M M') : RelV n C' M' := by
  have z : RelV n (fun k f i j => if k = 0 ∧ ¬ (i = 0 ∧ j = 0) then C.1 k f i j else C'.1 k f i j, fun k f i j => if k = 0 then C.2 k f i j else C'.2 k f i j) M' := h.ag (fun k f i j hk => by
    by_cases e : k = 0
    · subst e
      refine ⟨?_, by show (if (0 : Nat) = 0 then C.2 0 f i j else C'.2 0 f i j) = _; exact if_pos rfl⟩
      show (if _ then _ else _) = _
      by_cases e2 : i = 0 ∧ j = 0
      · rw [if_neg (fun q => q.2 e2), e2.1, e2.2]
        have : f = 6 ∨ f = 7 := by
          unfold qV at hk
          simp only [Bool.or_eq_true, Bool.and_eq_true, beq_iff_eq] at hk
          omega
        rcases this with q | q <;> rw [q]
        · exact h6
        · exact h7
      · rw [if_pos ⟨rfl, e2⟩]
    · have q := hC k f i j (cM_t (by
        unfold qV at hk
        simp only [Bool.or_eq_true, Bool.and_eq_true, beq_iff_eq] at hk
        simp only [List.mem_cons, List.not_mem_nil, or_false]
        omega) (by simp))
      refine ⟨?_, ?_⟩
      · show (if _ then _ else _) = _
        rw [if_neg (fun q => e q.1)]; exact q.1
      · show (if _ then _ else _) = _
        rw [if_neg e]; exact q.2) hM
  exact z
theorem RelH.ag0 {C C' M M' : Mem} (h : RelH C M) (hC : Ag (cM [0, 16] []) C C') (h6 : (C'.1 0 6 0 0) = (C.1 0 6 0 0)) (h7 : (C'.1 0 7 0 0) = (C.1 0 7 0 0)) (hM : Ag pH M M') : RelH C' M' := by
  have z : RelH (fun k f i j => if k = 0 ∧ ¬ (i = 0 ∧ j = 0) then C.1 k f i j else C'.1 k f i j, fun k f i j => if k = 0 then C.2 k f i j else C'.2 k f i j) M' := h.ag (fun k f i j hk => by
    by_cases e : k = 0
    · subst e
      refine ⟨?_, by show (if (0 : Nat) = 0 then C.2 0 f i j else C'.2 0 f i j) = _; exact if_pos rfl⟩
      show (if _ then _ else _) = _
      by_cases e2 : i = 0 ∧ j = 0
      · rw [if_neg (fun q => q.2 e2), e2.1, e2.2]
        have : f = 6 ∨ f = 7 := by
          unfold qH at hk
          simp only [Bool.or_eq_true, Bool.and_eq_true, beq_iff_eq] at hk
          omega
        rcases this with q | q <;> rw [q]
        · exact h6
        · exact h7
      · rw [if_pos ⟨rfl, e2⟩]
    · have q := hC k f i j (cM_t (by
        unfold qH at hk
        simp only [Bool.or_eq_true, Bool.and_eq_true, beq_iff_eq] at hk
        simp only [List.mem_cons, List.not_mem_nil, or_false]
        omega) (by simp))
      refine ⟨?_, ?_⟩
      · show (if _ then _ else _) = _
        rw [if_neg (fun q => e q.1)]; exact q.1
      · show (if _ then _ else _) = _
        rw [if_neg e]; exact q.2) hM
  exact z
theorem s_pass {n : Int} {z : Int} {M M1 C1 M2 : Mem} (hI : Inv n M M1) (f1 : Ag (cM [90, 91] []) C1 M1) (hz : 1 ≤ z ∧ z ≤ 100) (hy : (M.1 0 2 0 0) + z ≤ 2200) (q3 : PsR M z (M.1 0 1 0 0) C1) (hP : PsM M (setI (setI M1 40 46 0 0 0) 40 12 0 0 ((M.1 0 2 0 0) + z)) z (M.1 0 1 0 0) M2) : Fin' n C1 M1 M2 := by
  have f2 : Ag (cM [0, 16] []) M C1 := Ag.ofEx q3.1 (by
    intro k hk
    (try simp only [List.mem_cons, List.not_mem_nil, or_false, not_or] at hk)
    simp only [Bool.or_eq_false_iff, beq_eq_false_iff_ne]
    omega)
  have f3 : Ag (cM [45] [(40, 12)]) (setI M1 40 46 0 0 0) M2 := (((Ag.rf _).setI rfl) : Ag (cM [45] [(40, 12)]) (setI M1 40 46 0 0 0) (setI (setI M1 40 46 0 0 0) 40 12 0 0 ((M.1 0 2 0 0) + z))).tr (hP.1.mono (fun k f h => by
    have z := cM_e h
    simp only [List.mem_cons, List.not_mem_nil, or_false, not_or, Prod.mk.injEq] at z
    simp only [Bool.not_eq_true', beq_eq_false_iff_ne]
    omega))
  have f4 := th0_ag f3
  have hB : Inv n M (setI M1 40 46 0 0 0) := hI.th
  have kR : RelR C1 M2 := hI.1.passK hz hy q3 hP
  have kV : RelV (n + 1) C1 M2 := (hI.2.1.ag0 f2 (q3.2.2.1 6 (by decide)) (q3.2.2.1 7 (by decide)) (f4.mono (by
      intro k f h
      unfold pV_ at h
      simp only [Bool.or_eq_true, Bool.and_eq_true, beq_iff_eq] at h
      exact cM_t (by first | exact List.not_mem_nil | (simp only [List.mem_cons, List.not_mem_nil, or_false]; omega)) (by first | exact List.not_mem_nil | (simp only [List.mem_cons, List.not_mem_nil, or_false, Prod.mk.injEq]; omega))))).up
  have kZ : RelZ C1 M2 := (hI.2.2.1.ag (f2.mono (by
      intro k f h
      unfold qZ at h
      simp only [Bool.or_eq_true, Bool.and_eq_true, beq_iff_eq] at h
      exact cM_t (by first | exact List.not_mem_nil | (simp only [List.mem_cons, List.not_mem_nil, or_false]; omega)) (by first | exact List.not_mem_nil | (simp only [List.mem_cons, List.not_mem_nil, or_false, Prod.mk.injEq]; omega)))) (f4.mono (by
      intro k f h
      unfold pZ at h
      simp only [Bool.or_eq_true, Bool.and_eq_true, beq_iff_eq] at h
      exact cM_t (by first | exact List.not_mem_nil | (simp only [List.mem_cons, List.not_mem_nil, or_false]; omega)) (by first | exact List.not_mem_nil | (simp only [List.mem_cons, List.not_mem_nil, or_false, Prod.mk.injEq]; omega)))))
  have kH : RelH C1 M2 := hI.2.2.2.1.ag0 f2 (q3.2.2.1 6 (by decide)) (q3.2.2.1 7 (by decide)) (f4.mono (by
      intro k f h
      unfold pH at h
      simp only [Bool.or_eq_true, Bool.and_eq_true, beq_iff_eq] at h
      exact cM_t (by first | exact List.not_mem_nil | (simp only [List.mem_cons, List.not_mem_nil, or_false]; omega)) (by first | exact List.not_mem_nil | (simp only [List.mem_cons, List.not_mem_nil, or_false, Prod.mk.injEq]; omega))))
  have kE : RelE C1 M2 := (hI.2.2.2.2.1.ag (f2.mono (by
      intro k f h
      unfold qE at h
      simp only [Bool.or_eq_true, Bool.and_eq_true, beq_iff_eq] at h
      exact cM_t (by first | exact List.not_mem_nil | (simp only [List.mem_cons, List.not_mem_nil, or_false]; omega)) (by first | exact List.not_mem_nil | (simp only [List.mem_cons, List.not_mem_nil, or_false, Prod.mk.injEq]; omega)))) (f4.mono (by
      intro k f h
      unfold pE at h
      simp only [Bool.or_eq_true, Bool.and_eq_true, beq_iff_eq] at h
      exact cM_t (by first | exact List.not_mem_nil | (simp only [List.mem_cons, List.not_mem_nil, or_false]; omega)) (by first | exact List.not_mem_nil | (simp only [List.mem_cons, List.not_mem_nil, or_false, Prod.mk.injEq]; omega)))))
  have kK : RelK (n + 1) C1 M2 := (hI.2.2.2.2.2.ag (f2.mono (by
      intro k f h
      unfold qK at h
      simp only [Bool.or_eq_true, Bool.and_eq_true, beq_iff_eq] at h
      exact cM_t (by first | exact List.not_mem_nil | (simp only [List.mem_cons, List.not_mem_nil, or_false]; omega)) (by first | exact List.not_mem_nil | (simp only [List.mem_cons, List.not_mem_nil, or_false, Prod.mk.injEq]; omega)))) (f4.mono (by
      intro k f h
      unfold pK at h
      simp only [Bool.or_eq_true, Bool.and_eq_true, beq_iff_eq] at h
      exact cM_t (by first | exact List.not_mem_nil | (simp only [List.mem_cons, List.not_mem_nil, or_false]; omega)) (by first | exact List.not_mem_nil | (simp only [List.mem_cons, List.not_mem_nil, or_false, Prod.mk.injEq]; omega))))).up
  exact Fin'.of ⟨kR, kV, kZ, kH, kE, kK⟩ f1 f3 (fun k f h => cM_t (by first | exact List.not_mem_nil | (simp only [List.mem_cons, List.not_mem_nil, or_false]; omega)) (by first | exact List.not_mem_nil | (simp only [List.mem_cons, List.not_mem_nil, or_false, Prod.mk.injEq]; omega)))
theorem s_mend {n lo hi m : Int} {dec : Int → Prop} {mv : Int → Int64} {M M1 C0 C1 M2 : Mem} (hI : Inv n M M1) (f1 : Ag (cM [90, 91] []) C1 M1) (f0 : Ag (cM [95] []) M C0) (l0 : 0 ≤ lo) (hh : lo ≤ hi ∨ (hi ≤ lo ∧ 0 ≤ hi)) (hm : hi ≤ m ∨ hi ≤ lo) (m0 : 0 ≤ m) (m1 : m ≤ (M.1 10 0 0 0)) (q3 : MdR dec mv lo hi C0 C1) (hP : MdP (DD lo hi dec) mv m M M1 M2) : Fin' n C1 M1 M2 := by
  have f2 : Ag (cM [95, 12, 13, 14, 15, 31] []) M C1 := (f0.mono (fun k f h => cM_t (fun z => (cM_e h).1 (by simp only [List.mem_cons, List.not_mem_nil, or_false] at z ⊢; omega)) (by simp))).tr (Ag.ofEx q3.1 (by
    intro k hk
    (try simp only [List.mem_cons, List.not_mem_nil, or_false, not_or] at hk)
    unfold exE; simp only [Bool.or_eq_false_iff, beq_eq_false_iff_ne]
    omega))
  have f3 : Ag (cM [71, 73, 74, 75, 76] [(40, 44)]) (setI M1 40 46 0 0 0) M2 := by
    obtain ⟨Mk, a, b⟩ := hP
    exact (a.mono (fun k f h => by
      have z := (cM_e h).1
      simp only [List.mem_cons, List.not_mem_nil, or_false, not_or] at z
      simp only [Bool.not_eq_true', beq_eq_false_iff_ne]
      omega)).tr (b.1.mono (fun k f h => by
      have z := cM_e h
      simp only [List.mem_cons, List.not_mem_nil, or_false, not_or, Prod.mk.injEq] at z
      unfold kpM
      simp only [Bool.not_eq_true', Bool.or_eq_false_iff, Bool.and_eq_false_iff, beq_eq_false_iff_ne]
      omega))
  have f4 := th0_ag f3
  have fc : Ag kCl M C0 := f0.mono (fun k f h => cM_t (by
    have : k < 40 := of_decide_eq_true h
    simp only [List.mem_cons, List.not_mem_nil, or_false]
    omega) (by simp))
  have hI0 : Inv n C0 M1 := hI.ag fc (Ag.rf M1)
  have kk := mend_K hI0.2.2.2.2.1 hI0.2.2.2.2.2 l0 hh hm m0 (by rw [fc.i 10 0 0 0 rfl]; exact m1) q3 (hP.cg (fc.i 12 0 0 0 rfl) (fc.i 10 0 0 0 rfl) (fun i => fc.l 31 4 i 0 rfl))
  have kR : RelR C1 M2 := (hI.1.ag (f2.mono (by
      intro k f h
      unfold qR at h
      simp only [Bool.or_eq_true, Bool.and_eq_true, beq_iff_eq] at h
      exact cM_t (by first | exact List.not_mem_nil | (simp only [List.mem_cons, List.not_mem_nil, or_false]; omega)) (by first | exact List.not_mem_nil | (simp only [List.mem_cons, List.not_mem_nil, or_false, Prod.mk.injEq]; omega)))) (f4.mono (by
      intro k f h
      unfold pR at h
      simp only [Bool.or_eq_true, Bool.and_eq_true, beq_iff_eq] at h
      exact cM_t (by first | exact List.not_mem_nil | (simp only [List.mem_cons, List.not_mem_nil, or_false]; omega)) (by first | exact List.not_mem_nil | (simp only [List.mem_cons, List.not_mem_nil, or_false, Prod.mk.injEq]; omega)))))
  have kV : RelV (n + 1) C1 M2 := (hI.2.1.ag (f2.mono (by
      intro k f h
      unfold qV at h
      simp only [Bool.or_eq_true, Bool.and_eq_true, beq_iff_eq] at h
      exact cM_t (by first | exact List.not_mem_nil | (simp only [List.mem_cons, List.not_mem_nil, or_false]; omega)) (by first | exact List.not_mem_nil | (simp only [List.mem_cons, List.not_mem_nil, or_false, Prod.mk.injEq]; omega)))) (f4.mono (by
      intro k f h
      unfold pV_ at h
      simp only [Bool.or_eq_true, Bool.and_eq_true, beq_iff_eq] at h
      exact cM_t (by first | exact List.not_mem_nil | (simp only [List.mem_cons, List.not_mem_nil, or_false]; omega)) (by first | exact List.not_mem_nil | (simp only [List.mem_cons, List.not_mem_nil, or_false, Prod.mk.injEq]; omega))))).up
  have kZ : RelZ C1 M2 := (hI.2.2.1.ag (f2.mono (by
      intro k f h
      unfold qZ at h
      simp only [Bool.or_eq_true, Bool.and_eq_true, beq_iff_eq] at h
      exact cM_t (by first | exact List.not_mem_nil | (simp only [List.mem_cons, List.not_mem_nil, or_false]; omega)) (by first | exact List.not_mem_nil | (simp only [List.mem_cons, List.not_mem_nil, or_false, Prod.mk.injEq]; omega)))) (f4.mono (by
      intro k f h
      unfold pZ at h
      simp only [Bool.or_eq_true, Bool.and_eq_true, beq_iff_eq] at h
      exact cM_t (by first | exact List.not_mem_nil | (simp only [List.mem_cons, List.not_mem_nil, or_false]; omega)) (by first | exact List.not_mem_nil | (simp only [List.mem_cons, List.not_mem_nil, or_false, Prod.mk.injEq]; omega)))))
  have kH : RelH C1 M2 := (hI.2.2.2.1.ag (f2.mono (by
      intro k f h
      unfold qH at h
      simp only [Bool.or_eq_true, Bool.and_eq_true, beq_iff_eq] at h
      exact cM_t (by first | exact List.not_mem_nil | (simp only [List.mem_cons, List.not_mem_nil, or_false]; omega)) (by first | exact List.not_mem_nil | (simp only [List.mem_cons, List.not_mem_nil, or_false, Prod.mk.injEq]; omega)))) (f4.mono (by
      intro k f h
      unfold pH at h
      simp only [Bool.or_eq_true, Bool.and_eq_true, beq_iff_eq] at h
      exact cM_t (by first | exact List.not_mem_nil | (simp only [List.mem_cons, List.not_mem_nil, or_false]; omega)) (by first | exact List.not_mem_nil | (simp only [List.mem_cons, List.not_mem_nil, or_false, Prod.mk.injEq]; omega)))))
  exact Fin'.of ⟨kR, kV, kZ, kH, kk.1, kk.2⟩ f1 f3 (fun k f h => cM_t (by first | exact List.not_mem_nil | (simp only [List.mem_cons, List.not_mem_nil, or_false]; omega)) (by first | exact List.not_mem_nil | (simp only [List.mem_cons, List.not_mem_nil, or_false, Prod.mk.injEq]; omega)))
