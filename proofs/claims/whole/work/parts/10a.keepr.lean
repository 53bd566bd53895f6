theorem RD.cg {M M' : Mem} {i : Int} (h : RD M i) (e16 : ∀ f, 6 ≤ f → M'.1 16 f i 0 = M.1 16 f i 0) (e : ∀ k, 17 ≤ k → k ≤ 21 → ∀ j, M'.1 k 0 i j = M.1 k 0 i j) : RD M' i := by
  have a6 := e16 6 (by decide)
  have a7 := e16 7 (by decide)
  have a8 := e16 8 (by decide)
  have a9 := e16 9 (by decide)
  have a17 := e 17 (by decide) (by decide)
  have a19 := e 19 (by decide) (by decide)
  have a20 := e 20 (by decide) (by decide)
  have a21 := e 21 (by decide) (by decide)
  unfold RD at h ⊢
  simp only [a6, a7, a8, a9, a17, a19, a20, a21]
  exact h
theorem RelR.one {C C' M M' : Mem} {r : Int} (h : RelR C M) (r0 : 0 ≤ r) (r1 : r < (C'.1 0 1 0 0)) (hc : (C.1 0 1 0 0) ≤ (C'.1 0 1 0 0) ∧ (C'.1 0 1 0 0) ≤ 12) (ho : ∀ i, 0 ≤ i → i < (C'.1 0 1 0 0) → i ≠ r → i < (C.1 0 1 0 0))
    (e2 : (C'.1 0 2 0 0) = (C.1 0 2 0 0)) (e3 : (C'.1 0 3 0 0) = (C.1 0 3 0 0)) (e4 : ∀ i j, C'.1 4 0 i j = C.1 4 0 i j) (eo : ∀ i, i ≠ r → RE C C' i) (hd : RD C' r)
    (hg : (0 ≤ (C'.1 16 3 r 0) ∧ (C'.1 16 3 r 0) ≤ r) ∧ (0 ≤ (C'.1 16 4 r 0) ∧ (C'.1 16 4 r 0) ≤ 299 + 3 * ((C.1 0 2 0 0) - 2000)) ∧ ((C'.1 16 5 r 0) = 0 ∨ (C'.1 16 5 r 0) = 1))
    (me : (M'.1 40 10 0 0) = (C'.1 0 1 0 0) ∧ (M'.1 40 11 0 0) = (M.1 40 11 0 0) ∧ (M'.1 40 12 0 0) = (M.1 40 12 0 0)) (mo : ∀ i, i ≠ r → ∀ k, 41 ≤ k → k ≤ 47 → M'.1 k 0 0 i = M.1 k 0 0 i)
    (mr : (M'.1 41 0 0 r) = (C'.1 16 0 r 0) ∧ (M'.1 42 0 0 r) = (C'.1 16 1 r 0) ∧ (M'.1 43 0 0 r) = (C'.1 16 2 r 0) ∧ (M'.1 44 0 0 r) = (C'.1 16 3 r 0) ∧ (M'.1 45 0 0 r) = (C'.1 16 4 r 0) ∧ (M'.1 46 0 0 r) = (C'.1 16 5 r 0) ∧ (M'.1 47 0 0 r) = (C'.1 16 6 r 0))
    (fo : ∀ j, ¬ (60 * r ≤ j ∧ j < 60 * r + 60) → (M'.1 48 0 0 j) = (M.1 48 0 0 j) ∧ (M'.2 49 0 0 j) = (M.2 49 0 0 j) ∧ (M'.1 50 0 0 j) = (M.1 50 0 0 j))
    (fr : ∀ k, 0 ≤ k → k < (C'.1 16 6 r 0) → (M'.1 48 0 0 (60 * r + k)) = (C'.1 17 0 r k) ∧ (M'.2 49 0 0 (60 * r + k)) = (C'.2 18 0 r k)) (fs : ∀ k, 0 ≤ k → k < 60 → (M'.1 50 0 0 (60 * r + k)) = (C'.1 19 0 r k)) : RelR C' M' := by
  have rc := h.rc
  have ee := h.e
  have E16 : ∀ i, i ≠ r → ∀ f, C'.1 16 f i 0 = C.1 16 f i 0 := fun i hi f => (eo i hi 16 f 0 (by decide) (by decide)).1
  refine ⟨⟨by omega, hc.2⟩, by rw [e2]; exact h.yr, by rw [e3]; exact h.tl, ?_, ?_, ?_, ?_, ?_, ?_, ?_, ?_, ?_⟩
  · intro i i0 i1
    by_cases e : i = r
    · rw [e]; exact hd
    · exact (h.rd i i0 (ho i i0 i1 e)).cong (eo i e)
  · intro i i0 i1
    rw [e2]
    by_cases e : i = r
    · rw [e]; exact hg
    · rw [E16 i e, E16 i e, E16 i e]; exact h.gn i i0 (ho i i0 i1 e)
  · intro i i0 i1
    exact (h.rf i (by omega) i1).cong (eo i (by omega))
  · exact ⟨fun j => by rw [e4]; exact h.bz.1 j, fun i => by rw [e4]; exact h.bz.2 i⟩
  · exact ⟨me.1, by rw [me.2.1, e3]; exact ee.2.1, by rw [me.2.2, e2]; exact ee.2.2⟩
  · intro i i0 i1
    by_cases e : i = r
    · rw [e]; exact mr
    · have q := h.mi i i0 (ho i i0 i1 e)
      rw [E16 i e, E16 i e, E16 i e, E16 i e, E16 i e, E16 i e, E16 i e, mo i e 41 (by decide) (by decide), mo i e 42 (by decide) (by decide), mo i e 43 (by decide) (by decide), mo i e 44 (by decide) (by decide), mo i e 45 (by decide) (by decide), mo i e 46 (by decide) (by decide), mo i e 47 (by decide) (by decide)]
      exact q
  · intro i i0 i1
    have e : i ≠ r := by omega
    rw [mo i e 46 (by decide) (by decide), mo i e 47 (by decide) (by decide)]
    exact h.mf i (by omega) i1
  · intro i k i0 i1 k0 k1
    by_cases e : i = r
    · rw [e] at k1 ⊢; exact fr k k0 k1
    · rw [E16 i e] at k1
      have hi := ho i i0 i1 e
      have fb := (h.rd i i0 hi).fc
      have q := fo (60 * i + k) (by omega)
      rw [q.1, q.2.1, (eo i e 17 0 k (by decide) (by decide)).1, (eo i e 18 0 k (by decide) (by decide)).2]
      exact h.fr i k i0 hi k0 k1
  · intro i k i0 i1 k0 k1
    by_cases e : i = r
    · rw [e]; exact fs k k0 k1
    · have q := fo (60 * i + k) (by omega)
      rw [q.2.2, (eo i e 19 0 k (by decide) (by decide)).1]
      exact h.fs i k i0 i1 k0 k1
theorem RelR.tol {C M : Mem} {t : Int} (h : RelR C M) (ht : 0 ≤ t ∧ t ≤ 2040) : RelR (setI C 0 3 0 0 t) (setI M 40 11 0 0 t) := by
  have cO : ∀ (k f : Nat) (i j : Int), k ≠ 0 → (setI C 0 3 0 0 t).1 k f i j = C.1 k f i j := fun k f i j hk => by simp [setI_1, hk]
  have c1 : (((setI C 0 3 0 0 t)).1 0 1 0 0) = (C.1 0 1 0 0) := by simp [setI_1]
  have c2 : (((setI C 0 3 0 0 t)).1 0 2 0 0) = (C.1 0 2 0 0) := by simp [setI_1]
  have c3 : (((setI C 0 3 0 0 t)).1 0 3 0 0) = t := by simp [setI_1]
  have mO : ∀ (k f : Nat) (i j : Int), k ≠ 40 → (setI M 40 11 0 0 t).1 k f i j = M.1 k f i j := fun k f i j hk => by simp [setI_1, hk]
  have re : ∀ i, RE C (setI C 0 3 0 0 t) i := fun i k f j k0 _ => ⟨cO k f i j (by omega), rfl⟩
  have m1 : (((setI M 40 11 0 0 t)).1 40 10 0 0) = (M.1 40 10 0 0) := by simp [setI_1]
  have m2 : (((setI M 40 11 0 0 t)).1 40 12 0 0) = (M.1 40 12 0 0) := by simp [setI_1]
  have m3 : (((setI M 40 11 0 0 t)).1 40 11 0 0) = t := by simp [setI_1]
  have ee := h.e
  refine ⟨by rw [c1]; exact h.rc, by rw [c2]; exact h.yr, by rw [c3]; exact ht, ?_, ?_, ?_, ?_, ?_, ?_, ?_, ?_, ?_⟩
  · rw [c1]; exact fun i i0 i1 => (h.rd i i0 i1).cong (re i)
  · rw [c1, c2]; exact h.gn
  · rw [c1]; exact fun i i0 i1 => (h.rf i i0 i1).cong (re i)
  · exact h.bz
  · rw [c1, c2, c3, m1, m2, m3]; exact ⟨ee.1, rfl, ee.2.2⟩
  · rw [c1]; exact h.mi
  · rw [c1]; exact h.mf
  · rw [c1]; exact h.fr
  · exact h.fs
theorem RelR.coldK {C M : Mem} {r : Int} {P : Prop} (h : RelR C M) (r0 : 0 ≤ r) (r1 : r < (C.1 0 1 0 0)) : RelR (setI C 16 5 r 0 (bI P)) (setI M 46 0 0 r (bI P)) := by
  have rc := h.rc
  have e16 : ∀ f i, (setI C 16 5 r 0 (bI P)).1 16 f i 0 = if f = 5 ∧ i = r then bI P else C.1 16 f i 0 := fun f i => by simp [setI_1]
  have eO : ∀ (k f : Nat) (i j : Int), k ≠ 16 → (setI C 16 5 r 0 (bI P)).1 k f i j = C.1 k f i j := fun k f i j hk => by simp [setI_1, hk]
  have mO : ∀ (k f : Nat) (i j : Int), k ≠ 46 → (setI M 46 0 0 r (bI P)).1 k f i j = M.1 k f i j := fun k f i j hk => by simp [setI_1, hk]
  have m46 : ∀ i, (setI M 46 0 0 r (bI P)).1 46 0 0 i = if i = r then bI P else M.1 46 0 0 i := fun i => by simp [setI_1]
  have gn := h.gn r r0 r1
  have mi := h.mi r r0 r1
  refine h.one (r := r) r0 (by rw [eO _ _ _ _ (by decide)]; exact r1) (by rw [eO _ _ _ _ (by decide)]; omega) (fun i i0 i1 _ => by rw [eO _ _ _ _ (by decide)] at i1; exact i1) (eO _ _ _ _ (by decide)) (eO _ _ _ _ (by decide)) (fun i j => eO _ _ _ _ (by decide)) ?_ ?_ ?_ ?_ ?_ ?_ ?_ ?_ ?_
  · intro i hi k f j k0 k1
    refine ⟨?_, rfl⟩
    rw [setI_1, if_neg (fun q => hi q.2.2.1)]
  · exact (h.rd r r0 r1).cg (fun f hf => by rw [e16, if_neg (by omega)]) (fun k k0 _ j => eO k 0 r j (by omega))
  · rw [e16, e16, e16, if_neg (by omega), if_neg (by omega), if_pos ⟨rfl, rfl⟩]
    exact ⟨gn.1, gn.2.1, bI_01 P⟩
  · rw [mO _ _ _ _ (by decide), mO _ _ _ _ (by decide), mO _ _ _ _ (by decide), eO _ _ _ _ (by decide)]
    exact ⟨h.e.1, rfl, rfl⟩
  · intro i hi k k0 k1
    by_cases e : k = 46
    · rw [e, m46, if_neg hi]
    · exact mO k 0 0 i e
  · rw [mO 41 0 _ _ (by decide), mO 42 0 _ _ (by decide), mO 43 0 _ _ (by decide), mO 44 0 _ _ (by decide), mO 45 0 _ _ (by decide), mO 47 0 _ _ (by decide), m46, if_pos rfl, e16 0, e16 1, e16 2, e16 3, e16 4, e16 5, e16 6, if_neg (by omega), if_neg (by omega), if_neg (by omega), if_neg (by omega), if_neg (by omega), if_pos ⟨rfl, rfl⟩, if_neg (by omega)]
    exact ⟨mi.1, mi.2.1, mi.2.2.1, mi.2.2.2.1, mi.2.2.2.2.1, rfl, mi.2.2.2.2.2.2⟩
  · intro j _
    exact ⟨mO _ _ _ _ (by decide), rfl, mO _ _ _ _ (by decide)⟩
  · intro k k0 k1
    rw [e16, if_neg (by omega)] at k1
    rw [mO _ _ _ _ (by decide), eO _ _ _ _ (by decide)]
    exact h.fr r k r0 r1 k0 k1
  · intro k k0 k1
    rw [mO _ _ _ _ (by decide), eO _ _ _ _ (by decide)]
    exact h.fs r k r0 (by omega) k0 k1
theorem RelR.frameK {C M : Mem} {r c : Int} {x : Int64} (h : RelR C M) (r0 : 0 ≤ r) (r1 : r < (C.1 0 1 0 0)) (c0 : 0 ≤ c ∧ c ≤ 999) (hf : (C.1 16 6 r 0) < 60) : RelR (addF C r c x) (frM M r c x) := by
  have rc := h.rc
  have hd := h.rd r r0 r1
  have fb := hd.fc
  have gn := h.gn r r0 r1
  have mi := h.mi r r0 r1
  obtain ⟨e6, e7, e8, e9, e5, e17, e18, e19, e20, e21⟩ := addF_sc (M := C) (i := r) (c := c) (x := x)
  have hE : Ex exR C (addF C r c x) := addF_ex (Ex.rf C)
  have eO : ∀ f, (addF C r c x).1 0 f 0 0 = C.1 0 f 0 0 := fun f => hE.i 0 f 0 0 rfl
  have mO : ∀ (k f : Nat) (i j : Int), k ≠ 47 → k ≠ 48 → (frM M r c x).1 k f i j = M.1 k f i j := fun k f i j h1 h2 => by simp [frM, setI_1, setL_1, h1, h2]
  have m47 : ∀ i, (frM M r c x).1 47 0 0 i = if i = r then (M.1 47 0 0 r) + 1 else M.1 47 0 0 i := fun i => by simp [frM, setI_1, setL_1]
  have m48 : ∀ i, (frM M r c x).1 48 0 0 i = if i = 60 * r + (M.1 47 0 0 r) then c else M.1 48 0 0 i := fun i => by simp [frM, setI_1, setL_1]
  have m49 : ∀ i, (frM M r c x).2 49 0 0 i = if i = 60 * r + (M.1 47 0 0 r) then x else M.2 49 0 0 i := fun i => by simp [frM, setI_2, setL_2]
  refine h.one (r := r) r0 (by rw [eO]; exact r1) (by rw [eO]; omega) (fun i i0 i1 _ => by rw [eO] at i1; exact i1) (eO 2) (eO 3) (fun i j => hE.i 4 0 i j rfl) (fun i hi => addF_re hi) (hd.keepF hf c0.1 c0.2) ?_ ?_ ?_ ?_ ?_ ?_ ?_
  · rw [e5 3 (by decide), e5 4 (by decide), e5 5 (by decide)]; exact gn
  · rw [mO _ _ _ _ (by decide) (by decide), mO _ _ _ _ (by decide) (by decide), mO _ _ _ _ (by decide) (by decide), eO]
    exact ⟨h.e.1, rfl, rfl⟩
  · intro i hi k k0 k1
    by_cases e : k = 47
    · rw [e, m47, if_neg hi]
    · exact mO k 0 0 i e (by omega)
  · rw [mO 41 0 _ _ (by decide) (by decide), mO 42 0 _ _ (by decide) (by decide), mO 43 0 _ _ (by decide) (by decide), mO 44 0 _ _ (by decide) (by decide), mO 45 0 _ _ (by decide) (by decide), mO 46 0 _ _ (by decide) (by decide), m47, if_pos rfl, e5 0 (by decide), e5 1 (by decide), e5 2 (by decide), e5 3 (by decide), e5 4 (by decide), e5 5 (by decide), e6]
    exact ⟨mi.1, mi.2.1, mi.2.2.1, mi.2.2.2.1, mi.2.2.2.2.1, mi.2.2.2.2.2.1, by omega⟩
  · intro j hj
    rw [m48, m49, if_neg (by omega), if_neg (by omega), mO _ _ _ _ (by decide) (by decide)]
    exact ⟨rfl, rfl, rfl⟩
  · intro k k0 k1
    rw [e6] at k1
    rw [m48, m49, e17, e18]
    by_cases e : k = (C.1 16 6 r 0)
    · rw [if_pos e, if_pos e, if_pos (by omega), if_pos (by omega)]; exact ⟨rfl, rfl⟩
    · rw [if_neg e, if_neg e, if_neg (by omega), if_neg (by omega)]
      exact h.fr r k r0 r1 k0 (by omega)
  · intro k k0 k1
    rw [mO _ _ _ _ (by decide) (by decide), e19]
    exact h.fs r k r0 (by omega) k0 k1
theorem addS_o {C : Mem} {r p : Int} : (addS C r p).2 = C.2 ∧ (∀ f, f ≠ 7 → (addS C r p).1 16 f r 0 = C.1 16 f r 0) ∧ (∀ j, (addS C r p).1 17 0 r j = C.1 17 0 r j) := by
  unfold addS
  split
  · refine ⟨rfl, fun f hf => ?_, fun j => ?_⟩
    · simp [setI_1, hf]
    · simp [setI_1]
  · exact ⟨rfl, fun _ _ => rfl, fun _ => rfl⟩
theorem RelR.spliceK {C M : Mem} {r p : Int} (h : RelR C M) (r0 : 0 ≤ r) (r1 : r < (C.1 0 1 0 0)) (p0 : 0 ≤ p) (p1 : p < (C.1 16 6 r 0)) : RelR (addS C r p) (spM M r p) := by
  have rc := h.rc
  have hd := h.rd r r0 r1
  have fb := hd.fc
  have gn := h.gn r r0 r1
  have mi := h.mi r r0 r1
  have sp := hd.sp p p0 (by omega)
  obtain ⟨eL, e5, e17⟩ := addS_o (C := C) (r := r) (p := p)
  have hE : Ex exR C (addS C r p) := addS_ex (Ex.rf C)
  have eO : ∀ f, (addS C r p).1 0 f 0 0 = C.1 0 f 0 0 := fun f => hE.i 0 f 0 0 rfl
  have mO : ∀ (k f : Nat) (i j : Int), k ≠ 50 → (spM M r p).1 k f i j = M.1 k f i j := fun k f i j h1 => by simp [spM, setI_1, h1]
  have m50 : ∀ i, (spM M r p).1 50 0 0 i = if i = 60 * r + p then 1 else M.1 50 0 0 i := fun i => by simp [spM, setI_1]
  refine h.one (r := r) r0 (by rw [eO]; exact r1) (by rw [eO]; omega) (fun i i0 i1 _ => by rw [eO] at i1; exact i1) (eO 2) (eO 3) (fun i j => hE.i 4 0 i j rfl) (fun i hi => addS_re hi) (hd.keepS p0 p1) ?_ ?_ ?_ ?_ ?_ ?_ ?_
  · rw [e5 3 (by decide), e5 4 (by decide), e5 5 (by decide)]; exact gn
  · rw [mO _ _ _ _ (by decide), mO _ _ _ _ (by decide), mO _ _ _ _ (by decide), eO]
    exact ⟨h.e.1, rfl, rfl⟩
  · intro i hi k k0 k1
    exact mO k 0 0 i (by omega)
  · rw [mO 41 0 _ _ (by decide), mO 42 0 _ _ (by decide), mO 43 0 _ _ (by decide), mO 44 0 _ _ (by decide), mO 45 0 _ _ (by decide), mO 46 0 _ _ (by decide), mO 47 0 _ _ (by decide), e5 0 (by decide), e5 1 (by decide), e5 2 (by decide), e5 3 (by decide), e5 4 (by decide), e5 5 (by decide), e5 6 (by decide)]
    exact mi
  · intro j hj
    rw [m50, if_neg (by omega), mO _ _ _ _ (by decide)]
    exact ⟨rfl, rfl, rfl⟩
  · intro k k0 k1
    rw [e5 6 (by decide)] at k1
    rw [mO _ _ _ _ (by decide), e17, eL]
    exact h.fr r k r0 r1 k0 k1
  · intro k k0 k1
    rw [m50, addS_19 sp]
    by_cases e : k = p
    · rw [if_pos e, if_pos (by omega)]
    · rw [if_neg e, if_neg (by omega)]
      exact h.fs r k r0 (by omega) k0 k1
theorem beginR_at {C : Mem} {r b y l g d : Int} : (∀ f, (beginR C r b y l g d).1 16 f r 0 = if f = 0 then b else if f = 1 then y else if f = 2 then l else if f = 3 then g else if f = 4 then d else if f = 8 then 1000 else if f = 9 then -1 else C.1 16 f r 0) ∧ (∀ k, k ≠ 16 → k ≠ 20 → ∀ f i j, (beginR C r b y l g d).1 k f i j = C.1 k f i j) ∧ (beginR C r b y l g d).2 = C.2 := by
  refine ⟨fun f => ?_, fun k h1 h2 f i j => ?_, rfl⟩
  · unfold beginR
    simp only [fillI_1, setI_1]
    by_cases e0 : f = 0
    · subst e0; simp
    by_cases e1 : f = 1
    · subst e1; simp
    by_cases e2 : f = 2
    · subst e2; simp
    by_cases e3 : f = 3
    · subst e3; simp
    by_cases e4 : f = 4
    · subst e4; simp
    by_cases e8 : f = 8
    · subst e8; simp
    by_cases e9 : f = 9
    · subst e9; simp
    simp [e0, e1, e2, e3, e4, e8, e9]
  · unfold beginR
    simp [fillI_1, setI_1, h1, h2]
theorem addsM_at {M : Mem} {b y l g d : Int} : (∀ i, (addsM M b y l g d).1 41 0 0 i = if i = (M.1 40 10 0 0) then b else M.1 41 0 0 i) ∧ (∀ i, (addsM M b y l g d).1 42 0 0 i = if i = (M.1 40 10 0 0) then y else M.1 42 0 0 i) ∧ (∀ i, (addsM M b y l g d).1 43 0 0 i = if i = (M.1 40 10 0 0) then l else M.1 43 0 0 i) ∧ (∀ i, (addsM M b y l g d).1 44 0 0 i = if i = (M.1 40 10 0 0) then g else M.1 44 0 0 i) ∧ (∀ i, (addsM M b y l g d).1 45 0 0 i = if i = (M.1 40 10 0 0) then d else M.1 45 0 0 i) ∧ (∀ k, 46 ≤ k → ∀ f i j, (addsM M b y l g d).1 k f i j = M.1 k f i j) ∧ (((addsM M b y l g d)).1 40 10 0 0) = (M.1 40 10 0 0) + 1 ∧ (∀ f, f ≠ 10 → (addsM M b y l g d).1 40 f 0 0 = M.1 40 f 0 0) ∧ (addsM M b y l g d).2 = M.2 := by
  unfold addsM
  refine ⟨fun i => ?_, fun i => ?_, fun i => ?_, fun i => ?_, fun i => ?_, fun k hk f i j => ?_, ?_, fun f hf => ?_, rfl⟩
  · simp [setI_1]
  · simp [setI_1]
  · simp [setI_1]
  · simp [setI_1]
  · simp [setI_1]
  · have : k ≠ 40 ∧ k ≠ 41 ∧ k ≠ 42 ∧ k ≠ 43 ∧ k ≠ 44 ∧ k ≠ 45 := by omega
    simp [setI_1, this]
  · simp [setI_1]
  · simp [setI_1, hf]
theorem RelR.reelK {C M : Mem} {b y l p d g : Int} (h : RelR C M) (hc : (C.1 0 1 0 0) < 12) (hp : p = -1 ∨ (0 ≤ p ∧ p < (C.1 0 1 0 0))) (hd : 0 ≤ d ∧ d ≤ 299) (hg : g = if p < 0 then 0 else (C.1 16 3 p 0) + 1) : RelR (reelM C b y l p d) (addsM M b y l g d) := by
  have rc := h.rc
  have yr := h.yr
  have rf := h.rf (C.1 0 1 0 0) (Int.le_refl _) hc
  have mf := h.mf (C.1 0 1 0 0) (Int.le_refl _) hc
  have ee := h.e
  have eg : (if p = -1 then 0 else (C.1 16 3 p 0) + 1) = g := by rw [hg]; rcases hp with z | z <;> omega
  have g0 : 0 ≤ g ∧ g ≤ (C.1 0 1 0 0) := by
    rw [hg]
    rcases hp with z | z
    · rw [if_pos (by omega)]; omega
    · have := h.gn p z.1 z.2
      rw [if_neg (by omega)]; omega
  unfold reelM
  rw [eg]
  obtain ⟨b16, bO, bL⟩ := beginR_at (C := C) (r := (C.1 0 1 0 0)) (b := b) (y := y) (l := l) (g := g) (d := d)
  obtain ⟨a41, a42, a43, a44, a45, aO, a10, a40, aL⟩ := addsM_at (M := M) (b := b) (y := y) (l := l) (g := g) (d := d)
  have s16 : ∀ (k f : Nat) (i j : Int), k ≠ 0 → (setI (beginR C (C.1 0 1 0 0) b y l g d) 0 1 0 0 ((C.1 0 1 0 0) + 1)).1 k f i j = (beginR C (C.1 0 1 0 0) b y l g d).1 k f i j := fun k f i j hk => by simp [setI_1, hk]
  have s01 : (setI (beginR C (C.1 0 1 0 0) b y l g d) 0 1 0 0 ((C.1 0 1 0 0) + 1)).1 0 1 0 0 = (C.1 0 1 0 0) + 1 := by simp [setI_1]
  have s0 : ∀ f, f ≠ 1 → (setI (beginR C (C.1 0 1 0 0) b y l g d) 0 1 0 0 ((C.1 0 1 0 0) + 1)).1 0 f 0 0 = C.1 0 f 0 0 := fun f hf => by rw [setI_1, if_neg (by omega), bO 0 (by decide) (by decide)]
  have reB : ∀ i, RE (beginR C (C.1 0 1 0 0) b y l g d) (setI (beginR C (C.1 0 1 0 0) b y l g d) 0 1 0 0 ((C.1 0 1 0 0) + 1)) i := fun i k f j k0 _ => ⟨s16 k f i j (by omega), rfl⟩
  refine h.one (r := (C.1 0 1 0 0)) rc.1 (by rw [s01]; omega) (by rw [s01]; omega) (fun i i0 i1 i2 => by rw [s01] at i1; omega) (s0 2 (by decide)) (s0 3 (by decide)) (fun i j => by rw [s16 _ _ _ _ (by decide), bO 4 (by decide) (by decide)]) (fun i hi => (beginR_re hi).tr (reB i)) ((RD.keepB rf).cong (reB _)) ?_ ?_ ?_ ?_ ?_ ?_ ?_
  · rw [s16 _ _ _ _ (by decide), s16 _ _ _ _ (by decide), s16 _ _ _ _ (by decide), b16 3, b16 4, b16 5]
    simp
    rw [rf.cold]
    exact ⟨g0, ⟨hd.1, by omega⟩, Or.inl rfl⟩
  · rw [a10, a40 11 (by decide), a40 12 (by decide), s01, ee.1]
    exact ⟨rfl, rfl, rfl⟩
  · intro i hi k k0 k1
    rcases (show k = 41 ∨ k = 42 ∨ k = 43 ∨ k = 44 ∨ k = 45 ∨ 46 ≤ k by omega) with z | z | z | z | z | z
    · rw [z, a41, if_neg (by omega)]
    · rw [z, a42, if_neg (by omega)]
    · rw [z, a43, if_neg (by omega)]
    · rw [z, a44, if_neg (by omega)]
    · rw [z, a45, if_neg (by omega)]
    · exact aO k z 0 0 i
  · rw [a41, a42, a43, a44, a45, aO 46 (by decide), aO 47 (by decide), if_pos ee.1.symm, if_pos ee.1.symm, if_pos ee.1.symm, if_pos ee.1.symm, if_pos ee.1.symm, mf.1, mf.2, s16 _ _ _ _ (by decide), s16 _ _ _ _ (by decide), s16 _ _ _ _ (by decide), s16 _ _ _ _ (by decide), s16 _ _ _ _ (by decide), s16 _ _ _ _ (by decide), s16 _ _ _ _ (by decide), b16 0, b16 1, b16 2, b16 3, b16 4, b16 5, b16 6]
    simp
    exact ⟨rf.cold.symm, rf.fc.symm⟩
  · intro j _
    rw [aO 48 (by decide), aO 50 (by decide), aL]
    exact ⟨rfl, rfl, rfl⟩
  · intro k k0 k1
    rw [s16 _ _ _ _ (by decide), b16 6] at k1
    simp at k1
    rw [rf.fc] at k1
    omega
  · intro k k0 k1
    rw [aO 50 (by decide), s16 _ _ _ _ (by decide), bO 19 (by decide) (by decide)]
    exact h.fs _ k rc.1 hc k0 k1
theorem RelR.copyK {C C' M M' : Mem} {r : Int} (h : RelR C M) (r0 : 0 ≤ r) (r1 : r < (C.1 0 1 0 0)) (hc : (C.1 0 1 0 0) < 12)
    (hC : ∃ M2, CpR (beginR C (C.1 0 1 0 0) 1 (C.1 0 2 0 0) (C.1 16 2 r 0) ((C.1 16 3 r 0) + 1) 0) (C.1 0 1 0 0) r (C.1 16 6 r 0) M2 ∧ C' = setI M2 0 1 0 0 ((C.1 0 1 0 0) + 1)) (hM : CpM (cpB M r) (C.1 0 1 0 0) r 60 M') : RelR C' M' := by
  obtain ⟨M2, ⟨hx, hre, hdd, h6, h5, hj⟩, rfl⟩ := hC
  have rc := h.rc
  have yr := h.yr
  have hd := h.rd r r0 r1
  have fb := hd.fc
  have rf := h.rf (C.1 0 1 0 0) (Int.le_refl _) hc
  have mf := h.mf (C.1 0 1 0 0) (Int.le_refl _) hc
  have ee := h.e
  have mi := h.mi r r0 r1
  have gn := h.gn r r0 r1
  obtain ⟨b16, bO, bL⟩ := beginR_at (C := C) (r := (C.1 0 1 0 0)) (b := 1) (y := (C.1 0 2 0 0)) (l := (C.1 16 2 r 0)) (g := (C.1 16 3 r 0) + 1) (d := 0)
  obtain ⟨a41, a42, a43, a44, a45, aO, a10, a40, aL⟩ := addsM_at (M := M) (b := 1) (y := (M.1 40 12 0 0)) (l := (M.1 43 0 0 r)) (g := (M.1 44 0 0 r) + 1) (d := 0)
  obtain ⟨k1, k2, k3⟩ := hM
  have B : ∀ (k f : Nat) (i j : Int), k ≠ 47 → (cpB M r).1 k f i j = (addsM M 1 (M.1 40 12 0 0) (M.1 43 0 0 r) ((M.1 44 0 0 r) + 1) 0).1 k f i j := fun k f i j hk => by simp [cpB, setI_1, hk]
  have B47 : ∀ i, (cpB M r).1 47 0 0 i = if i = (M.1 40 10 0 0) then (M.1 47 0 0 r) else M.1 47 0 0 i := fun i => by
    unfold cpB
    rw [setI_1]
    by_cases e : i = (M.1 40 10 0 0)
    · rw [if_pos ⟨rfl, rfl, rfl, e⟩, if_pos e]
    · rw [if_neg (fun q => e q.2.2.2), if_neg e, aO 47 (by decide)]
  have BL : (cpB M r).2 = M.2 := rfl
  have mk_ : ∀ (k : Nat), k ≠ 48 → k ≠ 49 → k ≠ 50 → ∀ f i j, M'.1 k f i j = (cpB M r).1 k f i j := fun k h1 h2 h3 f i j => k1.i k f i j (by simp [h1, h2, h3])
  have s16 : ∀ (k f : Nat) (i j : Int), k ≠ 0 → (setI M2 0 1 0 0 ((C.1 0 1 0 0) + 1)).1 k f i j = M2.1 k f i j := fun k f i j hk => by simp [setI_1, hk]
  have s01 : (setI M2 0 1 0 0 ((C.1 0 1 0 0) + 1)).1 0 1 0 0 = (C.1 0 1 0 0) + 1 := by simp [setI_1]
  have s0 : ∀ f, f ≠ 1 → (setI M2 0 1 0 0 ((C.1 0 1 0 0) + 1)).1 0 f 0 0 = C.1 0 f 0 0 := fun f hf => by rw [setI_1, if_neg (by omega), hx.i 0 f 0 0 rfl, bO 0 (by decide) (by decide)]
  have reB : ∀ i, RE M2 (setI M2 0 1 0 0 ((C.1 0 1 0 0) + 1)) i := fun i k f j k0 _ => ⟨s16 k f i j (by omega), rfl⟩
  have hne : r ≠ (C.1 0 1 0 0) := by omega
  refine h.one (r := (C.1 0 1 0 0)) rc.1 (by rw [s01]; omega) (by rw [s01]; omega) (fun i i0 i1 i2 => by rw [s01] at i1; omega) (s0 2 (by decide)) (s0 3 (by decide)) (fun i j => by rw [s16 _ _ _ _ (by decide), hx.i 4 0 i j rfl, bO 4 (by decide) (by decide)]) (fun i hi => ((beginR_re hi).tr (hre i hi)).tr (reB i)) (hdd.cong (reB _)) ?_ ?_ ?_ ?_ ?_ ?_ ?_
  · rw [s16 _ _ _ _ (by decide), s16 _ _ _ _ (by decide), s16 _ _ _ _ (by decide), h5 3 (by decide), h5 4 (by decide), h5 5 (by decide), b16 3, b16 4, b16 5]
    simp
    rw [rf.cold]
    exact ⟨by omega, by omega, Or.inl rfl⟩
  · rw [mk_ 40 (by decide) (by decide) (by decide), mk_ 40 (by decide) (by decide) (by decide), mk_ 40 (by decide) (by decide) (by decide), B _ _ _ _ (by decide), B _ _ _ _ (by decide), B _ _ _ _ (by decide), a10, a40 11 (by decide), a40 12 (by decide), s01, ee.1]
    exact ⟨rfl, rfl, rfl⟩
  · intro i hi k k0 k1'
    rw [mk_ k (by omega) (by omega) (by omega)]
    by_cases e : k = 47
    · rw [e, B47, if_neg (by omega)]
    · rw [B _ _ _ _ e]
      rcases (show k = 41 ∨ k = 42 ∨ k = 43 ∨ k = 44 ∨ k = 45 ∨ 46 ≤ k by omega) with z | z | z | z | z | z
      · rw [z, a41, if_neg (by omega)]
      · rw [z, a42, if_neg (by omega)]
      · rw [z, a43, if_neg (by omega)]
      · rw [z, a44, if_neg (by omega)]
      · rw [z, a45, if_neg (by omega)]
      · exact aO k z 0 0 i
  · rw [mk_ 41 (by decide) (by decide) (by decide), mk_ 42 (by decide) (by decide) (by decide), mk_ 43 (by decide) (by decide) (by decide), mk_ 44 (by decide) (by decide) (by decide), mk_ 45 (by decide) (by decide) (by decide), mk_ 46 (by decide) (by decide) (by decide), mk_ 47 (by decide) (by decide) (by decide)]
    rw [B 41 _ _ _ (by decide), B 42 _ _ _ (by decide), B 43 _ _ _ (by decide), B 44 _ _ _ (by decide), B 45 _ _ _ (by decide), B 46 _ _ _ (by decide), B47, a41, a42, a43, a44, a45, aO 46 (by decide), if_pos ee.1.symm, if_pos ee.1.symm, if_pos ee.1.symm, if_pos ee.1.symm, if_pos ee.1.symm, if_pos ee.1.symm, mf.1]
    rw [s16 _ _ _ _ (by decide), s16 _ _ _ _ (by decide), s16 _ _ _ _ (by decide), s16 _ _ _ _ (by decide), s16 _ _ _ _ (by decide), s16 _ _ _ _ (by decide), s16 _ _ _ _ (by decide), h5 0 (by decide), h5 1 (by decide), h5 2 (by decide), h5 3 (by decide), h5 4 (by decide), h5 5 (by decide), h6, b16 0, b16 1, b16 2, b16 3, b16 4, b16 5]
    simp
    exact ⟨ee.2.2, mi.2.2.1, mi.2.2.2.1, rf.cold.symm, mi.2.2.2.2.2.2⟩
  · intro j hj
    obtain ⟨q1, q2, q3⟩ := k2 j hj
    rw [q1, q2, q3, B _ _ _ _ (by decide), B _ _ _ _ (by decide), BL, aO 48 (by decide), aO 50 (by decide)]
    exact ⟨rfl, rfl, rfl⟩
  · intro k k0 k1'
    rw [s16 _ _ _ _ (by decide), h6] at k1'
    obtain ⟨q1, q2, q3⟩ := k3 k k0 (by omega)
    obtain ⟨j1, j2, j3⟩ := hj k k0 k1'
    rw [q1, q2, B _ _ _ _ (by decide), BL, aO 48 (by decide), s16 _ _ _ _ (by decide), j1, bO 17 (by decide) (by decide)]
    refine ⟨(h.fr r k r0 r1 k0 k1').1, (h.fr r k r0 r1 k0 k1').2.trans ?_⟩
    show _ = M2.2 18 0 (C.1 0 1 0 0) k
    rw [j2, bL]
  · intro k k0 k1'
    obtain ⟨q1, q2, q3⟩ := k3 k k0 k1'
    rw [q3, B _ _ _ _ (by decide), aO 50 (by decide), h.fs r k r0 (by omega) k0 k1', s16 _ _ _ _ (by decide)]
    by_cases e : k < (C.1 16 6 r 0)
    · rw [(hj k k0 e).2.2, bO 19 (by decide) (by decide)]
    · rw [hd.s0 k (by omega) k1', hdd.s0 k (by rw [h6]; omega) k1']
theorem RelR.passK {C C' M M' : Mem} {n : Int} (h : RelR C M) (hn : 1 ≤ n ∧ n ≤ 100) (hy : (C.1 0 2 0 0) + n ≤ 2200) (hC : PsR C n (C.1 0 1 0 0) C') (hM : PsM C (setI (setI M 40 46 0 0 0) 40 12 0 0 ((C.1 0 2 0 0) + n)) n (C.1 0 1 0 0) M') : RelR C' M' := by
  obtain ⟨p1, p2, p3, p4, p5⟩ := hC
  obtain ⟨q1, q2, q3⟩ := hM
  have rc := h.rc
  have yr := h.yr
  have ee := h.e
  have c1 := p3 1 (by decide)
  have c3 := p3 3 (by decide)
  have eO : ∀ (k : Nat), k ≠ 0 → k ≠ 16 → ∀ f i j, C'.1 k f i j = C.1 k f i j ∧ C'.2 k f i j = C.2 k f i j := fun k h1 h2 f i j => p1 k f i j (by simp [h1, h2])
  have mO : ∀ (k : Nat), k ≠ 45 → ∀ f i j, M'.1 k f i j = (setI (setI M 40 46 0 0 0) 40 12 0 0 ((C.1 0 2 0 0) + n)).1 k f i j := fun k h1 f i j => q1.i k f i j (by simp [h1])
  have mL : ∀ (k : Nat), k ≠ 45 → ∀ f i j, M'.2 k f i j = M.2 k f i j := fun k h1 f i j => q1.l k f i j (by simp [h1])
  have m41 : ∀ (k : Nat), k ≠ 40 → k ≠ 45 → ∀ f i j, M'.1 k f i j = M.1 k f i j := fun k h1 h2 f i j => by rw [mO k h2]; simp [setI_1, h1]
  have d : ∀ i, 0 ≤ i → i < (C.1 0 1 0 0) → (C'.1 16 4 i 0) = (C.1 16 4 i 0) + n * yearly C i := fun i i0 i1 => by rw [p5, if_pos ⟨i0, i1⟩]
  refine ⟨by rw [c1]; exact rc, by rw [p2]; omega, by rw [c3]; exact h.tl, ?_, ?_, ?_, ?_, ?_, ?_, ?_, ?_, ?_⟩
  · intro i i0 i1
    rw [c1] at i1
    exact (h.rd i i0 i1).cg (fun f hf => p4 f i (by omega)) (fun k k0 _ j => (eO k (by omega) (by omega) 0 i j).1)
  · intro i i0 i1
    rw [c1] at i1
    have gn := h.gn i i0 i1
    have yb := yearly_b C i
    have nb : 0 ≤ n * yearly C i ∧ n * yearly C i ≤ 3 * n := by
      rcases (show yearly C i = 1 ∨ yearly C i = 2 ∨ yearly C i = 3 by omega) with z | z | z <;> rw [z] <;> omega
    rw [p4 3 i (by decide), p4 5 i (by decide), d i i0 i1, p2]
    exact ⟨gn.1, by omega, gn.2.2⟩
  · intro i i0 i1
    rw [c1] at i0
    have rf := h.rf i i0 i1
    unfold RF at rf ⊢
    rw [p4 6 i (by decide), p4 7 i (by decide), p4 5 i (by decide)]
    exact ⟨rf.1, rf.2.1, rf.2.2.1, fun j j0 j1 => by rw [(eO 19 (by decide) (by decide) 0 i j).1]; exact rf.2.2.2.1 j j0 j1, fun j j0 j1 => by rw [(eO 21 (by decide) (by decide) 0 i j).1]; exact rf.2.2.2.2 j j0 j1⟩
  · exact ⟨fun j => by rw [(eO 4 (by decide) (by decide) 0 0 j).1]; exact h.bz.1 j, fun i => by rw [(eO 4 (by decide) (by decide) 0 i 0).1]; exact h.bz.2 i⟩
  · rw [mO 40 (by decide), mO 40 (by decide), mO 40 (by decide), c1, c3, p2]
    simp [setI_1]
    exact ⟨ee.1, ee.2.1⟩
  · intro i i0 i1
    rw [c1] at i1
    have mi := h.mi i i0 i1
    rw [m41 41 (by decide) (by decide), m41 42 (by decide) (by decide), m41 43 (by decide) (by decide), m41 44 (by decide) (by decide), m41 46 (by decide) (by decide), m41 47 (by decide) (by decide), q3 i i0 i1, p4 0 i (by decide), p4 1 i (by decide), p4 2 i (by decide), p4 3 i (by decide), p4 5 i (by decide), p4 6 i (by decide), d i i0 i1]
    exact ⟨mi.1, mi.2.1, mi.2.2.1, mi.2.2.2.1, rfl, mi.2.2.2.2.2⟩
  · intro i i0 i1
    rw [c1] at i0
    rw [m41 46 (by decide) (by decide), m41 47 (by decide) (by decide)]
    exact h.mf i i0 i1
  · intro i k i0 i1 k0 k1
    rw [c1] at i1
    rw [p4 6 i (by decide)] at k1
    rw [m41 48 (by decide) (by decide), mL 49 (by decide), (eO 17 (by decide) (by decide) 0 i k).1, (eO 18 (by decide) (by decide) 0 i k).2]
    exact h.fr i k i0 i1 k0 k1
  · intro i k i0 i1 k0 k1
    rw [m41 50 (by decide) (by decide), (eO 19 (by decide) (by decide) 0 i k).1]
    exact h.fs i k i0 i1 k0 k1
theorem RelR.bzK {C C' M : Mem} (h : RelR C M) (hE : Ex (fun k => k == 4) C C') (hz : Bz C') : RelR C' M := by
  have eO : ∀ (k : Nat), k ≠ 4 → ∀ f i j, C'.1 k f i j = C.1 k f i j ∧ C'.2 k f i j = C.2 k f i j := fun k h1 f i j => hE k f i j (by simp [h1])
  have re : ∀ i, RE C C' i := fun i k f j k0 _ => eO k (by omega) f i j
  obtain ⟨h1, h2, h3, h4, h5, h6, h7, h8, h9, h10, h11, h12⟩ := h
  have a0 : ∀ f, C'.1 0 f 0 0 = C.1 0 f 0 0 := fun f => (eO 0 (by decide) f 0 0).1
  have a16 : ∀ f i, C'.1 16 f i 0 = C.1 16 f i 0 := fun f i => (eO 16 (by decide) f i 0).1
  refine ⟨by rw [a0]; exact h1, by rw [a0]; exact h2, by rw [a0]; exact h3, ?_, ?_, ?_, hz, ?_, ?_, ?_, ?_, ?_⟩
  · rw [a0]; exact fun i i0 i1 => (h4 i i0 i1).cong (re i)
  · simp only [a0, a16]; exact h5
  · rw [a0]; exact fun i i0 i1 => (h6 i i0 i1).cong (re i)
  · simp only [a0]; exact h8
  · simp only [a0, a16]; exact h9
  · simp only [a0]; exact h10
  · intro i k i0 i1 k0 k1
    rw [a0] at i1
    rw [a16] at k1
    rw [(eO 17 (by decide) 0 i k).1, (eO 18 (by decide) 0 i k).2]
    exact h11 i k i0 i1 k0 k1
  · intro i k i0 i1 k0 k1
    rw [(eO 19 (by decide) 0 i k).1]
    exact h12 i k i0 i1 k0 k1
