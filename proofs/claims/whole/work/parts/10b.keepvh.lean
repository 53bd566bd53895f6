theorem RelV.up {C M : Mem} {n : Int} (h : RelV n C M) : RelV (n + 1) C M := by
  obtain ⟨h1, h2, h3, h4, h5, h6, h7, h8, h9⟩ := h
  exact ⟨h1, h2, fun v a b => by have := h3 v a b; omega, h4, h5, h6, h7, h8, h9⟩
theorem RelK.up {C M : Mem} {n : Int} (h : RelK n C M) : RelK (n + 1) C M := by
  obtain ⟨h1, h2, h3, h4, h5, h6⟩ := h
  exact ⟨h1, by omega, fun v a b => by have := h3 v a b; omega, h4, h5, h6⟩
theorem verM_at {M : Mem} {l y : Int} : (∀ i, (verM M l y).1 52 0 0 i = if i = (M.1 40 22 0 0) then l else M.1 52 0 0 i) ∧ (∀ i, (verM M l y).1 53 0 0 i = if i = (M.1 40 22 0 0) then y else M.1 53 0 0 i) ∧ (∀ k, k ≠ 40 → k ≠ 52 → k ≠ 53 → ∀ f i j, (verM M l y).1 k f i j = M.1 k f i j) ∧ (((verM M l y)).1 40 22 0 0) = (M.1 40 22 0 0) + 1 ∧ (∀ f, f ≠ 22 → (verM M l y).1 40 f 0 0 = M.1 40 f 0 0) := by
  unfold verM
  refine ⟨fun i => ?_, fun i => ?_, fun k h1 h2 h3 f i j => ?_, ?_, fun f hf => ?_⟩
  · simp [setI_1]
  · simp [setI_1]
  · simp [setI_1, h1, h2, h3]
  · simp [setI_1]
  · simp [setI_1, hf]
def verC (C : Mem) (l y : Int) : Mem := setI (setI (setI C 22 0 (C.1 0 6 0 0) 0 l) 22 1 (C.1 0 6 0 0) 0 y) 0 6 0 0 ((C.1 0 6 0 0) + 1)
theorem verC_at {C : Mem} {l y : Int} : (∀ f i, (verC C l y).1 22 f i 0 = if i = (C.1 0 6 0 0) ∧ f = 0 then l else if i = (C.1 0 6 0 0) ∧ f = 1 then y else C.1 22 f i 0) ∧ (∀ k, k ≠ 0 → k ≠ 22 → ∀ f i j, (verC C l y).1 k f i j = C.1 k f i j) ∧ (∀ f, f ≠ 6 → (verC C l y).1 0 f 0 0 = C.1 0 f 0 0) ∧ (((verC C l y)).1 0 6 0 0) = (C.1 0 6 0 0) + 1 ∧ (verC C l y).2 = C.2 := by
  unfold verC
  refine ⟨fun f i => ?_, fun k h1 h2 f i j => ?_, fun f hf => ?_, ?_, rfl⟩
  · simp only [setI_1]
    by_cases e : i = (C.1 0 6 0 0)
    · by_cases f0 : f = 0
      · subst f0; simp [e]
      · by_cases f1 : f = 1
        · subst f1; simp [e]
        · simp [e, f0, f1]
    · simp [e]
  · simp [setI_1, h1, h2]
  · simp [setI_1, hf]
  · simp [setI_1]
theorem RelV.versionK {C M : Mem} {n l y : Int} (h : RelV n C M) (hr : 0 ≤ (C.1 0 7 0 0)) (hc : (C.1 0 6 0 0) < 6) : RelV n (verC C l y) (verM M l y) := by
  obtain ⟨c22, cO, c0, c6, -⟩ := verC_at (C := C) (l := l) (y := y)
  obtain ⟨m52, m53, mO, m22, m40⟩ := verM_at (M := M) (l := l) (y := y)
  have vc := h.vc
  have he := h.e
  have hn := h.new (C.1 0 6 0 0) (Int.le_refl _) hc
  have mn := h.mn (C.1 0 6 0 0) (Int.le_refl _) hc
  have cg : ∀ f i, 2 ≤ f → (verC C l y).1 22 f i 0 = C.1 22 f i 0 := fun f i hf => by rw [c22, if_neg (by omega), if_neg (by omega)]
  have cn : ∀ f i, i ≠ (C.1 0 6 0 0) → (verC C l y).1 22 f i 0 = C.1 22 f i 0 := fun f i hi => by rw [c22, if_neg (fun q => hi q.1), if_neg (fun q => hi q.1)]
  have c7 := c0 7 (by decide)
  refine ⟨by rw [c6]; omega, ?_, ?_, ?_, ?_, ?_, ?_, ?_, ?_⟩
  · intro u u0 u1
    rw [c6] at u1
    by_cases e : u = (C.1 0 6 0 0)
    · subst e
      refine ⟨by rw [cg 3 _ (by decide), hn.2.1]; decide, fun s a b => ?_, ?_, ?_, fun k a b => ?_, ?_, fun k a b => ?_⟩
      · rw [cg 3 _ (by decide), hn.2.1] at b; omega
      · rw [cg 4 _ (by decide), cg 3 _ (by decide), hn.2.1, hn.2.2.1, sm_0 _ (Int.le_refl _)]; decide
      · rw [cg 8 _ (by decide), hn.2.2.2.1, c7]; omega
      · rw [cg 8 _ (by decide), hn.2.2.2.1] at b; omega
      · rw [cg 2 _ (by decide), hn.1]; decide
      · rw [cO 30 (by decide) (by decide)]; exact Or.inl (hn.2.2.2.2 k a b)
    · refine (h.ok u u0 (by omega)).cg (fun k f j k0 k1 => ?_) (by rw [c7]; exact Int.le_refl _)
      by_cases z : k = 22
      · subst z
        unfold verC
        simp [setI_1, e]
      · exact cO k (by omega) z f u j
  · intro u u0 u1
    rw [cg 2 _ (by decide)]; exact h.pn u u0 u1
  · intro u u0 u1
    rw [c6] at u0
    rw [cg 2 _ (by decide), cg 3 _ (by decide), cg 4 _ (by decide), cg 8 _ (by decide)]
    have q := h.new u (by omega) u1
    exact ⟨q.1, q.2.1, q.2.2.1, q.2.2.2.1, fun k a b => by rw [cO 30 (by decide) (by decide)]; exact q.2.2.2.2 k a b⟩
  · rw [m22, c6, he]
  · intro u u0 u1
    rw [c6] at u1
    rw [m52, m53, mO 54 (by decide) (by decide) (by decide), mO 55 (by decide) (by decide) (by decide), cg 2 _ (by decide), cg 3 _ (by decide)]
    by_cases e : u = (C.1 0 6 0 0)
    · rw [if_pos (by omega), if_pos (by omega), e, c22, c22, if_pos ⟨rfl, rfl⟩, if_neg (by omega), if_pos ⟨rfl, rfl⟩, mn.1, mn.2, hn.1, hn.2.1]
      exact ⟨rfl, rfl, rfl, rfl⟩
    · rw [if_neg (by omega), if_neg (by omega), cn 0 u e, cn 1 u e]; exact h.mv u u0 (by omega)
  · intro u u0 u1
    rw [c6] at u0
    rw [mO 54 (by decide) (by decide) (by decide), mO 55 (by decide) (by decide) (by decide)]
    exact h.mn u (by omega) u1
  · intro u s u0 u1 s0 s1
    rw [c6] at u1
    rw [cg 3 _ (by decide)] at s1
    rw [mO 56 (by decide) (by decide) (by decide), mO 57 (by decide) (by decide) (by decide), mO 58 (by decide) (by decide) (by decide), cO 23 (by decide) (by decide), cO 24 (by decide) (by decide), cO 25 (by decide) (by decide)]
    by_cases e : u = (C.1 0 6 0 0)
    · rw [e, hn.2.1] at s1; omega
    · exact h.sh u s u0 (by omega) s0 s1
  · intro u k u0 u1 k0 k1
    rw [mO 59 (by decide) (by decide) (by decide), cO 30 (by decide) (by decide)]
    exact h.al u k u0 u1 k0 k1
theorem RelH.versionK {C M : Mem} {l y : Int} (h : RelH C M) : RelH (verC C l y) (verM M l y) := by
  obtain ⟨c22, cO, c0, c6, -⟩ := verC_at (C := C) (l := l) (y := y)
  obtain ⟨m52, m53, mO, m22, m40⟩ := verM_at (M := M) (l := l) (y := y)
  have c7 := c0 7 (by decide)
  have m31 := m40 31 (by decide)
  have c8 : ∀ i, (verC C l y).1 22 8 i 0 = C.1 22 8 i 0 := fun i => by rw [c22, if_neg (by omega), if_neg (by omega)]
  have a26 := cO 26 (by decide) (by decide)
  have a27 := cO 27 (by decide) (by decide)
  have a28 := cO 28 (by decide) (by decide)
  have a29 := cO 29 (by decide) (by decide)
  have b62 := mO 62 (by decide) (by decide) (by decide)
  have b63 := mO 63 (by decide) (by decide) (by decide)
  have b64 := mO 64 (by decide) (by decide) (by decide)
  have b65 := mO 65 (by decide) (by decide) (by decide)
  have b66 := mO 66 (by decide) (by decide) (by decide)
  obtain ⟨h1, h2, h3, h4, h5⟩ := h
  refine ⟨?_, ?_, ?_, ?_, ?_⟩ <;> simp only [c7, m31, c8, c6, a26, a27, a28, a29, b62, b63, b64, b65, b66]
  · exact h1
  · exact h2
  · exact h3
  · intro g g0 g1
    obtain ⟨x, z⟩ := h4 g g0 g1
    exact ⟨⟨x.1, by omega⟩, z⟩
  · exact h5
theorem RelV.proofK {C M : Mem} {n v : Int} (h : RelV n C M) (hn : n ≤ 1000) (v0 : 0 ≤ v) (v1 : v < (C.1 0 6 0 0)) : RelV (n + 1) (setI C 22 2 v 0 ((C.1 22 2 v 0) + 1)) (setI M 54 0 0 v ((C.1 22 2 v 0) + 1)) := by
  have c22 : ∀ f i, (setI C 22 2 v 0 ((C.1 22 2 v 0) + 1)).1 22 f i 0 = if f = 2 ∧ i = v then (C.1 22 2 v 0) + 1 else C.1 22 f i 0 := fun f i => by simp [setI_1]
  have cO : ∀ k, k ≠ 22 → ∀ f i j, (setI C 22 2 v 0 ((C.1 22 2 v 0) + 1)).1 k f i j = C.1 k f i j := fun k hk f i j => by simp [setI_1, hk]
  have cg : ∀ f i, f ≠ 2 → (setI C 22 2 v 0 ((C.1 22 2 v 0) + 1)).1 22 f i 0 = C.1 22 f i 0 := fun f i hf => by rw [c22, if_neg (fun q => hf q.1)]
  have mO : ∀ k, k ≠ 54 → ∀ f i j, (setI M 54 0 0 v ((C.1 22 2 v 0) + 1)).1 k f i j = M.1 k f i j := fun k hk f i j => by simp [setI_1, hk]
  have m54 : ∀ i, (setI M 54 0 0 v ((C.1 22 2 v 0) + 1)).1 54 0 0 i = if i = v then (C.1 22 2 v 0) + 1 else M.1 54 0 0 i := fun i => by simp [setI_1]
  have vc := h.vc
  have pv := h.pn v v0 (by omega)
  have c6 := cO 0 (by decide) 6 0 0
  have c7 := cO 0 (by decide) 7 0 0
  refine ⟨by rw [c6]; exact vc, ?_, ?_, ?_, ?_, ?_, ?_, ?_, ?_⟩
  · intro u u0 u1
    rw [c6] at u1
    have ok := h.ok u u0 u1
    unfold VOk at ok ⊢
    have e23 : ∀ j, (setI C 22 2 v 0 ((C.1 22 2 v 0) + 1)).1 23 0 u j = C.1 23 0 u j := fun j => cO 23 (by decide) 0 u j
    have e24 : ∀ j, (setI C 22 2 v 0 ((C.1 22 2 v 0) + 1)).1 24 0 u j = C.1 24 0 u j := fun j => cO 24 (by decide) 0 u j
    have e25 : ∀ j, (setI C 22 2 v 0 ((C.1 22 2 v 0) + 1)).1 25 0 u j = C.1 25 0 u j := fun j => cO 25 (by decide) 0 u j
    have e26 : ∀ j, (setI C 22 2 v 0 ((C.1 22 2 v 0) + 1)).1 26 0 u j = C.1 26 0 u j := fun j => cO 26 (by decide) 0 u j
    have e30 : ∀ j, (setI C 22 2 v 0 ((C.1 22 2 v 0) + 1)).1 30 0 u j = C.1 30 0 u j := fun j => cO 30 (by decide) 0 u j
    simp only [cg 3 u (by decide), cg 4 u (by decide), cg 8 u (by decide), c7, e23, e24, e25, e26, e30]
    refine ⟨ok.1, ok.2.1, ok.2.2.1, ok.2.2.2.1, ok.2.2.2.2.1, ?_, ok.2.2.2.2.2.2⟩
    rw [c22]
    by_cases e : u = v
    · rw [if_pos ⟨rfl, e⟩]; omega
    · rw [if_neg (fun q => e q.2)]; exact ok.2.2.2.2.2.1
  · intro u u0 u1
    have := h.pn u u0 u1
    rw [c22]
    by_cases e : u = v
    · rw [if_pos ⟨rfl, e⟩]; omega
    · rw [if_neg (fun q => e q.2)]; omega
  · intro u u0 u1
    rw [c6] at u0
    rw [c22, if_neg (by omega), cg 3 _ (by decide), cg 4 _ (by decide), cg 8 _ (by decide)]
    have q := h.new u u0 u1
    exact ⟨q.1, q.2.1, q.2.2.1, q.2.2.2.1, fun k a b => by rw [cO 30 (by decide)]; exact q.2.2.2.2 k a b⟩
  · rw [mO 40 (by decide), c6]; exact h.e
  · intro u u0 u1
    rw [c6] at u1
    have q := h.mv u u0 u1
    rw [mO 52 (by decide), mO 53 (by decide), mO 55 (by decide), m54, cg 0 _ (by decide), cg 1 _ (by decide), cg 3 _ (by decide), c22]
    by_cases e : u = v
    · rw [if_pos e, if_pos ⟨rfl, e⟩]; exact ⟨q.1, q.2.1, rfl, q.2.2.2⟩
    · rw [if_neg e, if_neg (fun z => e z.2)]; exact q
  · intro u u0 u1
    rw [c6] at u0
    rw [m54, if_neg (by omega), mO 55 (by decide)]; exact h.mn u u0 u1
  · intro u s u0 u1 s0 s1
    rw [c6] at u1
    rw [cg 3 _ (by decide)] at s1
    rw [mO 56 (by decide), mO 57 (by decide), mO 58 (by decide), cO 23 (by decide), cO 24 (by decide), cO 25 (by decide)]
    exact h.sh u s u0 u1 s0 s1
  · intro u k u0 u1 k0 k1
    rw [mO 59 (by decide), cO 30 (by decide)]
    exact h.al u k u0 u1 k0 k1
theorem RelV.speedK {C M : Mem} {n v s x : Int} (h : RelV n C M) (v0 : 0 ≤ v) (v1 : v < (C.1 0 6 0 0)) (s0 : 0 ≤ s) (s1 : s < (C.1 22 3 v 0)) (hx : 8 ≤ x ∧ x ≤ 30) : RelV n (setI C 25 0 v s x) (setI M 58 0 0 (10 * v + s) x) := by
  have c25 : ∀ i j, (setI C 25 0 v s x).1 25 0 i j = if i = v ∧ j = s then x else C.1 25 0 i j := fun i j => by simp [setI_1]
  have cO : ∀ k, k ≠ 25 → ∀ f i j, (setI C 25 0 v s x).1 k f i j = C.1 k f i j := fun k hk f i j => by simp [setI_1, hk]
  have mO : ∀ k, k ≠ 58 → ∀ f i j, (setI M 58 0 0 (10 * v + s) x).1 k f i j = M.1 k f i j := fun k hk f i j => by simp [setI_1, hk]
  have m58 : ∀ i, (setI M 58 0 0 (10 * v + s) x).1 58 0 0 i = if i = 10 * v + s then x else M.1 58 0 0 i := fun i => by simp [setI_1]
  have vc := h.vc
  have sv := (h.ok v v0 v1).1
  have a0 := cO 0 (by decide)
  have a22 := cO 22 (by decide)
  have a23 := cO 23 (by decide)
  have a24 := cO 24 (by decide)
  have a26 := cO 26 (by decide)
  have a30 := cO 30 (by decide)
  refine ⟨by rw [a0]; exact vc, ?_, ?_, ?_, ?_, ?_, ?_, ?_, ?_⟩
  · intro u u0 u1
    rw [a0] at u1
    have ok := h.ok u u0 u1
    unfold VOk at ok ⊢
    simp only [a0, a22, a23, a24, a26, a30]
    refine ⟨ok.1, fun z z0 z1 => ?_, ok.2.2⟩
    rw [c25]
    have q := ok.2.1 z z0 z1
    by_cases e : u = v ∧ z = s
    · rw [if_pos e]; exact ⟨q.1, hx⟩
    · rw [if_neg e]; exact q
  · intro u u0 u1
    rw [a22]; exact h.pn u u0 u1
  · simp only [a0, a22, a30]; exact h.new
  · rw [mO 40 (by decide), a0]; exact h.e
  · intro u u0 u1
    rw [a0] at u1
    rw [mO 52 (by decide), mO 53 (by decide), mO 54 (by decide), mO 55 (by decide), a22, a22, a22, a22]
    exact h.mv u u0 u1
  · intro u u0 u1
    rw [a0] at u0
    rw [mO 54 (by decide), mO 55 (by decide)]; exact h.mn u u0 u1
  · intro u z u0 u1 z0 z1
    rw [a0] at u1
    rw [a22] at z1
    have su := (h.ok u u0 u1).1
    have q := h.sh u z u0 u1 z0 z1
    rw [mO 56 (by decide), mO 57 (by decide), m58, a23, a24, c25]
    by_cases e : u = v ∧ z = s
    · rw [if_pos (by omega), if_pos e]; exact ⟨q.1, q.2.1, rfl⟩
    · rw [if_neg (by omega), if_neg e]; exact q
  · intro u k u0 u1 k0 k1
    rw [mO 59 (by decide), a30]
    exact h.al u k u0 u1 k0 k1
theorem RelV.allowK {C M : Mem} {n v k : Int} {P : Prop} (h : RelV n C M) (v0 : 0 ≤ v) (v1 : v < (C.1 0 6 0 0)) (k0 : 0 ≤ k) (k1 : k < 10) : RelV n (setI C 30 0 v k (bI P)) (setI M 59 0 0 v (vaS (M.1 59 0 0 v) k P)) := by
  have c30 : ∀ i j, (setI C 30 0 v k (bI P)).1 30 0 i j = if i = v ∧ j = k then bI P else C.1 30 0 i j := fun i j => by simp [setI_1]
  have cO : ∀ q, q ≠ 30 → ∀ f i j, (setI C 30 0 v k (bI P)).1 q f i j = C.1 q f i j := fun q hk f i j => by simp [setI_1, hk]
  have mO : ∀ q, q ≠ 59 → ∀ f i j, (setI M 59 0 0 v (vaS (M.1 59 0 0 v) k P)).1 q f i j = M.1 q f i j := fun q hk f i j => by simp [setI_1, hk]
  have m59 : ∀ i, (setI M 59 0 0 v (vaS (M.1 59 0 0 v) k P)).1 59 0 0 i = if i = v then vaS (M.1 59 0 0 v) k P else M.1 59 0 0 i := fun i => by simp [setI_1]
  have vc := h.vc
  have a0 := cO 0 (by decide)
  have a22 := cO 22 (by decide)
  have a23 := cO 23 (by decide)
  have a24 := cO 24 (by decide)
  have a25 := cO 25 (by decide)
  have a26 := cO 26 (by decide)
  refine ⟨by rw [a0]; exact vc, ?_, ?_, ?_, ?_, ?_, ?_, ?_, ?_⟩
  · intro u u0 u1
    rw [a0] at u1
    have ok := h.ok u u0 u1
    unfold VOk at ok ⊢
    simp only [a0, a22, a23, a24, a25, a26]
    refine ⟨ok.1, ok.2.1, ok.2.2.1, ok.2.2.2.1, ok.2.2.2.2.1, ok.2.2.2.2.2.1, fun z z0 z1 => ?_⟩
    rw [c30]
    by_cases e : u = v ∧ z = k
    · rw [if_pos e]; exact bI_01 P
    · rw [if_neg e]; exact ok.2.2.2.2.2.2 z z0 z1
  · intro u u0 u1
    rw [a22]; exact h.pn u u0 u1
  · intro u u0 u1
    rw [a0] at u0
    have q := h.new u u0 u1
    rw [a22, a22, a22, a22]
    exact ⟨q.1, q.2.1, q.2.2.1, q.2.2.2.1, fun z a b => by rw [c30, if_neg (by omega)]; exact q.2.2.2.2 z a b⟩
  · rw [mO 40 (by decide), a0]; exact h.e
  · intro u u0 u1
    rw [a0] at u1
    rw [mO 52 (by decide), mO 53 (by decide), mO 54 (by decide), mO 55 (by decide), a22, a22, a22, a22]
    exact h.mv u u0 u1
  · intro u u0 u1
    rw [a0] at u0
    rw [mO 54 (by decide), mO 55 (by decide)]; exact h.mn u u0 u1
  · intro u z u0 u1 z0 z1
    rw [a0] at u1
    rw [a22] at z1
    rw [mO 56 (by decide), mO 57 (by decide), mO 58 (by decide), a23, a24, a25]
    exact h.sh u z u0 u1 z0 z1
  · intro u z u0 u1 z0 z1
    rw [m59, c30]
    by_cases e : u = v
    · rw [if_pos e, abit_set k0 k1 z0 z1]
      by_cases y : z = k
      · rw [if_pos y, if_pos ⟨e, y⟩]
      · rw [if_neg y, if_neg (fun q => y q.2), e]; exact h.al v z v0 (by omega) z0 z1
    · rw [if_neg e, if_neg (fun q => e q.1)]; exact h.al u z u0 u1 z0 z1
def rgC (C : Mem) (v h l f t : Int) : Mem := setI (addRightM C v h l f t) 0 7 0 0 ((C.1 0 7 0 0) + 1)
theorem rgC_at {C : Mem} {v h l f t : Int} : (∀ g i, (rgC C v h l f t).1 22 g i 0 = if i = v ∧ g = 8 then (C.1 22 8 v 0) + 1 else C.1 22 g i 0) ∧ (∀ i j, (rgC C v h l f t).1 26 0 i j = if i = v ∧ j = (C.1 22 8 v 0) then h else C.1 26 0 i j) ∧ (∀ i j, (rgC C v h l f t).1 27 0 i j = if i = v ∧ j = (C.1 22 8 v 0) then l else C.1 27 0 i j) ∧ (∀ i j, (rgC C v h l f t).1 28 0 i j = if i = v ∧ j = (C.1 22 8 v 0) then f else C.1 28 0 i j) ∧ (∀ i j, (rgC C v h l f t).1 29 0 i j = if i = v ∧ j = (C.1 22 8 v 0) then t else C.1 29 0 i j) ∧ (∀ k, k ≠ 0 → k ≠ 22 → k ≠ 26 → k ≠ 27 → k ≠ 28 → k ≠ 29 → ∀ f' i j, (rgC C v h l f t).1 k f' i j = C.1 k f' i j) ∧ (∀ g, g ≠ 7 → (rgC C v h l f t).1 0 g 0 0 = C.1 0 g 0 0) ∧ (((rgC C v h l f t)).1 0 7 0 0) = (C.1 0 7 0 0) + 1 ∧ (rgC C v h l f t).2 = C.2 := by
  unfold rgC addRightM
  refine ⟨fun g i => ?_, fun i j => ?_, fun i j => ?_, fun i j => ?_, fun i j => ?_, fun k h1 h2 h3 h4 h5 h6 g i j => ?_, fun g hg => ?_, ?_, rfl⟩
  · simp only [setI_1]
    by_cases e : i = v
    · by_cases z : g = 8
      · subst z; simp [e]
      · simp [e, z]
    · simp [e]
  · simp [setI_1]
  · simp [setI_1]
  · simp [setI_1]
  · simp [setI_1]
  · simp [setI_1, h1, h2, h3, h4, h5, h6]
  · simp [setI_1, hg]
  · simp [setI_1]
theorem rgM_at {M : Mem} {v h l f t : Int} : (∀ i, (rgM M v h l f t).1 62 0 0 i = if i = (M.1 40 31 0 0) then v else M.1 62 0 0 i) ∧ (∀ i, (rgM M v h l f t).1 63 0 0 i = if i = (M.1 40 31 0 0) then h else M.1 63 0 0 i) ∧ (∀ i, (rgM M v h l f t).1 64 0 0 i = if i = (M.1 40 31 0 0) then l else M.1 64 0 0 i) ∧ (∀ i, (rgM M v h l f t).1 65 0 0 i = if i = (M.1 40 31 0 0) then f else M.1 65 0 0 i) ∧ (∀ i, (rgM M v h l f t).1 66 0 0 i = if i = (M.1 40 31 0 0) then t else M.1 66 0 0 i) ∧ (((rgM M v h l f t)).1 40 31 0 0) = (M.1 40 31 0 0) + 1 := by
  unfold rgM
  refine ⟨fun i => ?_, fun i => ?_, fun i => ?_, fun i => ?_, fun i => ?_, ?_⟩ <;> simp [setI_1]
theorem RelV.rightK {C M : Mem} {n v h l f t : Int} (hV : RelV n C M) (v0 : 0 ≤ v) (v1 : v < (C.1 0 6 0 0)) (hh : 0 ≤ h ∧ h ≤ 9) : RelV n (rgC C v h l f t) (rgM M v h l f t) := by
  obtain ⟨c22, c26, -, -, -, cO, c0, c7, -⟩ := rgC_at (C := C) (v := v) (h := h) (l := l) (f := f) (t := t)
  have mM : Ag pV_ M (rgM M v h l f t) := by
    unfold rgM
    exact ((((((Ag.rf M).setI rfl).setI rfl).setI rfl).setI rfl).setI rfl).setI rfl
  have h2 : RelV n C (rgM M v h l f t) := hV.ag (Ag.rf C) mM
  have vc := h2.vc
  have c6 := c0 6 (by decide)
  have cg : ∀ g i, g ≠ 8 → (rgC C v h l f t).1 22 g i 0 = C.1 22 g i 0 := fun g i hg => by rw [c22, if_neg (fun q => hg q.2)]
  have a23 := cO 23 (by decide) (by decide) (by decide) (by decide) (by decide) (by decide)
  have a24 := cO 24 (by decide) (by decide) (by decide) (by decide) (by decide) (by decide)
  have a25 := cO 25 (by decide) (by decide) (by decide) (by decide) (by decide) (by decide)
  have a30 := cO 30 (by decide) (by decide) (by decide) (by decide) (by decide) (by decide)
  generalize rgM M v h l f t = M' at h2
  refine ⟨by rw [c6]; exact vc, ?_, ?_, ?_, by rw [c6]; exact h2.e, ?_, ?_, ?_, ?_⟩
  · intro u u0 u1
    rw [c6] at u1
    have ok := h2.ok u u0 u1
    unfold VOk at ok ⊢
    simp only [cg 3 u (by decide), cg 4 u (by decide), cg 2 u (by decide), a23, a24, a25, a30, c7]
    refine ⟨ok.1, ok.2.1, ok.2.2.1, ?_, fun k k0 k1 => ?_, ok.2.2.2.2.2⟩
    · rw [c22]
      have q := ok.2.2.2.1
      by_cases e : u = v
      · subst e; rw [if_pos ⟨rfl, rfl⟩]; omega
      · rw [if_neg (fun z => e z.1)]; omega
    · rw [c22] at k1
      rw [c26]
      by_cases e : u = v ∧ k = (C.1 22 8 v 0)
      · rw [if_pos e]; exact hh
      · rw [if_neg e]
        refine ok.2.2.2.2.1 k k0 ?_
        by_cases z : u = v
        · subst z
          rw [if_pos ⟨rfl, rfl⟩] at k1
          have : k ≠ (C.1 22 8 u 0) := fun y => e ⟨rfl, y⟩
          omega
        · rw [if_neg (fun y => z y.1)] at k1; exact k1
  · intro u u0 u1
    rw [cg 2 _ (by decide)]; exact h2.pn u u0 u1
  · intro u u0 u1
    rw [c6] at u0
    have q := h2.new u u0 u1
    rw [cg 2 _ (by decide), cg 3 _ (by decide), cg 4 _ (by decide), c22, if_neg (by omega)]
    exact ⟨q.1, q.2.1, q.2.2.1, q.2.2.2.1, fun k a b => by rw [a30]; exact q.2.2.2.2 k a b⟩
  · intro u u0 u1
    rw [c6] at u1
    rw [cg 0 _ (by decide), cg 1 _ (by decide), cg 2 _ (by decide), cg 3 _ (by decide)]; exact h2.mv u u0 u1
  · intro u u0 u1
    rw [c6] at u0
    exact h2.mn u u0 u1
  · intro u s u0 u1 s0 s1
    rw [c6] at u1
    rw [cg 3 _ (by decide)] at s1
    rw [a23, a24, a25]
    exact h2.sh u s u0 u1 s0 s1
  · intro u k u0 u1 k0 k1
    rw [a30]; exact h2.al u k u0 u1 k0 k1
theorem RelH.rightK {C M : Mem} {v h l f t : Int} (hH : RelH C M) (v0 : 0 ≤ v) (v1 : v < (C.1 0 6 0 0)) (v2 : (C.1 0 6 0 0) ≤ 6) (hh : 0 ≤ h ∧ h ≤ 9) (hr : (C.1 0 7 0 0) < 40) : RelH (rgC C v h l f t) (rgM M v h l f t) := by
  obtain ⟨c22, c26, c27, c28, c29, cO, c0, c7, -⟩ := rgC_at (C := C) (v := v) (h := h) (l := l) (f := f) (t := t)
  obtain ⟨m62, m63, m64, m65, m66, m31⟩ := rgM_at (M := M) (v := v) (h := h) (l := l) (f := f) (t := t)
  have rc := hH.rc
  have he := hH.e
  rw [he] at m62 m63 m64 m65 m66
  have c6 := c0 6 (by decide)
  have vr : ∀ u, 0 ≤ u → u < 6 → 0 ≤ (C.1 22 8 u 0) := fun u u0 u1 => by
    rw [hH.vr u u0 u1]
    exact sm_nng (fun k _ _ => (bI_b _).1)
  refine ⟨by rw [c7]; omega, by rw [m31, he, c7], ?_, ?_, ?_⟩
  · intro u u0 u1
    rw [c22, c7, sm_s _ rc.1, m62, if_pos rfl]
    have e1 : sm (fun g => bI ((rgM M v h l f t).1 62 0 0 g = u)) 0 (C.1 0 7 0 0) = (C.1 22 8 u 0) := by
      rw [hH.vr u u0 u1]
      refine sm_c (fun k k0 k1 => ?_)
      show bI _ = bI _
      rw [m62, if_neg (by omega)]
    rw [e1]
    by_cases e : u = v
    · subst e; rw [if_pos ⟨rfl, rfl⟩, bI_t rfl]
    · rw [if_neg (fun q => e q.1), bI_f (fun q => e q.symm)]; omega
  · intro g g0 g1
    rw [c7] at g1
    rw [m62, m63, m64, m65, m66, c6]
    by_cases e : g = (C.1 0 7 0 0)
    · rw [if_pos e, if_pos e, if_pos e, if_pos e, if_pos e]
      refine ⟨⟨v0, v1⟩, hh, (C.1 22 8 v 0), vr v v0 (by omega), by rw [c22, if_pos ⟨rfl, rfl⟩]; omega, ?_⟩
      rw [c26, c27, c28, c29, if_pos ⟨rfl, rfl⟩, if_pos ⟨rfl, rfl⟩, if_pos ⟨rfl, rfl⟩, if_pos ⟨rfl, rfl⟩]
      exact ⟨rfl, rfl, rfl, rfl⟩
    · rw [if_neg e, if_neg e, if_neg e, if_neg e, if_neg e]
      obtain ⟨a, b, k, k0, k1, k2⟩ := hH.gv g g0 (by omega)
      refine ⟨a, b, k, k0, ?_, ?_⟩
      · rw [c22]
        by_cases z : (M.1 62 0 0 g) = v
        · rw [if_pos ⟨z, rfl⟩, ← z]; omega
        · rw [if_neg (fun q => z q.1)]; exact k1
      · have hne : ¬ ((M.1 62 0 0 g) = v ∧ k = (C.1 22 8 v 0)) := fun q => by rw [← q.1] at q; omega
        rw [c26, c27, c28, c29, if_neg hne, if_neg hne, if_neg hne, if_neg hne]
        exact k2
  · intro u k u0 u1 k0 k1
    rw [c22] at k1
    rw [c26, c27, c28, c29]
    by_cases e : u = v ∧ k = (C.1 22 8 v 0)
    · refine ⟨(C.1 0 7 0 0), rc.1, by rw [c7]; omega, ?_⟩
      rw [m62, m63, m64, m65, m66, if_pos rfl, if_pos rfl, if_pos rfl, if_pos rfl, if_pos rfl, if_pos e, if_pos e, if_pos e, if_pos e]
      exact ⟨e.1.symm, rfl, rfl, rfl, rfl⟩
    · rw [if_neg e, if_neg e, if_neg e, if_neg e]
      have k2 : k < (C.1 22 8 u 0) := by
        by_cases z : u = v
        · subst z
          rw [if_pos ⟨rfl, rfl⟩] at k1
          have : k ≠ (C.1 22 8 u 0) := fun y => e ⟨rfl, y⟩
          omega
        · rw [if_neg (fun y => z y.1)] at k1; exact k1
      obtain ⟨g, g0, g1, g2, g3⟩ := hH.vg u k u0 u1 k0 k2
      refine ⟨g, g0, by rw [c7]; omega, ?_⟩
      rw [m62, m63, m64, m65, m66, if_neg (by omega), if_neg (by omega), if_neg (by omega), if_neg (by omega), if_neg (by omega)]
      exact ⟨g2, g3⟩
