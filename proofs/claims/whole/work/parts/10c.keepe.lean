theorem RelE.limitK {C M : Mem} {l : Int} (h : RelE C M) (hl : 0 ≤ l ∧ l ≤ 8) : RelE (setI C 10 1 0 0 l) (setI M 40 40 0 0 l) := by
  obtain ⟨h1, h2, h3, h4, h5⟩ := h
  have c0 : (setI C 10 1 0 0 l).1 10 0 0 0 = (C.1 10 0 0 0) := by simp [setI_1]
  have c1 : (setI C 10 1 0 0 l).1 10 1 0 0 = l := by simp [setI_1]
  have c31 : ∀ f i, (setI C 10 1 0 0 l).1 31 f i 0 = C.1 31 f i 0 := fun f i => by simp [setI_1]
  have m39 : (setI M 40 40 0 0 l).1 40 39 0 0 = (M.1 40 39 0 0) := by simp [setI_1]
  have m40 : (setI M 40 40 0 0 l).1 40 40 0 0 = l := by simp [setI_1]
  have mO : ∀ k, k ≠ 40 → ∀ f i j, (setI M 40 40 0 0 l).1 k f i j = M.1 k f i j := fun k hk f i j => by simp [setI_1, hk]
  refine ⟨?_, ?_, ?_, ?_, ?_⟩
  · rw [c0]; exact h1
  · rw [c1]; exact hl
  · rw [c0]; simp only [c31]; exact h3
  · rw [c0, c1, m39, m40]; exact ⟨h4.1, rfl⟩
  · rw [c0]
    simp only [c31, mO 67 (by decide), mO 68 (by decide), mO 69 (by decide), mO 72 (by decide)]
    exact h5
theorem RelE.protectK {C M : Mem} {p : Int} {P : Prop} (h : RelE C M) : RelE (setI C 31 5 p 0 (bI P)) (setI M 72 0 0 p (bI P)) := by
  obtain ⟨h1, h2, h3, h4, h5⟩ := h
  have c10 : ∀ f, (setI C 31 5 p 0 (bI P)).1 10 f 0 0 = C.1 10 f 0 0 := fun f => by simp [setI_1]
  have c31 : ∀ f i, f ≠ 5 → (setI C 31 5 p 0 (bI P)).1 31 f i 0 = C.1 31 f i 0 := fun f i hf => by simp [setI_1, hf]
  have c5 : ∀ i, (setI C 31 5 p 0 (bI P)).1 31 5 i 0 = if i = p then bI P else C.1 31 5 i 0 := fun i => by simp [setI_1]
  have m72 : ∀ i, (setI M 72 0 0 p (bI P)).1 72 0 0 i = if i = p then bI P else M.1 72 0 0 i := fun i => by simp [setI_1]
  have mO : ∀ k, k ≠ 72 → ∀ f i j, (setI M 72 0 0 p (bI P)).1 k f i j = M.1 k f i j := fun k hk f i j => by simp [setI_1, hk]
  refine ⟨by rw [c10]; exact h1, by rw [c10]; exact h2, ?_, ?_, ?_⟩
  · intro k k0 k1
    rw [c10] at k1
    have q := h3 k k0 k1
    rw [c5, c31 1 k (by decide)]
    by_cases e : k = p
    · rw [if_pos e]; exact ⟨bI_01 P, q.2⟩
    · rw [if_neg e]; exact q
  · rw [mO 40 (by decide), mO 40 (by decide), c10, c10]; exact h4
  · intro k k0 k1
    rw [c10] at k1
    have q := h5 k k0 k1
    rw [mO 67 (by decide), mO 68 (by decide), mO 69 (by decide), m72, c5, c31 0 k (by decide), c31 1 k (by decide), c31 2 k (by decide)]
    refine ⟨q.1, q.2.1, q.2.2.1, q.2.2.2.1, q.2.2.2.2.1, ?_⟩
    by_cases e : k = p
    · rw [if_pos e, if_pos e]
    · rw [if_neg e, if_neg e]; exact q.2.2.2.2.2
theorem undoM_at {C : Mem} {c : Int} : (∀ i, (undoM C c).2 31 4 i 0 = if i = (C.1 13 0 0 c) then (C.2 14 0 0 c) else (C.2 31 4 i 0)) ∧ (∀ i, (undoM C c).1 31 7 i 0 = if i = (C.1 13 0 0 c) then (C.1 15 0 0 c) else (C.1 31 7 i 0)) ∧ (∀ i, (undoM C c).1 31 6 i 0 = if i = (C.1 13 0 0 c) then (C.1 31 6 ((C.1 13 0 0 c)) 0) - 1 else (C.1 31 6 i 0)) ∧ (∀ k, k ≠ 31 → ∀ f i j, (undoM C c).1 k f i j = C.1 k f i j ∧ (undoM C c).2 k f i j = C.2 k f i j) ∧ (∀ f i, f ≠ 6 → f ≠ 7 → (undoM C c).1 31 f i 0 = C.1 31 f i 0) ∧ (∀ f i, f ≠ 4 → (undoM C c).2 31 f i 0 = C.2 31 f i 0) := by
  unfold undoM
  refine ⟨fun i => ?_, fun i => ?_, fun i => ?_, fun k hk f i j => ⟨?_, ?_⟩, fun f i h1 h2 => ?_, fun f i h1 => ?_⟩
  · simp [setI_2, setL_2]
  · simp [setI_1, setL_1]
  · simp [setI_1, setL_1]
  · simp [setI_1, setL_1, hk]
  · simp [setI_2, setL_2, hk]
  · simp [setI_1, setL_1, h1, h2]
  · simp [setI_2, setL_2, h1]
theorem tbM_at {M : Mem} {c : Int} : (∀ j, (tbM M c).1 76 0 0 j = if j = c then 1 else (M.1 76 0 0 j)) ∧ (∀ j, (tbM M c).2 71 0 0 j = if j = (M.1 74 0 0 c) then (M.2 75 0 0 c) else (M.2 71 0 0 j)) ∧ (∀ k, k ≠ 76 → ∀ f i j, (tbM M c).1 k f i j = M.1 k f i j) ∧ (∀ k, k ≠ 71 → ∀ f i j, (tbM M c).2 k f i j = M.2 k f i j) := by
  unfold tbM
  refine ⟨fun j => ?_, fun j => ?_, fun k hk f i j => ?_, fun k hk f i j => ?_⟩
  · simp [setI_1, setL_1]
  · simp [setI_2, setL_2]
  · simp [setI_1, setL_1, hk]
  · simp [setI_2, setL_2, hk]
theorem RelE.backK {C M : Mem} {n c : Int} (h : RelE C M) (hK : RelK n C M) (c0 : 0 ≤ c) (c1 : c < (C.1 12 0 0 0)) : RelE (undoM C c) (tbM M c) := by
  obtain ⟨u4, u7, u6, uO, u31, uL⟩ := undoM_at (C := C) (c := c)
  obtain ⟨t76, t71, tO, tL⟩ := tbM_at (M := M) (c := c)
  obtain ⟨p1, p2, p3, p4, p5⟩ := hK.mj c c0 c1
  have a10 := fun f i j => (uO 10 (by decide) f i j).1
  refine ⟨by rw [a10]; exact h.ec, by rw [a10]; exact h.li, ?_, ?_, ?_⟩
  · intro k k0 k1
    rw [a10] at k1
    rw [u31 5 k (by decide) (by decide), u31 1 k (by decide) (by decide)]; exact h.pr k k0 k1
  · rw [tO 40 (by decide), tO 40 (by decide), a10, a10]; exact h.e
  · intro k k0 k1
    rw [a10] at k1
    have q := h.me k k0 k1
    rw [tO 67 (by decide), tO 68 (by decide), tO 69 (by decide), tO 72 (by decide), tL 70 (by decide), t71, u4, u31 0 k (by decide) (by decide), u31 1 k (by decide) (by decide), u31 2 k (by decide) (by decide), u31 5 k (by decide) (by decide), uL 3 k (by decide), p2, p3]
    refine ⟨q.1, q.2.1, q.2.2.1, q.2.2.2.1, ?_, q.2.2.2.2.2⟩
    by_cases e : k = (C.1 13 0 0 c)
    · rw [if_pos e, if_pos e]
    · rw [if_neg e, if_neg e]; exact q.2.2.2.2.1
theorem RelK.backK {C M : Mem} {n c : Int} (h : RelK n C M) (hE : RelE C M) (hn : 0 ≤ n) (c0 : 0 ≤ c) (c1 : c < (C.1 12 0 0 0)) (ht : (C.1 31 7 ((C.1 13 0 0 c)) 0) = c) : RelK n (undoM C c) (tbM M c) := by
  obtain ⟨u4, u7, u6, uO, u31, uL⟩ := undoM_at (C := C) (c := c)
  obtain ⟨t76, t71, tO, tL⟩ := tbM_at (M := M) (c := c)
  obtain ⟨p1, p2, p3, p4, p5⟩ := h.mj c c0 c1
  have ec := hE.ec
  have cc := h.cc
  obtain ⟨k1, k2⟩ := h.nk (C.1 13 0 0 c) p1.1 p1.2
  have la := lst_at (liv M (C.1 13 0 0 c)) ((C.1 12 0 0 0)).toNat c c0 (by rw [← k2]; exact ht)
  obtain ⟨-, lc, lo⟩ := la
  have a10 := fun f i j => (uO 10 (by decide) f i j).1
  have a12 := fun f i j => (uO 12 (by decide) f i j).1
  have a13 := fun f i j => (uO 13 (by decide) f i j).1
  have a14 := fun f i j => (uO 14 (by decide) f i j).1
  have a14L := fun f i j => (uO 14 (by decide) f i j).2
  have a15 := fun f i j => (uO 15 (by decide) f i j).1
  have b74 := tO 74 (by decide)
  have lv : ∀ k j, liv (tbM M c) k j ↔ (j ≠ c ∧ liv M k j) := fun k j => by
    unfold liv
    rw [t76, b74]
    by_cases e : j = c
    · rw [if_pos e]; exact ⟨fun q => absurd q.1 (by decide), fun q => absurd e q.1⟩
    · rw [if_neg e]; exact ⟨fun q => ⟨e, q⟩, fun q => q.2⟩
  have lne : ∀ k, k ≠ (C.1 13 0 0 c) → ∀ j, liv (tbM M c) k j ↔ liv M k j := fun k hk j => by
    rw [lv]
    refine ⟨fun q => q.2, fun q => ⟨fun e => ?_, q⟩⟩
    subst e
    exact hk (q.2.symm.trans p2)
  refine ⟨?_, by rw [a12]; exact cc, ?_, by rw [tO 40 (by decide), a12]; exact h.e, ?_, ?_⟩
  · have := h.cap
    unfold CapOk at this ⊢
    rw [a12, a13, a14, a15]
    exact this
  · intro k k0 k3
    have q := h.nb k k0 k3
    rw [u6]
    by_cases e : k = (C.1 13 0 0 c)
    · rw [if_pos e]
      have q2 := h.nb (C.1 13 0 0 c) p1.1 (by omega)
      have : 1 ≤ (C.1 31 6 ((C.1 13 0 0 c)) 0) := by
        rw [k1, sm_app _ (lo := 0) (mi := c) (hi := (C.1 12 0 0 0)) c0 (by omega), sm_app _ (lo := c) (mi := c + 1) (hi := (C.1 12 0 0 0)) (by omega) (by omega), sm_s _ (Int.le_refl c), sm_0 _ (Int.le_refl c), bI_t lc]
        have z1 := sm_nng (f := fun j => bI (liv M (C.1 13 0 0 c) j)) (lo := 0) (hi := c) (fun k _ _ => (bI_b _).1)
        have z2 := sm_nng (f := fun j => bI (liv M (C.1 13 0 0 c) j)) (lo := c + 1) (hi := (C.1 12 0 0 0)) (fun k _ _ => (bI_b _).1)
        omega
      omega
    · rw [if_neg e]; exact q
  · intro j j0 j1
    rw [a12] at j1
    obtain ⟨q1, q2, q3, q4, q5⟩ := h.mj j j0 j1
    rw [a13, a10, b74, tL 75 (by decide), a14L, t76, a15]
    refine ⟨q1, q2, q3, ?_, fun hz => ?_⟩
    · by_cases e : j = c
      · rw [if_pos e]; exact Or.inr rfl
      · rw [if_neg e]; exact q4
    · have hne : j ≠ c := fun e => by rw [if_pos e] at hz; omega
      rw [if_neg hne] at hz
      rw [q5 hz]
      by_cases e : (M.1 74 0 0 j) = (C.1 13 0 0 c)
      · have hj : j < c := by
          rcases Int.lt_trichotomy j c with y | y | y
          · exact y
          · exact absurd y hne
          · exact absurd ⟨hz, e⟩ (lo j y (by omega))
        exact lst_c _ (fun i i0 i1 => by rw [lv]; exact ⟨fun q => ⟨by omega, q⟩, fun q => q.2⟩)
      · exact lst_c _ (fun i i0 i1 => (lne _ e i).symm)
  · intro k k0 k3
    rw [a10] at k3
    obtain ⟨q1, q2⟩ := h.nk k k0 k3
    rw [u6, u7, a12]
    by_cases e : k = (C.1 13 0 0 c)
    · rw [if_pos e, if_pos e, e]
      constructor
      · rw [k1, sm_up (f := fun j => bI (liv M (C.1 13 0 0 c) j)) (g := fun j => bI (liv (tbM M c) (C.1 13 0 0 c) j)) (p := c) c0 (by omega)]
        · omega
        · show bI _ = bI _ + 1
          rw [bI_t lc, bI_f (P := liv (tbM M c) (C.1 13 0 0 c) c) (fun q => ((lv _ _).mp q).1 rfl)]
          rfl
        · intro j hj
          exact bI_c ⟨fun q => (lv _ _).mpr ⟨hj, q⟩, fun q => ((lv _ _).mp q).2⟩
      · rw [p5 lc.1, p2, lst_up (liv (tbM M c) (C.1 13 0 0 c)) (a := c) (b := (C.1 12 0 0 0)) c0 (by omega) (fun j j0 j1 q => ?_)]
        · exact lst_c _ (fun i i0 i1 => by rw [lv]; exact ⟨fun q => ⟨by omega, q⟩, fun q => q.2⟩)
        · have q2 := (lv _ _).mp q
          have : j ≠ c := q2.1
          exact lo j (by omega) (by omega) q2.2
    · rw [if_neg e, if_neg e]
      constructor
      · rw [q1]
        exact sm_c (fun j _ _ => bI_c (lne k e j).symm)
      · rw [q2]
        exact lst_c _ (fun i i0 i1 => (lne k e i).symm)
theorem smD_at {D : Int → Prop} : ∀ (m : Nat) (t : Int), 0 ≤ t → t < sm (dI D) 0 m → ∃ i : Int, 0 ≤ i ∧ i < m ∧ D i ∧ sm (dI D) 0 i = t
  | 0, t, t0, t1 => by
    rw [sm_0 _ (by omega)] at t1
    omega
  | m + 1, t, t0, t1 => by
    rw [show ((m + 1 : Nat) : Int) = (m : Int) + 1 by omega, sm_s _ (by omega)] at t1
    by_cases h : t < sm (dI D) 0 m
    · obtain ⟨i, i0, i1, i2⟩ := smD_at m t t0 h
      exact ⟨i, i0, by omega, i2⟩
    · have hd : D m := by
        refine Classical.byContradiction fun q => ?_
        have : dI D m = 0 := bI_f q
        omega
      have : dI D m = 1 := bI_t hd
      exact ⟨m, by omega, by omega, hd, by omega⟩
theorem smD_lt {D : Int → Prop} {i k : Int} (i0 : 0 ≤ i) (hd : D i) (h : i < k) : sm (dI D) 0 i < sm (dI D) 0 k := by
  have m := sm_mono (dI_nn D) (lo := 0) (a := i + 1) (b := k) (by omega) (by omega)
  have m2 := sm_s (dI D) (lo := 0) (hi := i) i0
  have m3 : dI D i = 1 := bI_t hd
  omega
theorem smDDp {dec : Int → Prop} {lo hi i : Int} (h0 : 0 ≤ lo) (h1 : lo ≤ i) (h2 : i ≤ hi) : sm (dI (DD lo hi dec)) 0 i = sm (dI dec) lo i := by
  rw [sm_part (f := dI (DD lo hi dec)) (a := lo) (b := i) h0 (Int.le_refl _) (by omega) h1 (fun k k0 k1 hk => bI_f (fun q => hk ⟨q.1, k1⟩))]
  exact sm_c (fun k k0 k1 => bI_c ⟨fun q => q.2.2, fun q => ⟨k0, by omega, q⟩⟩)
theorem MdP.cg {D : Int → Prop} {mv : Int → Int64} {m : Int} {C C1 M M' : Mem} (h : MdP D mv m C M M') (e1 : (C1.1 12 0 0 0) = (C.1 12 0 0 0)) (e2 : (C1.1 10 0 0 0) = (C.1 10 0 0 0)) (e3 : ∀ i, (C1.2 31 4 i 0) = (C.2 31 4 i 0)) : MdP D mv m C1 M M' := by
  obtain ⟨Mk, a, b⟩ := h
  refine ⟨Mk, a, ?_⟩
  unfold MdM at b ⊢
  simp only [e1, e2, e3]
  exact b
theorem mend_K {C C' M M' : Mem} {n lo hi m : Int} {dec : Int → Prop} {mv : Int → Int64} (hE : RelE C M) (hK : RelK n C M) (l0 : 0 ≤ lo) (hh : lo ≤ hi ∨ (hi ≤ lo ∧ 0 ≤ hi)) (hm : hi ≤ m ∨ hi ≤ lo) (m0 : 0 ≤ m) (m1 : m ≤ (C.1 10 0 0 0)) (hc : MdR dec mv lo hi C C') (hr : MdP (DD lo hi dec) mv m C M M') : RelE C' M' ∧ RelK (n + 1) C' M' := by
  obtain ⟨r1, r2, r3, r4, r5, r6, r7, r8, r9, r10⟩ := hc
  obtain ⟨Mk, g1, g2, g3, g4, g5, g6⟩ := hr
  have ec := hE.ec
  have cc := hK.cc
  have T : sm (dI dec) lo hi = sm (dI (DD lo hi dec)) 0 m := by
    by_cases z : hi ≤ lo
    · rw [sm_0 _ z]
      exact (sm_z0 (f := dI (DD lo hi dec)) (fun i _ _ => bI_f (fun q => by have := q.1; have := q.2.1; omega))).symm
    · exact (smDD l0 (by omega) (by omega) (by omega)).symm
  have sb := smD0 (DD lo hi dec) m0
  have dk : ∀ k, DD lo hi dec k → 0 ≤ k ∧ k < m ∧ lo ≤ k ∧ k < hi ∧ dec k ∧ sm (dI dec) lo k = sm (dI (DD lo hi dec)) 0 k := fun k q => by
    have q1 := q.1
    have q2 := q.2.1
    exact ⟨by omega, by omega, q1, q2, q.2.2, (smDDp l0 q1 (by omega)).symm⟩
  have a10 : ∀ f i j, C'.1 10 f i j = C.1 10 f i j := fun f i j => r1.i 10 f i j rfl
  have mk : ∀ (k f : Nat) (i j : Int), k ≠ 71 → k ≠ 74 → k ≠ 75 → k ≠ 76 → k ≠ 73 → (k ≠ 40 ∨ (f ≠ 44 ∧ f ≠ 46)) → M'.1 k f i j = M.1 k f i j ∧ M'.2 k f i j = M.2 k f i j := fun k f i j h1 h2 h3 h4 h5 h6 => by
    have q := g2 k f i j (by unfold kpM; simp [h1, h2, h3, h4]; exact h6.elim Or.inl (fun y => Or.inr y.1))
    have p := g1 k f i j (by simp [h5])
    rw [q.1, q.2, p.1, p.2]
    refine ⟨?_, rfl⟩
    rw [setI_1, if_neg (by omega)]
  have mo : ∀ j, Mk.1 74 0 0 j = M.1 74 0 0 j ∧ Mk.2 75 0 0 j = M.2 75 0 0 j ∧ Mk.1 76 0 0 j = M.1 76 0 0 j := fun j => by
    have p1 := g1 74 0 0 j rfl
    have p2 := g1 75 0 0 j rfl
    have p3 := g1 76 0 0 j rfl
    rw [p1.1, p2.2, p3.1]
    exact ⟨by simp [setI_1], rfl, by simp [setI_1]⟩
  have lold : ∀ k j, 0 ≤ j → j < (C.1 12 0 0 0) → (liv M' k j ↔ liv M k j) := fun k j j0 j1 => by
    obtain ⟨x1, x2, x3⟩ := g5 j j0 j1
    unfold liv
    rw [x1, x3, (mo j).1, (mo j).2.2]
  have lnew : ∀ k i, 0 ≤ i → DD lo hi dec i → (liv M' k ((C.1 12 0 0 0) + sm (dI (DD lo hi dec)) 0 i) ↔ i = k) := fun k i i0 hd => by
    obtain ⟨x1, x2, x3⟩ := g6 i i0 (dk i hd).2.1 hd
    unfold liv
    rw [x1, x3]
    exact ⟨fun q => q.2, fun q => ⟨rfl, q⟩⟩
  have inew : ∀ j, (C.1 12 0 0 0) ≤ j → j < (C.1 12 0 0 0) + sm (dI (DD lo hi dec)) 0 m → ∃ i, 0 ≤ i ∧ DD lo hi dec i ∧ j = (C.1 12 0 0 0) + sm (dI (DD lo hi dec)) 0 i := fun j j0 j1 => by
    obtain ⟨i, i0, i1, i2, i3⟩ := smD_at (D := DD lo hi dec) m.toNat (j - (C.1 12 0 0 0)) (by omega) (by rw [show ((m.toNat : Nat) : Int) = m by omega]; omega)
    exact ⟨i, i0, i2, by omega⟩
  constructor
  · refine ⟨by rw [a10]; exact ec, by rw [a10]; exact hE.li, ?_, ?_, ?_⟩
    · intro k k0 k1
      rw [a10] at k1
      rw [r2 5 k (by omega), r2 1 k (by omega)]; exact hE.pr k k0 k1
    · rw [(mk 40 39 0 0 (by decide) (by decide) (by decide) (by decide) (by decide) (Or.inr (by decide))).1, (mk 40 40 0 0 (by decide) (by decide) (by decide) (by decide) (by decide) (Or.inr (by decide))).1, a10, a10]
      exact hE.e
    · intro k k0 k1
      rw [a10] at k1
      have q := hE.me k k0 k1
      rw [(mk 67 0 0 k (by decide) (by decide) (by decide) (by decide) (by decide) (Or.inl (by decide))).1, (mk 68 0 0 k (by decide) (by decide) (by decide) (by decide) (by decide) (Or.inl (by decide))).1, (mk 69 0 0 k (by decide) (by decide) (by decide) (by decide) (by decide) (Or.inl (by decide))).1, (mk 70 0 0 k (by decide) (by decide) (by decide) (by decide) (by decide) (Or.inl (by decide))).2, (mk 72 0 0 k (by decide) (by decide) (by decide) (by decide) (by decide) (Or.inl (by decide))).1, r2 0 k (by omega), r2 1 k (by omega), r2 2 k (by omega), r2 5 k (by omega), r3]
      refine ⟨q.1, q.2.1, q.2.2.1, q.2.2.2.1, ?_, q.2.2.2.2.2⟩
      rw [g4 k k0 k1]
      by_cases z : DD lo hi dec k
      · have y := dk k z
        rw [cif_t ⟨y.2.1, z⟩, (r4 k y.2.2.1 y.2.2.2.1 y.2.2.2.2.1).1]
      · rw [cif_f (fun y => z y.2), (r5 k (fun y => z ⟨y.1, y.2.1, y.2.2⟩)).1]
  · refine ⟨r8, by rw [r6, T]; omega, ?_, by rw [g3, r6, T], ?_, ?_⟩
    · intro k k0 k1
      have q := hK.nb k k0 k1
      by_cases z : DD lo hi dec k
      · have y := dk k z
        rw [(r4 k y.2.2.1 y.2.2.2.1 y.2.2.2.2.1).2.1]; omega
      · rw [(r5 k (fun y => z ⟨y.1, y.2.1, y.2.2⟩)).2.1]; omega
    · intro j j0 j1
      rw [r6, T] at j1
      rw [a10]
      by_cases h : j < (C.1 12 0 0 0)
      · obtain ⟨q1, q2, q3, q4, q5⟩ := hK.mj j j0 h
        obtain ⟨x1, x2, x3⟩ := g5 j j0 h
        obtain ⟨y1, y2, y3⟩ := r7 j j0 h
        rw [x1, x2, x3, y1, y2, y3, (mo j).1, (mo j).2.1, (mo j).2.2]
        refine ⟨q1, q2, q3, q4, fun z => ?_⟩
        rw [q5 z]
        exact lst_c _ (fun i i0 i1 => (lold _ i (by omega) (by omega)).symm)
      · obtain ⟨i, i0, hd, rfl⟩ := inew j (by omega) j1
        have y := dk i hd
        obtain ⟨x1, x2, x3⟩ := g6 i i0 y.2.1 hd
        obtain ⟨z1, z2, z3, z4, z5, z6⟩ := r4 i y.2.2.1 y.2.2.2.1 y.2.2.2.2.1
        rw [y.2.2.2.2.2] at z4 z5 z6
        rw [x1, x2, x3, z4, z5, z6]
        refine ⟨⟨i0, by omega⟩, rfl, rfl, Or.inl rfl, fun _ => ?_⟩
        obtain ⟨-, q2⟩ := hK.nk i i0 (by omega)
        have si := smD0 (DD lo hi dec) i0
        rw [q2, lst_up (liv M' i) (a := (C.1 12 0 0 0)) (b := (C.1 12 0 0 0) + sm (dI (DD lo hi dec)) 0 i) (by omega) (by omega) (fun j j0 j1 q => ?_)]
        · exact lst_c _ (fun i i0 i1 => (lold _ i (by omega) (by omega)).symm)
        · have mono := sm_mono (dI_nn (DD lo hi dec)) (lo := 0) (a := i) (b := m) i0 (by omega)
          obtain ⟨i2, i20, hd2, rfl⟩ := inew j j0 (by omega)
          have := (lnew i i2 i20 hd2).mp q
          subst this
          omega
    · intro k k0 k1
      rw [a10] at k1
      obtain ⟨q1, q2⟩ := hK.nk k k0 k1
      have e1 : sm (fun j => bI (liv M' k j)) 0 (C.1 12 0 0 0) = (C.1 31 6 k 0) := by
        rw [q1]
        exact sm_c (fun j j0 j1 => bI_c (lold k j j0 j1))
      have e2 : lst (liv M' k) ((C.1 12 0 0 0)).toNat = (C.1 31 7 k 0) := by
        rw [q2]
        exact lst_c _ (fun i i0 i1 => lold k i (by omega) (by omega))
      rw [r6, T, sm_app _ (lo := 0) (mi := (C.1 12 0 0 0)) (hi := (C.1 12 0 0 0) + sm (dI (DD lo hi dec)) 0 m) (by omega) (by omega), e1]
      by_cases z : DD lo hi dec k
      · have y := dk k z
        obtain ⟨z1, z2, z3, -⟩ := r4 k y.2.2.1 y.2.2.2.1 y.2.2.2.2.1
        have sk := smD0 (DD lo hi dec) k0
        have lt := smD_lt k0 z y.2.1
        rw [z2, z3, y.2.2.2.2.2]
        have only : ∀ j, (C.1 12 0 0 0) ≤ j → j < (C.1 12 0 0 0) + sm (dI (DD lo hi dec)) 0 m → (liv M' k j ↔ j = (C.1 12 0 0 0) + sm (dI (DD lo hi dec)) 0 k) := fun j j0 j1 => by
          obtain ⟨i2, i20, hd2, rfl⟩ := inew j j0 j1
          rw [lnew k i2 i20 hd2]
          constructor
          · intro q; rw [q]
          · intro q
            rcases Int.lt_trichotomy i2 k with x | x | x
            · have := smD_lt i20 hd2 x; omega
            · exact x
            · have := smD_lt k0 z x; omega
        constructor
        · have e3 : sm (fun j => bI (liv M' k j)) (C.1 12 0 0 0) ((C.1 12 0 0 0) + sm (dI (DD lo hi dec)) 0 m) = sm (fun j => bI (j = (C.1 12 0 0 0) + sm (dI (DD lo hi dec)) 0 k)) (C.1 12 0 0 0) ((C.1 12 0 0 0) + sm (dI (DD lo hi dec)) 0 m) := sm_c (fun j j0 j1 => bI_c (only j j0 j1))
          rw [e3, sm_up (g := fun _ => 0) (p := (C.1 12 0 0 0) + sm (dI (DD lo hi dec)) 0 k) (by omega) (by omega) (by rw [bI_t rfl]; rfl) (fun j hj => bI_f hj), sm_zero]
          omega
        · refine (lst_is _ (by omega) (by omega) ((only _ (by omega) (by omega)).mpr rfl) (fun j j0 j1 q => ?_)).symm
          have := (only j (by omega) j1).mp q
          omega
      · have y := r5 k (fun y => z ⟨y.1, y.2.1, y.2.2⟩)
        have none : ∀ j, (C.1 12 0 0 0) ≤ j → j < (C.1 12 0 0 0) + sm (dI (DD lo hi dec)) 0 m → ¬ liv M' k j := fun j j0 j1 q => by
          obtain ⟨i2, i20, hd2, rfl⟩ := inew j j0 j1
          have := (lnew k i2 i20 hd2).mp q
          subst this
          exact z hd2
        rw [y.2.1, y.2.2]
        constructor
        · rw [sm_z0 (fun j j0 j1 => bI_f (none j j0 j1))]; omega
        · rw [lst_up _ (a := (C.1 12 0 0 0)) (by omega) (by omega) none, e2]
theorem len_at {C : Mem} {v : Int} : ∀ (s : Nat) (k : Int), 0 ≤ k → k < sm (lenV C v) 0 s → ∃ z e : Int, 0 ≤ z ∧ z < s ∧ 0 ≤ e ∧ e < lenV C v z ∧ k = sm (lenV C v) 0 z + e
  | 0, k, k0, k1 => by
    rw [sm_0 _ (by omega)] at k1
    omega
  | s + 1, k, k0, k1 => by
    rw [show ((s + 1 : Nat) : Int) = (s : Int) + 1 by omega, sm_s _ (by omega)] at k1
    by_cases h : k < sm (lenV C v) 0 s
    · obtain ⟨z, e, z0, z1, e0, e1, he⟩ := len_at s k k0 h
      exact ⟨z, e, z0, by omega, e0, e1, he⟩
    · exact ⟨s, k - sm (lenV C v) 0 s, by omega, by omega, by omega, by omega, by omega⟩
theorem edition_K {C C' M M' : Mem} {n v : Int} (hE : RelE C M) (hK : RelK n C M) (hV : RelV n C M) (hR : RelR C M) (hn : 0 ≤ n) (v0 : 0 ≤ v) (v1 : v < (C.1 0 6 0 0)) (hc : EdL C v (C.1 22 3 v 0) 0 C') (hr : EdM C v (C.1 22 3 v 0) 0 (setI (setI (setI M 40 46 0 0 0) 40 39 0 0 0) 40 44 0 0 0) M') : (RelE C' M' ∧ RelK (n + 1) C' M') ∧ sm (fun k => bI ((M'.1 68 0 0 k) = -1)) 0 (M'.1 40 39 0 0) = gapN C' := by
  obtain ⟨h1, h2, h3, h4, h5, h6⟩ := hc
  obtain ⟨g1, g2, g3⟩ := hr
  obtain ⟨s0, s1, s2, -⟩ := hV.ok v v0 v1
  have rc := hR.rc
  have e120 : sm (lenV C v) 0 (C.1 22 3 v 0) = (C.1 22 4 v 0) := s2.1.symm
  have at_ : ∀ k, 0 ≤ k → k < (C'.1 10 0 0 0) → ∃ d, EnR C C' k d ∧ EnM C M' k d := fun k k0 k1 => by
    rw [h2] at k1
    obtain ⟨z, e, z0, z1, e0, e1, rfl⟩ := len_at (C := C) (v := v) ((C.1 22 3 v 0)).toNat k k0 (by rw [show ((((C.1 22 3 v 0)).toNat : Nat) : Int) = (C.1 22 3 v 0) by omega]; omega)
    have le : lenV C v z = (C.1 24 0 v z) - (C.1 23 0 v z) + 1 := rfl
    have q1 := h5 z ((C.1 23 0 v z) + e) z0 (by omega) (by omega) (Or.inl (by omega))
    have q2 := g3 z ((C.1 23 0 v z) + e) z0 (by omega) (by omega) (Or.inl (by omega))
    rw [show (C.1 23 0 v z) + e - (C.1 23 0 v z) = e by omega] at q1 q2
    exact ⟨_, q1, q2⟩
  have ef : (M'.1 40 39 0 0) = (C'.1 10 0 0 0) := by rw [g2, h2]
  have m40 : (M'.1 40 40 0 0) = (M.1 40 40 0 0) := by
    rw [g1.i 40 40 0 0 rfl]
    simp [setI_1]
  have m44 : (M'.1 40 44 0 0) = 0 := by
    rw [g1.i 40 44 0 0 rfl]
    simp [setI_1]
  refine ⟨⟨⟨by rw [h2]; omega, by rw [h4]; exact hE.li, ?_, ⟨ef, by rw [m40, h4]; exact hE.e.2⟩, ?_⟩, ⟨?_, by rw [h3]; omega, ?_, by rw [m44, h3], ?_, ?_⟩⟩, ?_⟩
  · intro k k0 k1
    obtain ⟨d, q, -⟩ := at_ k k0 k1
    have bb := best_b C d rc.1
    rw [q.2.2.2.2.2.1, q.2.1]
    exact ⟨Or.inl rfl, bb.1⟩
  · intro k k0 k1
    obtain ⟨d, q, p⟩ := at_ k k0 k1
    rw [p.1, p.2.1, p.2.2.1, p.2.2.2.1, p.2.2.2.2.1, p.2.2.2.2.2, q.1, q.2.1, q.2.2.1, q.2.2.2.2.1, q.2.2.2.1, q.2.2.2.2.2.1]
    exact ⟨rfl, rfl, rfl, rfl, rfl, rfl⟩
  · have := hK.cap
    unfold CapOk at this ⊢
    rw [h1.i 13 1 0 0 rfl, h1.i 14 1 0 0 rfl, h1.i 15 1 0 0 rfl, h3]
    refine ⟨this.1, this.2.1, this.2.2.1, Int.le_refl _, ?_⟩
    omega
  · intro k k0 k1
    by_cases z : k < (C'.1 10 0 0 0)
    · obtain ⟨d, q, -⟩ := at_ k k0 z
      rw [q.2.2.2.2.2.2.1]; omega
    · rw [h6 6 k (by omega)]
      have := hK.nb k k0 k1
      omega
  · intro j j0 j1
    rw [h3] at j1
    omega
  · intro k k0 k1
    obtain ⟨d, q, -⟩ := at_ k k0 k1
    rw [h3, q.2.2.2.2.2.2.1, q.2.2.2.2.2.2.2, sm_0 _ (Int.le_refl _)]
    exact ⟨rfl, rfl⟩
  · rw [ef]
    unfold gapN
    refine sm_c (fun k k0 k1 => ?_)
    obtain ⟨d, q, p⟩ := at_ k k0 k1
    unfold gapT
    rw [p.2.1, q.2.1]
