noncomputable def gN (P : Prop) (n : Nat) : Nat := @ite Nat P (Classical.propDecidable P) n 0
theorem gN_t {P : Prop} {n : Nat} (h : P) : gN P n = n := @if_pos P (Classical.propDecidable P) h Nat n 0
theorem gN_f {P : Prop} {n : Nat} (h : ¬ P) : gN P n = 0 := @if_neg P (Classical.propDecidable P) h Nat n 0
noncomputable def dI (dec : Int → Prop) (k : Int) : Int := bI (dec k)
theorem sm_mn {f : Int → Int} (hf : ∀ k, 0 ≤ f k) {lo a : Int} (h : lo ≤ a) : ∀ n : Nat, sm f lo a ≤ sm f lo (a + n)
  | 0 => by simp
  | n + 1 => by
    have := sm_mn hf h n
    have h2 := sm_s f (lo := lo) (hi := a + n) (by omega)
    have h3 := hf (a + n)
    rw [show a + ((n + 1 : Nat) : Int) = a + n + 1 by omega]
    omega
theorem sm_mono {f : Int → Int} (hf : ∀ k, 0 ≤ f k) {lo a b : Int} (h : lo ≤ a) (h2 : a ≤ b) : sm f lo a ≤ sm f lo b := by
  have := sm_mn hf h (b - a).toNat
  rw [show a + (((b - a).toNat : Nat) : Int) = b by omega] at this
  exact this
/-- the frames lo .. hi - 1 that dec names are changed, one after another -/
def MdR (dec : Int → Prop) (mv : Int → Int64) (lo hi : Int) (M M' : Mem) : Prop := Ex exE M M' ∧ (∀ (f : Nat) (i : Int), f = 0 ∨ f = 1 ∨ f = 2 ∨ f = 5 → M'.1 31 f i 0 = M.1 31 f i 0) ∧ (∀ i, (M'.2 31 3 i 0) = (M.2 31 3 i 0)) ∧
  (∀ i, lo ≤ i → i < hi → dec i → (M'.2 31 4 i 0) = mv i ∧ (M'.1 31 6 i 0) = (M.1 31 6 i 0) + 1 ∧ (M'.1 31 7 i 0) = (M.1 12 0 0 0) + sm (dI dec) lo i ∧ (M'.1 13 0 0 ((M.1 12 0 0 0) + sm (dI dec) lo i)) = i ∧ (M'.2 14 0 0 ((M.1 12 0 0 0) + sm (dI dec) lo i)) = (M.2 31 4 i 0) ∧ (M'.1 15 0 0 ((M.1 12 0 0 0) + sm (dI dec) lo i)) = (M.1 31 7 i 0)) ∧
  (∀ i, ¬ (lo ≤ i ∧ i < hi ∧ dec i) → (M'.2 31 4 i 0) = (M.2 31 4 i 0) ∧ (M'.1 31 6 i 0) = (M.1 31 6 i 0) ∧ (M'.1 31 7 i 0) = (M.1 31 7 i 0)) ∧ (M'.1 12 0 0 0) = (M.1 12 0 0 0) + sm (dI dec) lo hi ∧
  (∀ j, 0 ≤ j → j < (M.1 12 0 0 0) → (M'.1 13 0 0 j) = (M.1 13 0 0 j) ∧ (M'.2 14 0 0 j) = (M.2 14 0 0 j) ∧ (M'.1 15 0 0 j) = (M.1 15 0 0 j)) ∧ CapOk M' ∧ ((M'.1 12 0 0 0) ≤ (M.1 13 1 0 0) → (M'.1 13 1 0 0) = (M.1 13 1 0 0)) ∧ ((M.1 13 1 0 0) < (M'.1 12 0 0 0) → (M'.1 13 1 0 0) = 2 * (M.1 13 1 0 0))
theorem MdR.rf {dec : Int → Prop} {mv : Int → Int64} {lo hi : Int} {M : Mem} (h : hi ≤ lo) (hc : CapOk M) : MdR dec mv lo hi M M := by
  refine ⟨Ex.rf M, fun _ _ _ => rfl, fun _ => rfl, fun i h1 h2 => by omega, fun _ _ => ⟨rfl, rfl, rfl⟩, ?_, fun _ _ _ => ⟨rfl, rfl, rfl⟩, hc, fun _ => rfl, fun q => ?_⟩
  · rw [sm_0 _ h]; omega
  · have := hc.2.2.2.2
    omega
theorem MdR.no {dec : Int → Prop} {mv : Int → Int64} {lo i : Int} {M M1 : Mem} (h : MdR dec mv lo i M M1) (hl : lo ≤ i) (hn : ¬ dec i) : MdR dec mv lo (i + 1) M M1 := by
  obtain ⟨h1, h2, h3, h4, h5, h6, h7, h8, h9, h10⟩ := h
  have es : sm (dI dec) lo (i + 1) = sm (dI dec) lo i := by
    rw [sm_s _ hl]
    have : dI dec i = 0 := bI_f hn
    omega
  refine ⟨h1, h2, h3, fun k k0 k1 kd => h4 k k0 ?_ kd, fun k hk => h5 k (fun q => hk ⟨q.1, by omega, q.2.2⟩), by rw [es]; exact h6, h7, h8, h9, h10⟩
  have : k ≠ i := fun q => hn (by rw [← q]; exact kd)
  omega
theorem MdR.idle {dec : Int → Prop} {mv : Int → Int64} {lo : Int} {M : Mem} (hc : CapOk M) (hn : ∀ k, ¬ dec k) : ∀ n : Nat, MdR dec mv lo (lo + n) M M
  | 0 => MdR.rf (by omega) hc
  | n + 1 => by
    rw [show lo + ((n + 1 : Nat) : Int) = lo + n + 1 by omega]
    exact (MdR.idle hc hn n).no (by omega) (hn _)
theorem MdR.yes {dec : Int → Prop} {mv : Int → Int64} {lo i : Int} {M M1 M2 : Mem} (h : MdR dec mv lo i M M1) (hl : lo ≤ i) (hd : dec i) (hcM : CapOk M) (hr : ChR M1 i (mv i) M2) (hb : (M.1 12 0 0 0) + sm (dI dec) lo (i + 1) ≤ 2 * (M.1 13 1 0 0)) : MdR dec mv lo (i + 1) M M2 := by
  obtain ⟨h1, h2, h3, h4, h5, h6, h7, h8, h9, h10⟩ := h
  obtain ⟨r1, r2, r3, r4, r5, r6, r7, r8, r9, r10, r11, r12, r13, r14, r15⟩ := hr
  have ed : dI dec i = 1 := bI_t hd
  have es : sm (dI dec) lo (i + 1) = sm (dI dec) lo i + 1 := by rw [sm_s _ hl, ed]
  have nn : ∀ k, 0 ≤ dI dec k := fun k => (bI_b _).1
  have s0 : 0 ≤ sm (dI dec) lo i := by
    have := sm_mono nn (Int.le_refl lo) hl
    rw [sm_0 _ (Int.le_refl lo)] at this
    exact this
  have hi5 := h5 i (fun q => by omega)
  have c0 := hcM.2.2.2.1
  refine ⟨h1.tr r1, fun f k hf => (r2 f k hf).trans (h2 f k hf), fun k => (r3 k).trans (h3 k), fun k k0 k1 kd => ?_, fun k hk => ?_, ?_, fun j j0 j1 => ?_, r13, fun q => ?_, fun q => ?_⟩
  · by_cases e : k = i
    · subst e
      rw [← h6]
      refine ⟨r4, ?_, r6, r9, ?_, ?_⟩
      · rw [r5, hi5.2.1]
      · rw [r10, hi5.1]
      · rw [r11, hi5.2.2]
    · have k2 : k < i := by omega
      obtain ⟨a1, a2, a3, a4, a5, a6⟩ := h4 k k0 k2 kd
      obtain ⟨b1, b2, b3⟩ := r7 k e
      have m1 := sm_mono nn (lo := lo) (a := k + 1) (b := i) (by omega) (by omega)
      have m2 : sm (dI dec) lo (k + 1) = sm (dI dec) lo k + 1 := by rw [sm_s _ k0]; exact congrArg _ (bI_t kd)
      have m3 := sm_mono nn (Int.le_refl lo) k0
      rw [sm_0 _ (Int.le_refl lo)] at m3
      obtain ⟨d1, d2, d3⟩ := r12 (M.1 12 0 0 0 + sm (dI dec) lo k) (by omega) (by omega)
      exact ⟨b1.trans a1, b2.trans a2, b3.trans a3, d1.trans a4, d2.trans a5, d3.trans a6⟩
  · have e : k ≠ i := fun q => hk ⟨by omega, by omega, by rw [q]; exact hd⟩
    obtain ⟨b1, b2, b3⟩ := r7 k e
    obtain ⟨a1, a2, a3⟩ := h5 k (fun q => hk ⟨q.1, by omega, q.2.2⟩)
    exact ⟨b1.trans a1, b2.trans a2, b3.trans a3⟩
  · rw [r8, h6, es]; omega
  · obtain ⟨d1, d2, d3⟩ := r12 j j0 (by omega)
    obtain ⟨a1, a2, a3⟩ := h7 j j0 j1
    exact ⟨d1.trans a1, d2.trans a2, d3.trans a3⟩
  · have q1 := h9 (by omega)
    have q2 := r14 (by omega)
    omega
  · have : (M1.1 12 0 0 0) = (M.1 13 1 0 0) ∨ (M.1 13 1 0 0) < (M1.1 12 0 0 0) := by omega
    rcases this with g | g
    · have q1 := h9 (by omega)
      have q2 := r15 (by omega)
      omega
    · have q1 := h10 g
      have q2 := r14 (by omega)
      omega
theorem MdR.mb {dec : Int → Prop} {mv : Int → Int64} {lo hi : Int} {M M1 : Mem} (h : MdR dec mv lo hi M M1) (k : Int) : mayB M1 k ↔ mayB M k := by
  unfold mayB
  rw [h.2.1 5 k (by simp), h.2.1 1 k (by simp)]
theorem MdR.chg {dec : Int → Prop} {mv : Int → Int64} {lo i : Int} {M M1 : Mem} (h : MdR dec mv lo i M M1) (x : Int64) : chgP M1 i x ↔ chgP M i x := by
  unfold chgP
  rw [h.2.2.1 i, (h.2.2.2.2.1 i (fun q => by omega)).1, h.1.i 10 1 0 0 rfl]
/-- room for the changes of one call: the rows grow at most once -/
theorem room_step {dec : Int → Prop} {mv : Int → Int64} {lo i hi : Int} {M M1 : Mem} {cl sl mc ms : Nat} (h : MdR dec mv lo i M M1) (hc : CapOk M) (h0 : lo ≤ i) (h1 : i < hi) (h2 : hi - lo ≤ 120) (hroom : (M.1 13 1 0 0) < (M.1 12 0 0 0) + sm (dI dec) lo hi → 3 ≤ mc ∧ 6 * (M.1 13 1 0 0) ≤ ms) (hcl : (cl ≤ mc ∧ sl ≤ ms) ∧ ((M1.1 12 0 0 0) ≤ (M.1 13 1 0 0) → cl = 0 ∧ sl = 0)) :
    (cl + gN (dec i ∧ (M1.1 13 1 0 0) ≤ (M1.1 12 0 0 0)) mc ≤ mc ∧ sl + gN (dec i ∧ (M1.1 13 1 0 0) ≤ (M1.1 12 0 0 0)) ms ≤ ms) ∧ (dec i → (M1.1 13 1 0 0) ≤ (M1.1 12 0 0 0) → 3 ≤ gN (dec i ∧ (M1.1 13 1 0 0) ≤ (M1.1 12 0 0 0)) mc ∧ 6 * (M1.1 13 1 0 0) ≤ gN (dec i ∧ (M1.1 13 1 0 0) ≤ (M1.1 12 0 0 0)) ms) ∧ (¬ dec i → gN (dec i ∧ (M1.1 13 1 0 0) ≤ (M1.1 12 0 0 0)) mc = 0 ∧ gN (dec i ∧ (M1.1 13 1 0 0) ≤ (M1.1 12 0 0 0)) ms = 0) ∧ (dec i → (M1.1 12 0 0 0) + 1 ≤ (M.1 13 1 0 0) → cl + gN (dec i ∧ (M1.1 13 1 0 0) ≤ (M1.1 12 0 0 0)) mc = 0 ∧ sl + gN (dec i ∧ (M1.1 13 1 0 0) ≤ (M1.1 12 0 0 0)) ms = 0) ∧ (M.1 12 0 0 0) + sm (dI dec) lo (i + 1) ≤ 2 * (M.1 13 1 0 0) := by
  have g1 := sm_b1 (f := dI dec) (lo := lo) (hi := i) h0 (fun k _ _ => bI_b _)
  have g2 := sm_b1 (f := dI dec) (lo := lo) (hi := i + 1) (by omega) (fun k _ _ => bI_b _)
  have g3 := sm_mono (f := dI dec) (fun k => (bI_b _).1) (lo := lo) (a := i + 1) (b := hi) (by omega) (by omega)
  have g4 := sm_s (dI dec) (lo := lo) (hi := i) h0
  have g5 := h.2.2.2.2.2.1
  have g6 := h.2.2.2.2.2.2.2.2.1
  have g7 := h.2.2.2.2.2.2.2.2.2
  obtain ⟨c1, c2, c3, c4, c5⟩ := hc
  obtain ⟨e1, e2, e3, e4, e5⟩ := h.2.2.2.2.2.2.2.1
  have eg : dec i → (M1.1 13 1 0 0) ≤ (M1.1 12 0 0 0) → (M1.1 13 1 0 0) = (M.1 13 1 0 0) ∧ (M1.1 12 0 0 0) = (M.1 13 1 0 0) ∧ (M.1 13 1 0 0) < (M.1 12 0 0 0) + sm (dI dec) lo hi := fun d q => by
    have : dI dec i = 1 := bI_t d
    have a : (M1.1 13 1 0 0) = (M.1 13 1 0 0) := by
      rcases (show (M1.1 12 0 0 0) ≤ (M.1 13 1 0 0) ∨ (M.1 13 1 0 0) < (M1.1 12 0 0 0) by omega) with z | z
      · exact g6 z
      · have := g7 z
        omega
    omega
  by_cases d : dec i
  · by_cases q : (M1.1 13 1 0 0) ≤ (M1.1 12 0 0 0)
    · obtain ⟨a1, a2, a3⟩ := eg d q
      rw [gN_t ⟨d, q⟩, gN_t ⟨d, q⟩]
      obtain ⟨b1, b2⟩ := hroom a3
      obtain ⟨b3, b4⟩ := hcl.2 (by omega)
      exact ⟨⟨by omega, by omega⟩, fun _ _ => ⟨b1, by rw [a1]; exact b2⟩, fun z => absurd d z, fun _ z => by omega, by omega⟩
    · rw [gN_f (fun z => q z.2), gN_f (fun z => q z.2)]
      refine ⟨⟨by omega, by omega⟩, fun _ z => absurd z q, fun z => absurd d z, fun _ z => ?_, by omega⟩
      have := hcl.2 (by omega)
      omega
  · rw [gN_f (fun z => d z.1), gN_f (fun z => d z.1)]
    exact ⟨⟨by omega, by omega⟩, fun z => absurd z d, fun _ => ⟨rfl, rfl⟩, fun z => absurd z d, by omega⟩
theorem ind6 {A1 A2 A3 A4 A5 A6 : Type} (μ : A1 → A2 → A3 → A4 → A5 → A6 → Nat) {P : A1 → A2 → A3 → A4 → A5 → A6 → Prop} (h : ∀ a1 a2 a3 a4 a5 a6, (∀ b1 b2 b3 b4 b5 b6, μ b1 b2 b3 b4 b5 b6 < μ a1 a2 a3 a4 a5 a6 → P b1 b2 b3 b4 b5 b6) → P a1 a2 a3 a4 a5 a6) : ∀ a1 a2 a3 a4 a5 a6, P a1 a2 a3 a4 a5 a6 := fun a1 a2 a3 a4 a5 a6 => ind1 (A1 := A1 × A2 × A3 × A4 × A5 × A6) (fun a => μ a.1 a.2.1 a.2.2.1 a.2.2.2.1 a.2.2.2.2.1 a.2.2.2.2.2) (P := fun a => P a.1 a.2.1 a.2.2.1 a.2.2.2.1 a.2.2.2.2.1 a.2.2.2.2.2) (fun a ih => h a.1 a.2.1 a.2.2.1 a.2.2.2.1 a.2.2.2.2.1 a.2.2.2.2.2 (fun b1 b2 b3 b4 b5 b6 hb => ih (b1, b2, b3, b4, b5, b6) hb)) (a1, a2, a3, a4, a5, a6)
theorem sm_zn (lo : Int) : ∀ n : Nat, sm (fun _ => 0) lo (lo + n) = 0
  | 0 => sm_0 _ (by omega)
  | n + 1 => by
    rw [show lo + ((n + 1 : Nat) : Int) = lo + n + 1 by omega, sm_s _ (by omega), sm_zn lo n]
    rfl
theorem sm_zero (lo hi : Int) : sm (fun _ => 0) lo hi = 0 := by
  by_cases h : hi ≤ lo
  · exact sm_0 _ h
  · have := sm_zn lo (hi - lo).toNat
    rw [show lo + ((hi - lo).toNat : Int) = hi by omega] at this
    exact this
/-! a scratch: between the points beside it -/
def scrAll (M : Mem) (p f t thr : Int) : Prop := ∀ k, f ≤ k → k ≤ t → mayB M k → scrP (M.2 31 4 k 0) p thr
def mvS (M : Mem) (p k : Int) : Int64 := ptSet (M.2 31 4 k 0) p ((pt (M.2 31 4 k 0) (p - 1) + pt (M.2 31 4 k 0) (p + 1)).tdiv 2)
def decS (M : Mem) (p f t thr k : Int) : Prop := scrAll M p f t thr ∧ mayB M k ∧ chgP M k (mvS M p k)
set_option maxRecDepth 100000 in
set_option maxHeartbeats 4000000 in
theorem c_X2_mendScratch {δ : Dx} {nm : List (Nat × Int)} {ad : Ad} {M : Mem} {p f t thr : Int} {mc ms : Nat} (hN : NmOk nm) (p0 : 1 ≤ p ∧ p ≤ 6) (f0 : 0 ≤ f) (f1 : f ≤ t) (t1 : t < 120) (rt : rng thr) (hc : CapOk M) (cm : (M.1 12 0 0 0) + 120 ≤ 61440) (nb : ∀ k, 0 ≤ k → k < 120 → 0 ≤ (M.1 31 6 k 0) ∧ (M.1 31 6 k 0) ≤ 99000) (hroom : (M.1 13 1 0 0) < (M.1 12 0 0 0) + sm (dI (decS M p f t thr)) f (t + 1) → 3 ≤ mc ∧ 6 * (M.1 13 1 0 0) ≤ ms) : Ct δ md_X2_mendScratch mc ms nm ad M [.ref (ad 10 0), .int (iI p), .int (iI f), .int (iI t), .int (iI thr)] (fun v ad' M' => v = some (.int (iI (sm (dI (decS M p f t thr)) f (t + 1)))) ∧ AdG ad ad' ∧ MdR (decS M p f t thr) (mvS M p) f (t + 1) M M') := by
  refine Ct_of (ins := .ireturn) (ok := okI) [some (.ref (ad 10 0)), some (.int (iI p)), some (.int (iI f)), some (.int (iI t)), some (.int (iI thr)), none, none, none, none, none] (by decide +kernel) rfl (Nat.le_of_ble_eq_true rfl) (fun κ s hs X hr hQ hδ => endI rfl hs X hr hQ hδ) (fun κ X hNL hδ Y => ?_)
  refine g_rm (fun hM => ?_)
  refine g_iload_n X dX2_mendScratch_0 rfl rfl ?_
  refine g_istore_5 X dX2_mendScratch_1 rfl (lt_kN hNL rfl) rfl ?_
  have lp3 : ∀ (i : Int) (i0 : f ≤ i) (i1 : i ≤ t + 1) (ha : ∀ k, f ≤ k → k < i → mayB M k → scrP (M.2 31 4 k 0) p thr), G κ nm ad M 3 [some (.ref (ad 10 0)), some (.int (iI p)), some (.int (iI f)), some (.int (iI t)), some (.int (iI thr)), some (.int (iI i)), none, none, none, none] [] 0 0 := by
    refine ind1 (fun i => (120 - i).toNat) ?_
    intro i ih3 i0 i1 ha
    refine g_rm (fun hM3 => ?_)
    refine g_iload X dX2_mendScratch_3 rfl rfl ?_
    refine g_iload_n X dX2_mendScratch_5 rfl rfl ?_
    refine g_icmp_gt (tgt := 49) X dX2_mendScratch_6 rfl rfl (by omega) (by omega) (fun h6 => ?_) (fun h6 => ?_)
    · skip
      have hs : scrAll M p f t thr := fun k h1 h2 h3 => ha k h1 (by omega) h3
      refine g_iconst X dX2_mendScratch_49 rfl ?_
      refine g_istore_5 X dX2_mendScratch_50 rfl (lt_kN hNL rfl) rfl ?_
      refine g_iload_n X dX2_mendScratch_52 rfl rfl ?_
      refine g_istore_6 X dX2_mendScratch_53 rfl (lt_kN hNL rfl) rfl ?_
      have lp55 : ∀ (i : Int) (a : Int) (M1 : Mem) (ad1 : Ad) (cl : Nat) (sl : Nat) (i0 : f ≤ i) (i1 : i ≤ t + 1) (hA : AdG ad ad1) (hd : MdR (decS M p f t thr) (mvS M p) f i M M1) (ha : a = sm (dI (decS M p f t thr)) f i) (hcl : (cl ≤ mc ∧ sl ≤ ms) ∧ ((M1.1 12 0 0 0) ≤ (M.1 13 1 0 0) → cl = 0 ∧ sl = 0)), G κ nm ad1 M1 55 [some (.ref (ad1 10 0)), some (.int (iI p)), some (.int (iI f)), some (.int (iI t)), some (.int (iI thr)), some (.int (iI a)), some (.int (iI i)), none, none, none] [] cl sl := by
        refine ind6 (fun i a M1 ad1 cl sl => (120 - i).toNat) ?_
        intro i a M1 ad1 cl sl ih55 i0 i1 hA hd ha hcl
        refine g_rm (fun hM55 => ?_)
        obtain ⟨hcl1, hcl2⟩ := hcl.1
        have sb := sm_b1 (f := dI (decS M p f t thr)) (lo := f) (hi := i) i0 (fun k _ _ => bI_b _)
        have hnow := hd.2.2.2.2.1 i (fun q => by omega)
        have b1 := pt_b (M.2 31 4 i 0) (p - 1)
        have b2 := pt_b (M.2 31 4 i 0) (p + 1)
        have hcc := hd.2.2.2.2.2.1
        have hq := hc.2.2.1
        refine g_iload X dX2_mendScratch_55 rfl rfl ?_
        refine g_iload_n X dX2_mendScratch_57 rfl rfl ?_
        refine g_icmp_gt (tgt := 133) X dX2_mendScratch_58 rfl rfl (by omega) (by omega) (fun h58 => ?_) (fun h58 => ?_)
        · skip
          refine g_iload X dX2_mendScratch_133 rfl rfl ?_
          refine g_widen (cl' := mc) (sl' := ms) hcl1 hcl2 ?_
          have ei : i = t + 1 := by omega
          rw [ei] at ha hd
          exact g_ret Y dX2_mendScratch_135 ⟨_, rfl⟩ ⟨by rw [ha], hA, hd⟩
        · skip
          obtain ⟨g1, g2, g3, g4, g5⟩ := room_step (mc := mc) (ms := ms) hd hc i0 (show i < t + 1 by omega) (by omega) hroom hcl
          refine g_aload_n X dX2_mendScratch_61 rfl rfl ?_
          refine g_get X ci2 (n10 hN) (en10 _ _ _ _) (by decide) fl_X2_17 rfl dX2_mendScratch_62 rfl ?_
          refine g_iload X dX2_mendScratch_65 rfl rfl ?_
          refine g_rald X (n11 hN) (en11 _ _ _ _) (t0 := 6) rfl (by omega) (by omega) (by decide) dX2_mendScratch_67 rfl ?_
          refine g_get X ci3 (n31 hN (by omega) (by omega)) (en31 _ _ _ _) (by decide) fl_X2_41 rfl dX2_mendScratch_68 rfl ?_
          refine g_lng (b := (M.2 31 4 i 0)) hnow.1 ?_
          refine g_lstore_7 X dX2_mendScratch_71 rfl (lt_kN hNL rfl) rfl ?_
          refine g_lload X dX2_mendScratch_73 rfl rfl ?_
          refine g_iload_n X dX2_mendScratch_75 rfl rfl ?_
          refine g_iconst X dX2_mendScratch_76 rfl ?_
          refine g_isub X dX2_mendScratch_77 rfl ?_
          refine g_iS2_v X w_X7_at ml_X2_62 dX2_mendScratch_78 rfl ⟨⟨Nat.le_of_ble_eq_true rfl, Nat.le_of_ble_eq_true rfl⟩, by show _ + 0 ≤ mc; omega, by show _ + 0 ≤ ms; omega⟩ (Nat.le_of_ble_eq_true rfl) (c_X7_at hN) ?_
          refine g_lload X dX2_mendScratch_81 rfl rfl ?_
          refine g_iload_n X dX2_mendScratch_83 rfl rfl ?_
          refine g_iconst X dX2_mendScratch_84 rfl ?_
          refine g_iadd X dX2_mendScratch_85 rfl ?_
          refine g_iS2_v X w_X7_at ml_X2_62 dX2_mendScratch_86 rfl ⟨⟨Nat.le_of_ble_eq_true rfl, Nat.le_of_ble_eq_true rfl⟩, by show _ + 0 ≤ mc; omega, by show _ + 0 ≤ ms; omega⟩ (Nat.le_of_ble_eq_true rfl) (c_X7_at hN) ?_
          refine g_iadd X dX2_mendScratch_89 rfl ?_
          refine g_iconst X dX2_mendScratch_90 rfl ?_
          refine g_idiv X dX2_mendScratch_91 rfl (by omega) (by omega) (by omega) (by omega) ?_
          refine g_istore_9 X dX2_mendScratch_92 rfl (lt_kN hNL rfl) rfl ?_
          refine g_aload_n X dX2_mendScratch_94 rfl rfl ?_
          refine g_get X ci2 (n10 hN) (en10 _ _ _ _) (by decide) fl_X2_17 rfl dX2_mendScratch_95 rfl ?_
          refine g_iload X dX2_mendScratch_98 rfl rfl ?_
          refine g_rald X (n11 hN) (en11 _ _ _ _) (t0 := 6) rfl (by omega) (by omega) (by decide) dX2_mendScratch_100 rfl ?_
          refine g_iV0_v X w_X3_mayBeMended ml_X2_45 dX2_mendScratch_101 rfl (n31 hN (by omega) (by omega)) (en31 _ _ _ _) ⟨⟨Nat.le_of_ble_eq_true rfl, Nat.le_of_ble_eq_true rfl⟩, by show _ + 0 ≤ mc; omega, by show _ + 0 ≤ ms; omega⟩ (Nat.le_of_ble_eq_true rfl) (c_X3_mayBeMended hN (by omega) (by omega)) ?_
          refine g_ifB_eq (tgt := 127) X dX2_mendScratch_104 rfl rfl (fun h104 => ?_) (fun h104 => ?_)
          · skip
            have hnd : ¬ decS M p f t thr i := fun q => absurd ((hd.mb i).mpr q.2.1) (by assumption)
            have hA2 := hA
            have hd2 := hd.no i0 hnd
            have ha2 : a = sm (dI (decS M p f t thr)) f (i + 1) := by rw [sm_s _ i0, show dI (decS M p f t thr) i = 0 from bI_f hnd]; omega
            have hcl2' := hcl
            refine g_iinc_6 X dX2_mendScratch_127 rfl (lt_kN hNL rfl) rfl ?_
            refine g_goto (pc' := 55) X dX2_mendScratch_130 rfl ?_
            refine g_drop_7 ?_
            refine g_drop_9 ?_
            exact ih55 (i + 1) _ _ _ _ _ (by omega) (by omega) (by omega) hA2 hd2 ha2 hcl2'
          · skip
            have hmb : mayB M i := (hd.mb i).mp (by assumption)
            refine g_aload_n X dX2_mendScratch_107 rfl rfl ?_
            refine g_iload X dX2_mendScratch_108 rfl rfl ?_
            refine g_lload X dX2_mendScratch_110 rfl rfl ?_
            refine g_iload_n X dX2_mendScratch_112 rfl rfl ?_
            refine g_iload X dX2_mendScratch_113 rfl rfl ?_
            refine g_iS3_v X w_X7_with ml_X2_68 dX2_mendScratch_115 rfl ⟨⟨Nat.le_of_ble_eq_true rfl, Nat.le_of_ble_eq_true rfl⟩, by show _ + 0 ≤ mc; omega, by show _ + 0 ≤ ms; omega⟩ (Nat.le_of_ble_eq_true rfl) (c_X7_with hN) ?_
            refine g_iV2 (mc := gN (decS M p f t thr i ∧ (M1.1 13 1 0 0) ≤ (M1.1 12 0 0 0)) mc) (ms := gN (decS M p f t thr i ∧ (M1.1 13 1 0 0) ≤ (M1.1 12 0 0 0)) ms) X w_X2_change ml_X2_54 dX2_mendScratch_118 rfl (n10 hN) (en10 _ _ _ _) ⟨⟨Nat.le_of_ble_eq_true rfl, Nat.le_of_ble_eq_true rfl⟩, g1.1, g1.2⟩ (Nat.le_of_ble_eq_true rfl) (c_X2_change (p := i) (x := mvS M p i) hN (by omega) (by omega) hd.2.2.2.2.2.2.2.1 (by omega) (by rw [hnow.2.1]; have := nb i (by omega) (by omega); omega) (fun q => g2 ⟨hs, hmb, (hd.chg _).mp q⟩)) (fun v118 ad118 Mc118 hc118 => ?_)
            obtain ⟨hv118, hA118, hR118, hS118⟩ := hc118
            subst hv118
            refine g_rm (fun hMc118 => ?_)
            rw [← hA118 10 0 (by decide) (by decide) (by decide)]
            refine g_ifB_eq (tgt := 127) X dX2_mendScratch_121 rfl rfl (fun h121 => ?_) (fun h121 => ?_)
            · skip
              have hnc : ¬ chgP M1 i (mvS M p i) := by assumption
              have hnd : ¬ decS M p f t thr i := fun q => hnc ((hd.chg _).mpr q.2.2)
              have hA2 := hA.tr hA118
              have hd2 : MdR (decS M p f t thr) (mvS M p) f (i + 1) M Mc118 := by rw [hS118 hnc]; exact hd.no i0 hnd
              have ha2 : a = sm (dI (decS M p f t thr)) f (i + 1) := by rw [sm_s _ i0, show dI (decS M p f t thr) i = 0 from bI_f hnd]; omega
              have hcl2' : (cl + gN (decS M p f t thr i ∧ (M1.1 13 1 0 0) ≤ (M1.1 12 0 0 0)) mc ≤ mc ∧ sl + gN (decS M p f t thr i ∧ (M1.1 13 1 0 0) ≤ (M1.1 12 0 0 0)) ms ≤ ms) ∧ ((Mc118.1 12 0 0 0) ≤ (M.1 13 1 0 0) → cl + gN (decS M p f t thr i ∧ (M1.1 13 1 0 0) ≤ (M1.1 12 0 0 0)) mc = 0 ∧ sl + gN (decS M p f t thr i ∧ (M1.1 13 1 0 0) ≤ (M1.1 12 0 0 0)) ms = 0) := by
                rw [hS118 hnc, (g3 hnd).1, (g3 hnd).2]
                exact hcl
              refine g_iinc_6 X dX2_mendScratch_127 rfl (lt_kN hNL rfl) rfl ?_
              refine g_goto (pc' := 55) X dX2_mendScratch_130 rfl ?_
              refine g_drop_7 ?_
              refine g_drop_9 ?_
              exact ih55 (i + 1) _ _ _ _ _ (by omega) (by omega) (by omega) hA2 hd2 ha2 hcl2'
            · skip
              have hdec : decS M p f t thr i := ⟨hs, hmb, (hd.chg _).mp (by assumption)⟩
              refine g_iinc_5 X dX2_mendScratch_124 rfl (lt_kN hNL rfl) rfl ?_
              have hA2 := hA.tr hA118
              have hR2 := hR118 (by assumption)
              have hd2 : MdR (decS M p f t thr) (mvS M p) f (i + 1) M Mc118 := hd.yes i0 hdec hc hR2 g5
              have ha2 : a + 1 = sm (dI (decS M p f t thr)) f (i + 1) := by rw [sm_s _ i0, show dI (decS M p f t thr) i = 1 from bI_t hdec]; omega
              have hcl2' : (cl + gN (decS M p f t thr i ∧ (M1.1 13 1 0 0) ≤ (M1.1 12 0 0 0)) mc ≤ mc ∧ sl + gN (decS M p f t thr i ∧ (M1.1 13 1 0 0) ≤ (M1.1 12 0 0 0)) ms ≤ ms) ∧ ((Mc118.1 12 0 0 0) ≤ (M.1 13 1 0 0) → cl + gN (decS M p f t thr i ∧ (M1.1 13 1 0 0) ≤ (M1.1 12 0 0 0)) mc = 0 ∧ sl + gN (decS M p f t thr i ∧ (M1.1 13 1 0 0) ≤ (M1.1 12 0 0 0)) ms = 0) := ⟨g1, fun q => g4 hdec (by have := hR2.2.2.2.2.2.2.2.1; omega)⟩
              refine g_iinc_6 X dX2_mendScratch_127 rfl (lt_kN hNL rfl) rfl ?_
              refine g_goto (pc' := 55) X dX2_mendScratch_130 rfl ?_
              refine g_drop_7 ?_
              refine g_drop_9 ?_
              exact ih55 (i + 1) _ _ _ _ _ (by omega) (by omega) (by omega) hA2 hd2 ha2 hcl2'
      exact lp55 f 0 _ ad 0 0 (by omega) (by omega) (AdG.rf ad) (MdR.rf (Int.le_refl _) hc) (sm_0 _ (Int.le_refl _)).symm ⟨⟨Nat.zero_le _, Nat.zero_le _⟩, fun _ => ⟨rfl, rfl⟩⟩
    · skip
      refine g_aload_n X dX2_mendScratch_9 rfl rfl ?_
      refine g_get X ci2 (n10 hN) (en10 _ _ _ _) (by decide) fl_X2_17 rfl dX2_mendScratch_10 rfl ?_
      refine g_iload X dX2_mendScratch_13 rfl rfl ?_
      refine g_rald X (n11 hN) (en11 _ _ _ _) (t0 := 6) rfl (by omega) (by omega) (by decide) dX2_mendScratch_15 rfl ?_
      refine g_iV0_v X w_X3_mayBeMended ml_X2_45 dX2_mendScratch_16 rfl (n31 hN (by omega) (by omega)) (en31 _ _ _ _) ⟨⟨Nat.le_of_ble_eq_true rfl, Nat.le_of_ble_eq_true rfl⟩, by show _ + 0 ≤ mc; omega, by show _ + 0 ≤ ms; omega⟩ (Nat.le_of_ble_eq_true rfl) (c_X3_mayBeMended hN (by omega) (by omega)) ?_
      refine g_ifB_eq (tgt := 43) X dX2_mendScratch_19 rfl rfl (fun h19 => ?_) (fun h19 => ?_)
      · skip
        refine g_iinc_5 X dX2_mendScratch_43 rfl (lt_kN hNL rfl) rfl ?_
        refine g_goto (pc' := 3) X dX2_mendScratch_46 rfl ?_
        exact ih3 (i + 1) (by omega) (by omega) (by omega) (fun k h1 h2 h3 => by
                by_cases e : k = i
                · rw [e] at h3 ⊢; first | assumption | exact absurd h3 (by assumption)
                · exact ha k h1 (by omega) h3)
      · skip
        refine g_aload_n X dX2_mendScratch_22 rfl rfl ?_
        refine g_get X ci2 (n10 hN) (en10 _ _ _ _) (by decide) fl_X2_17 rfl dX2_mendScratch_23 rfl ?_
        refine g_iload X dX2_mendScratch_26 rfl rfl ?_
        refine g_rald X (n11 hN) (en11 _ _ _ _) (t0 := 6) rfl (by omega) (by omega) (by decide) dX2_mendScratch_28 rfl ?_
        refine g_get X ci3 (n31 hN (by omega) (by omega)) (en31 _ _ _ _) (by decide) fl_X2_41 rfl dX2_mendScratch_29 rfl ?_
        refine g_iload_n X dX2_mendScratch_32 rfl rfl ?_
        refine g_iload X dX2_mendScratch_33 rfl rfl ?_
        refine g_iS3_v X w_X2_isScratched ml_X2_58 dX2_mendScratch_35 rfl ⟨⟨Nat.le_of_ble_eq_true rfl, Nat.le_of_ble_eq_true rfl⟩, by show _ + 0 ≤ mc; omega, by show _ + 0 ≤ ms; omega⟩ (Nat.le_of_ble_eq_true rfl) (c_X2_isScratched hN (by omega) (by omega)) ?_
        refine g_ifB_ne (tgt := 43) X dX2_mendScratch_38 rfl rfl (fun h38 => ?_) (fun h38 => ?_)
        · skip
          refine g_iinc_5 X dX2_mendScratch_43 rfl (lt_kN hNL rfl) rfl ?_
          refine g_goto (pc' := 3) X dX2_mendScratch_46 rfl ?_
          exact ih3 (i + 1) (by omega) (by omega) (by omega) (fun k h1 h2 h3 => by
                  by_cases e : k = i
                  · rw [e] at h3 ⊢; first | assumption | exact absurd h3 (by assumption)
                  · exact ha k h1 (by omega) h3)
        · skip
          have hns : ¬ scrAll M p f t thr := fun q => absurd (q i (by omega) (by omega) (by assumption)) (by assumption)
          refine g_iconst X dX2_mendScratch_41 rfl ?_
          refine g_widen (cl' := mc) (sl' := ms) (Nat.zero_le _) (Nat.zero_le _) ?_
          have hno : ∀ k, ¬ decS M p f t thr k := fun k q => hns q.1
          have hid := MdR.idle (mv := (mvS M p)) (lo := f) hc hno (t + 1 - f).toNat
          rw [show f + ((t + 1 - f).toNat : Int) = t + 1 by omega] at hid
          exact g_ret Y dX2_mendScratch_42 ⟨_, rfl⟩ ⟨by rw [show sm (dI (decS M p f t thr)) f (t + 1) = 0 from (sm_c (g := fun _ => 0) (fun k _ _ => bI_f (hno k))).trans (sm_zero _ _)], AdG.rf ad, hid⟩
  exact lp3 f (by omega) (by omega) (fun k h1 h2 => by omega)
