
/-! pure: sums, points of a frame -/
def isum (f : Int → Int) (lo : Int) : Nat → Int
  | 0 => 0
  | n + 1 => isum f lo n + f (lo + (n : Int))
def sm (f : Int → Int) (lo hi : Int) : Int := isum f lo (hi - lo).toNat
theorem sm_0 (f : Int → Int) {lo hi : Int} (h : hi ≤ lo) : sm f lo hi = 0 := by
  unfold sm
  rw [show (hi - lo).toNat = 0 by omega]
  rfl
theorem sm_s (f : Int → Int) {lo hi : Int} (h : lo ≤ hi) : sm f lo (hi + 1) = sm f lo hi + f hi := by
  unfold sm
  rw [show (hi + 1 - lo).toNat = (hi - lo).toNat + 1 by omega]
  show isum f lo _ + f (lo + ((hi - lo).toNat : Int)) = _
  rw [show lo + ((hi - lo).toNat : Int) = hi by omega]
theorem isum_c {f g : Int → Int} {lo : Int} : ∀ n : Nat, (∀ k, lo ≤ k → k < lo + n → f k = g k) → isum f lo n = isum g lo n
  | 0, _ => rfl
  | n + 1, h => by
    show isum f lo n + f _ = isum g lo n + g _
    rw [isum_c n (fun k h1 h2 => h k h1 (by omega)), h _ (by omega) (by omega)]
theorem sm_c {f g : Int → Int} {lo hi : Int} (h : ∀ k, lo ≤ k → k < hi → f k = g k) : sm f lo hi = sm g lo hi := by
  unfold sm
  rcases Int.lt_or_le lo hi with q | q
  · exact isum_c _ (fun k h1 h2 => h k h1 (by omega))
  · rw [show (hi - lo).toNat = 0 by omega]; rfl
theorem isum_b {f : Int → Int} {lo c : Int} : ∀ n : Nat, (∀ k, lo ≤ k → k < lo + n → 0 ≤ f k ∧ f k ≤ c) → 0 ≤ isum f lo n ∧ isum f lo n ≤ c * n
  | 0, _ => ⟨Int.le_refl _, by simp [isum]⟩
  | n + 1, h => by
    have h1 := isum_b n (fun k h1 h2 => h k h1 (by omega))
    have h2 := h (lo + n) (by omega) (by omega)
    show 0 ≤ isum f lo n + f _ ∧ isum f lo n + f _ ≤ c * ((n + 1 : Nat) : Int)
    have h3 : c * ((n + 1 : Nat) : Int) = c * n + c := by rw [Int.natCast_add, Int.mul_add]; simp
    omega
theorem sm_b {f : Int → Int} {lo hi c : Int} (hl : lo ≤ hi) (h : ∀ k, lo ≤ k → k < hi → 0 ≤ f k ∧ f k ≤ c) : 0 ≤ sm f lo hi ∧ sm f lo hi ≤ c * (hi - lo) := by
  have h1 := isum_b (hi - lo).toNat (fun k h1 h2 => h k h1 (by omega))
  rw [show ((hi - lo).toNat : Int) = hi - lo by omega] at h1
  exact h1
/-- a sum of truths lies between 0 and how many there are -/
theorem sm_b1 {f : Int → Int} {lo hi : Int} (hl : lo ≤ hi) (h : ∀ k, lo ≤ k → k < hi → 0 ≤ f k ∧ f k ≤ 1) : 0 ≤ sm f lo hi ∧ sm f lo hi ≤ hi - lo := by
  have h1 := sm_b hl h
  rw [Int.one_mul] at h1
  exact h1
theorem sm_app (f : Int → Int) {lo mi hi : Int} (h1 : lo ≤ mi) (h2 : mi ≤ hi) : sm f lo hi = sm f lo mi + sm f mi hi := by
  obtain ⟨n, hn⟩ : ∃ n : Nat, hi = mi + n := ⟨(hi - mi).toNat, by omega⟩
  subst hn
  clear h2
  induction n with
  | zero => rw [sm_0 f (lo := mi) (by omega)]; simp
  | succ n ih =>
    rw [show mi + ((n + 1 : Nat) : Int) = (mi + n) + 1 by omega, sm_s f (by omega), sm_s f (by omega), ih]
    omega
/-- a point of a frame, as the code has it -/
def pt (x : Int64) (k : Int) : Int := (iI ((x.toUInt64 >>> ((iI (8 * k)).toInt64.toUInt64 &&& Int64.toUInt64 63)).toInt64.toInt32.toInt) &&& iI 255).toInt
theorem pt_b (x : Int64) (k : Int) : 0 ≤ pt x k ∧ pt x k ≤ 255 := by
  unfold pt
  rw [pk_and _ 8 (by decide)]
  have h := Nat.mod_lt ((iI (x.toUInt64 >>> ((iI (8 * k)).toInt64.toUInt64 &&& Int64.toUInt64 63)).toInt64.toInt32.toInt).toBitVec.toNat) (show 0 < 2 ^ 8 by decide)
  rw [nI_toInt (by omega)]
  omega
/-- a frame with another point at a place, as the code has it -/
def ptSet (x : Int64) (k v : Int) : Int64 := (x &&& ((255 : Int64) <<< ((iI (8 * k)).toInt64 &&& 63) ^^^ (-1))) ||| ((iI v).toInt64 <<< ((iI (8 * k)).toInt64 &&& 63))
def dterm (x y : Int64) (k : Int) : Int := if 0 ≤ pt x k - pt y k then pt x k - pt y k else 0 - (pt x k - pt y k)
theorem dterm_b (x y : Int64) (k : Int) : 0 ≤ dterm x y k ∧ dterm x y k ≤ 255 := by
  have h1 := pt_b x k
  have h2 := pt_b y k
  unfold dterm
  omega
def dist (x y : Int64) : Int := sm (dterm x y) 0 8
theorem dist_b (x y : Int64) : 0 ≤ dist x y ∧ dist x y ≤ 2040 := by
  have h := sm_b (f := dterm x y) (lo := 0) (hi := 8) (c := 255) (by decide) (fun k _ _ => dterm_b x y k)
  unfold dist
  omega
noncomputable def uterm (x y : Int64) (k : Int) : Int := bI (pt x k ≠ pt y k)
noncomputable def unl (x y : Int64) : Int := sm (uterm x y) 0 8
theorem unl_b (x y : Int64) : 0 ≤ unl x y ∧ unl x y ≤ 8 := by
  have h := sm_b1 (f := uterm x y) (lo := 0) (hi := 8) (by decide) (fun k _ _ => bI_b _)
  unfold unl
  omega
def tot (x : Int64) : Int := sm (pt x) 0 8
theorem tot_b (x : Int64) : 0 ≤ tot x ∧ tot x ≤ 2040 := by
  have h := sm_b (f := pt x) (lo := 0) (hi := 8) (c := 255) (by decide) (fun k _ _ => pt_b x k)
  unfold tot
  omega


/-! reels -/
noncomputable def jterm (M : Mem) (i j : Int) : Int := bI ((M.1 17 0 i j) ≠ (M.1 17 0 i (j - 1)) + 1)
noncomputable def jumps (M : Mem) (i : Int) : Int := sm (jterm M i) 1 (M.1 16 6 i 0)
noncomputable def mterm (M : Mem) (i c : Int) : Int := bI ((M.1 20 0 i c) = -1)
noncomputable def missing (M : Mem) (i : Int) : Int := sm (mterm M i) (M.1 16 8 i 0) ((M.1 16 9 i 0) + 1)
def isF (M : Mem) (i c : Int) : Prop := (M.1 21 0 i c) ≠ 0 ∨ ((M.1 16 8 i 0) < c ∧ c < (M.1 16 9 i 0) ∧ (M.1 20 0 i c) = -1)
noncomputable def fterm (M : Mem) (i c : Int) : Int := bI (isF M i c)
noncomputable def faults (M : Mem) (i : Int) : Int := sm (fterm M i) (M.1 16 8 i 0) ((M.1 16 9 i 0) + 1)
def hasFs (M : Mem) (i o : Int) : Prop := ∀ c, (M.1 16 8 o 0) ≤ c → c ≤ (M.1 16 9 o 0) → isF M o c → isF M i c
def yearly (M : Mem) (i : Int) : Int := if (M.1 16 5 i 0) = 0 then (if (M.1 16 0 i 0) = 0 then 3 else 2) else 1
def ytc (M : Mem) (i now : Int) : Int := if 200 ≤ (M.1 16 4 i 0) then now else now + (200 - (M.1 16 4 i 0) + yearly M i - 1).tdiv (yearly M i)
theorem yearly_b (M : Mem) (i : Int) : 1 ≤ yearly M i ∧ yearly M i ≤ 3 := by
  unfold yearly
  split
  · split <;> decide
  · decide
