set_option maxRecDepth 100000 in
set_option maxHeartbeats 4000000 in
theorem law_switch {κ : Kx} {nm : List (Nat × Int)} {ad : Ad} {M : Mem} {b L : Nat} {xs : Nat → Int32} {n z : Int} {cl sl : Nat} (X : Cx κ cL_law RL room_1) (hNL : kN κ = 9) (S : Scr κ b L xs) (hN : NmOk nm) (hm : NmM nm) (hI : Inv n M M) (n0 : 0 ≤ n) (n1 : 6 * n + 6 ≤ (L : Int)) (hcl : cl ≤ 2000 + 8 * n.toNat) (hsl : sl ≤ 900000 + 32 * n.toNat + 6 * ((M.1 13 1 0 0)).toNat) (hk : Goon κ nm b n) (z0 : 0 ≤ z) (z1 : z ≤ 31) : G κ nm ad M 45 [some (.ref b), some (.ref (ad 0 0)), some (.ref (ad 40 0)), some (.ref (ad 90 0)), some (.ref (ad 91 0)), some (.int (iI (6 * n))), none, none, none] [.int (iI z)] cl sl := by
  have rz : rng z := ⟨by omega, by omega⟩
  by_cases h31 : z = 31
  · exact g_swOut (tgt := 2397) X dL_law_45 rz (Or.inr (by omega)) rfl (hk ad M cl sl hI.up (by omega) (by omega))
  · rcases (show z = 0 ∨ z = 1 ∨ z = 2 ∨ z = 3 ∨ z = 4 ∨ z = 5 ∨ z = 6 ∨ z = 7 ∨ z = 8 ∨ z = 9 ∨ z = 10 ∨ z = 11 ∨ z = 12 ∨ z = 13 ∨ z = 14 ∨ z = 15 ∨ z = 16 ∨ z = 17 ∨ z = 18 ∨ z = 19 ∨ z = 20 ∨ z = 21 ∨ z = 22 ∨ z = 23 ∨ z = 24 ∨ z = 25 ∨ z = 26 ∨ z = 27 ∨ z = 28 ∨ z = 29 ∨ z = 30 by omega) with h | h | h | h | h | h | h | h | h | h | h | h | h | h | h | h | h | h | h | h | h | h | h | h | h | h | h | h | h | h | h
    · exact g_swIn (tgt := 184) X dL_law_45 rz (by omega) (by omega) (by rw [h]; rfl) rfl (k_reel X hNL S hN hm hI n0 n1 hcl hsl hk)
    · exact g_swIn (tgt := 288) X dL_law_45 rz (by omega) (by omega) (by rw [h]; rfl) rfl (k_frame X hNL S hN hm hI n0 n1 hcl hsl hk)
    · exact g_swIn (tgt := 380) X dL_law_45 rz (by omega) (by omega) (by rw [h]; rfl) rfl (k_splice X hNL S hN hm hI n0 n1 hcl hsl hk)
    · exact g_swIn (tgt := 448) X dL_law_45 rz (by omega) (by omega) (by rw [h]; rfl) rfl (k_cold X hNL S hN hm hI n0 n1 hcl hsl hk)
    · exact g_swIn (tgt := 532) X dL_law_45 rz (by omega) (by omega) (by rw [h]; rfl) rfl (k_copy X hNL S hN hm hI n0 n1 hcl hsl hk)
    · exact g_swIn (tgt := 588) X dL_law_45 rz (by omega) (by omega) (by rw [h]; rfl) rfl (k_ofReel X hNL S hN hm hI n0 n1 hcl hsl hk)
    · exact g_swIn (tgt := 656) X dL_law_45 rz (by omega) (by omega) (by rw [h]; rfl) rfl (k_tolerance X hNL S hN hm hI n0 n1 hcl hsl hk)
    · exact g_swIn (tgt := 712) X dL_law_45 rz (by omega) (by omega) (by rw [h]; rfl) rfl (k_align X hNL S hN hm hI n0 n1 hcl hsl hk)
    · exact g_swIn (tgt := 780) X dL_law_45 rz (by omega) (by omega) (by rw [h]; rfl) rfl (k_pairOf X hNL S hN hm hI n0 n1 hcl hsl hk)
    · exact g_swIn (tgt := 860) X dL_law_45 rz (by omega) (by omega) (by rw [h]; rfl) rfl (k_alike X hNL S hN hm hI n0 n1 hcl hsl hk)
    · exact g_swIn (tgt := 974) X dL_law_45 rz (by omega) (by omega) (by rw [h]; rfl) rfl (k_version X hNL S hN hm hI n0 n1 hcl hsl hk)
    · exact g_swIn (tgt := 1042) X dL_law_45 rz (by omega) (by omega) (by rw [h]; rfl) rfl (k_shot X hNL S hN hm hI n0 n1 hcl hsl hk)
    · exact g_swIn (tgt := 1122) X dL_law_45 rz (by omega) (by omega) (by rw [h]; rfl) rfl (k_proof X hNL S hN hm hI n0 n1 hcl hsl hk)
    · exact g_swIn (tgt := 1178) X dL_law_45 rz (by omega) (by omega) (by rw [h]; rfl) rfl (k_speed X hNL S hN hm hI n0 n1 hcl hsl hk)
    · exact g_swIn (tgt := 1258) X dL_law_45 rz (by omega) (by omega) (by rw [h]; rfl) rfl (k_ofVersion X hNL S hN hm hI n0 n1 hcl hsl hk)
    · exact g_swIn (tgt := 1326) X dL_law_45 rz (by omega) (by omega) (by rw [h]; rfl) rfl (k_scrap X hNL S hN hm hI n0 n1 hcl hsl hk)
    · exact g_swIn (tgt := 1394) X dL_law_45 rz (by omega) (by omega) (by rw [h]; rfl) rfl (k_tint X hNL S hN hm hI n0 n1 hcl hsl hk)
    · exact g_swIn (tgt := 1462) X dL_law_45 rz (by omega) (by omega) (by rw [h]; rfl) rfl (k_right X hNL S hN hm hI n0 n1 hcl hsl hk)
    · exact g_swIn (tgt := 1566) X dL_law_45 rz (by omega) (by omega) (by rw [h]; rfl) rfl (k_allow X hNL S hN hm hI n0 n1 hcl hsl hk)
    · exact g_swIn (tgt := 1669) X dL_law_45 rz (by omega) (by omega) (by rw [h]; rfl) rfl (k_mayShow X hNL S hN hm hI n0 n1 hcl hsl hk)
    · exact g_swIn (tgt := 1756) X dL_law_45 rz (by omega) (by omega) (by rw [h]; rfl) rfl (k_edition X hNL S hN hm hI n0 n1 hcl hsl hk)
    · exact g_swIn (tgt := 1812) X dL_law_45 rz (by omega) (by omega) (by rw [h]; rfl) rfl (k_protect X hNL S hN hm hI n0 n1 hcl hsl hk)
    · exact g_swIn (tgt := 1903) X dL_law_45 rz (by omega) (by omega) (by rw [h]; rfl) rfl (k_limit X hNL S hN hm hI n0 n1 hcl hsl hk)
    · exact g_swIn (tgt := 1959) X dL_law_45 rz (by omega) (by omega) (by rw [h]; rfl) rfl (k_dirt X hNL S hN hm hI n0 n1 hcl hsl hk)
    · exact g_swIn (tgt := 2015) X dL_law_45 rz (by omega) (by omega) (by rw [h]; rfl) rfl (k_scratch X hNL S hN hm hI n0 n1 hcl hsl hk)
    · exact g_swIn (tgt := 2107) X dL_law_45 rz (by omega) (by omega) (by rw [h]; rfl) rfl (k_flicker X hNL S hN hm hI n0 n1 hcl hsl hk)
    · exact g_swIn (tgt := 2120) X dL_law_45 rz (by omega) (by omega) (by rw [h]; rfl) rfl (k_takeBack X hNL S hN hm hI n0 n1 hcl hsl hk)
    · exact g_swIn (tgt := 2176) X dL_law_45 rz (by omega) (by omega) (by rw [h]; rfl) rfl (k_ofFrame X hNL S hN hm hI n0 n1 hcl hsl hk)
    · exact g_swIn (tgt := 2244) X dL_law_45 rz (by omega) (by omega) (by rw [h]; rfl) rfl (k_seen X hNL S hN hm hI n0 n1 hcl hsl hk)
    · exact g_swIn (tgt := 2299) X dL_law_45 rz (by omega) (by omega) (by rw [h]; rfl) rfl (k_sum X hNL S hN hm hI n0 n1 hcl hsl hk)
    · exact g_swIn (tgt := 2341) X dL_law_45 rz (by omega) (by omega) (by rw [h]; rfl) rfl (k_pass X hNL S hN hm hI n0 n1 hcl hsl hk)
set_option maxRecDepth 100000 in
set_option maxHeartbeats 4000000 in
theorem law_loop {κ : Kx} {nm : List (Nat × Int)} {b L : Nat} {xs : Nat → Int32} (X : Cx κ cL_law RL room_1) (hNL : kN κ = 9) (S : Scr κ b L xs) (hN : NmOk nm) (hm : NmM nm) (hend : ∀ (ad : Ad) (M : Mem) (cl sl : Nat) (lv : List (Option Value)), cl ≤ 601024 → sl ≤ 7293034 → G κ nm ad M 2403 lv [] cl sl) : ∀ (d : Nat) (n : Int) (ad : Ad) (M : Mem) (cl sl : Nat), 0 ≤ n → n ≤ 512 → n + d = 600 → Inv n M M → cl ≤ 2000 + 8 * n.toNat → sl ≤ 900000 + 32 * n.toNat + 6 * ((M.1 13 1 0 0)).toNat → G κ nm ad M 28 [some (.ref b), some (.ref (ad 0 0)), some (.ref (ad 40 0)), some (.ref (ad 90 0)), some (.ref (ad 91 0)), some (.int (iI (6 * n))), none, none, none] [] cl sl := by
  have hL := S.2.2.2
  intro d
  induction d with
  | zero => intro n ad M cl sl n0 n5 hd; omega
  | succ d ih =>
    intro n ad M cl sl n0 n5 hd hI hcl hsl
    have hcap : 120 ≤ (M.1 13 1 0 0) ∧ (M.1 13 1 0 0) ≤ 61440 := by have := hI.2.2.2.2.2.cap.2.2.1; omega
    refine g_iload X dL_law_28 rfl rfl ?_
    refine g_aload_n X dL_law_30 rfl rfl ?_
    refine g_slen X S dL_law_31 rfl ?_
    refine g_bipush X dL_law_32 rfl (by decide) ?_
    refine g_isub X dL_law_34 rfl ?_
    refine g_icmp_gt (tgt := 2403) X dL_law_35 rfl rfl ⟨by omega, by omega⟩ ⟨by omega, by omega⟩ (fun _ => hend ad M cl sl _ (by omega) (by omega)) (fun hle => ?_)
    refine g_aload_n X dL_law_38 rfl rfl ?_
    refine g_iload X dL_law_39 rfl rfl ?_
    refine g_sld X S (by omega) (by omega) dL_law_41 rfl ?_
    refine g_bipush X dL_law_42 rfl (by decide) ?_
    obtain ⟨z, ez, z0, z1⟩ := and31 (sc xs (6 * n))
    refine g_iand X dL_law_44 rfl ez ?_
    refine law_switch X hNL S hN hm hI n0 (by omega) hcl hsl (fun ad2 M2 cl2 sl2 hI2 h1 h2 => ?_) z0 z1
    refine g_iinc_5 X dL_law_2397 rfl (lt_kN hNL rfl) rfl ?_
    refine g_goto (pc' := 28) X dL_law_2400 rfl ?_
    have e6 : 6 * n + 6 = 6 * (n + 1) := by omega
    rw [e6]
    exact ih (n + 1) ad2 M2 cl2 sl2 (by omega) (by omega) (by omega) hI2 h1 h2
