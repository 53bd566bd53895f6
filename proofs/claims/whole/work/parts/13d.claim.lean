/-! THE CLAIM OUT OF ONE WALK OF THE LAW'S BODY. Your part is whole_start (and what it stands on); all else here is the same for every law, but numbers. -/
def R_law : String := "ReelrescueLaw"
def lw_P (b : Addr) (xs : List Int32) (args : Array Value) (s : State) : Prop := args = #[.ref b] ∧ s.IntsAt b xs ∧ xs.length ≤ 3072 ∧ (Jvm.Cond.and given_1 narrow_1).before args s = true
/-- what a walk over the start with the record d0 says of its end, said of the start itself -/
theorem lw_closed {s t : State} {o : Outcome} {d0 : Drawn} {L : List Loc} {k n : Nat} (hd0 : s.drawn.sameBut d0 lw_cs) (hv : ∃ v, o = .returned v) (hW : (s.setDrawn d0).WarmedH t.vm) (hs : (s.setDrawn d0).sameButNew ({ t with vm := s.vm } : State) L k n) : State.butDraws s t lw_cs (fun t1 => Framed s o t1 L k n) := by
  have h2 : t.drawn = d0 := congrArg State.drawn hs.1
  refine ⟨⟨hv, hW, State.sameButNew.setDrawn hs s.drawn⟩, ?_, by decide⟩
  rw [h2]
  exact hd0
def lw_Q (_ : Array Value) (s : State) (o : Outcome) (t : State) : Prop := o = .returned (some (.int 1)) ∧ State.butDraws s t lw_cs (fun t1 => Framed s o t1 [] 601024 7293034)
def lw_Z (below : List Frame) (a : Array Value) (s : State) : State → Prop := fun t => ∃ o, t.status = .running ∧ Ended t below o ∧ lw_Q a s o t
/-- the law's own end, with 1 on the stack, nothing written that was there before, its room as the claim has it; d0: the record of draws at this point (at the entry s.drawn: begin with 'refine W.base ?_' and 'have hd0 := Drawn.sameBut.refl s.drawn lw_cs') -/
theorem lw_ret {p : Program} {l : Launch} {e : Env} {s : State} {m : MethodId} {below : List Frame} {meth : Method} {c : Code} {b : Nat} {d0 : Drawn} (hd0 : s.drawn.sameBut d0 lw_cs) (hx : p.tables.exec = Jvm.exec) (hb : c.code = code) (hr : meth.sig.returnType = ret) (hlocks : meth.locks = false) {pc : Nat} {H : Heap} {ls : Array Slot} (hdg : decode code pc = .ok (.ireturn, 1)) : W p l e room_1 (s.setDrawn d0) m #[Value.ref b] below meth c H [] 601024 7293034 (lw_Z below #[Value.ref b] s) (F0 m pc ls [.int 1]) := by
  intro T hT X
  obtain ⟨fs, hret, hrun, hended, hW, hframe⟩ := X.leave (v := some (.int 1)) (hlocks := hlocks) (fun h => by rw [hr] at h; cases h)
  have hmeth' : T.vm.method? m = some meth := X.method'
  refine ⟨T.setFrames fs, ?_, .returned (some (.int 1)), hrun, hended, rfl, lw_closed hd0 ⟨_, rfl⟩ hW hframe⟩
  jvm_step X.here [X.here.top, hx, hb, hdg, hmeth', hr, ret, narrow_b1]
  (try refine ⟨rfl, ?_⟩); (try refine ⟨rfl, ?_⟩)
  first | (intro acts; rw [hret _ acts rfl rfl rfl]) | rw [hret _ _ rfl rfl rfl]
  exact Steps.refl _
/-- what holds at the law's entry: the machine, the code, the tables' words (any of lw_tbl by 'hts w (by decide +kernel)'), the script of L ints xs at the cell b, what the Statement gives of the start (any of its parts by flat_of_before) -/
def lw_At (p : Program) (s : State) (m : MethodId) (meth : Method) (c : Code) (b L : Nat) (xs : Nat → Int32) : Prop :=
  p.tables.exec = Jvm.exec ∧ c.code = code ∧ meth.sig.returnType = ret ∧ c.maxLocals = 9 ∧ s.vm.findClass R_law = some m.cls ∧ (∀ w ∈ lw_tbl, w.before #[Value.ref b] s = true) ∧ va_X b L xs s s.heap ∧ b < s.heap.size ∧ meth.locks = false ∧ (Jvm.Cond.and given_1 narrow_1).before #[Value.ref b] s = true
-- ===== YOUR PART BEGINS =====
set_option maxRecDepth 100000 in
set_option maxHeartbeats 4000000 in
/-- YOUR PART: from the entry, for every script of at most 3072 ints, the law comes to its end with true ('hflags': the launch's flags, for a law that throws: no stack traces) -/
theorem whole_start {p : Program} {e : Env} {s : State} {m : MethodId} {below : List Frame} {meth : Method} {c : Code} (l : Launch) (hflags : l.flags = flags0) {b L : Nat} {xs : Nat → Int32} (hL : L ≤ 3072) (C0 : lw_At p s m meth c b L xs) : W p l e room_1 s m #[Value.ref b] below meth c s.heap [] 0 0 (lw_Z below #[Value.ref b] s) (entryFrame m ([Value.ref b] : List Value).toArray 9) := by
  refine W.base ?_
  have hd0 := Drawn.sameBut.refl s.drawn lw_cs
  obtain ⟨hx, hb, hr, hml, hown, hts, hX, hbl, hlocks, hgv⟩ := C0
  have hts1 : ∀ w ∈ lw_tbl, w.before #[Value.ref b] (s.setDrawn s.drawn) = true := dr_words hts _
  have hg := flat_of_before _ hgv
  have hg1 := dr_words hg s.drawn
  obtain ⟨D, c0, hK⟩ := start_K hts1
  have hA : ∀ a : Nat, a < (s.setDrawn s.drawn).heap.size → ¬ (fun q : Nat => s.heap.size ≤ q) a := fun a h q => absurd q (Nat.not_le.mpr h)
  have s142 : ∃ a, vk_R RX11 142 "no such what" a (s.setDrawn s.drawn) := by
    obtain ⟨a, _, _, _, ha, _⟩ := Cond.exactly_spec (hg1 (Cond.exactly (.string "Reelrescue" 142) "java/lang/String") (by decide +kernel))
    exact ⟨a, vk_R.of (A := #[Value.ref b]) (hts1 (Cond.stringRef "Reelrescue" 142 "no such what") (List.mem_of_getElem? (i := 696) (by decide +kernel))) ha⟩
  have s313 : ∃ a, vk_R RX11 313 "out of range" a (s.setDrawn s.drawn) := by
    obtain ⟨a, _, _, _, ha, _⟩ := Cond.exactly_spec (hg1 (Cond.exactly (.string "Reelrescue" 313) "java/lang/String") (by decide +kernel))
    exact ⟨a, vk_R.of (A := #[Value.ref b]) (hts1 (Cond.stringRef "Reelrescue" 313 "out of range") (List.mem_of_getElem? (i := 571) (by decide +kernel))) ha⟩
  have s317 : ∃ a, vk_R RX11 317 "not possible now" a (s.setDrawn s.drawn) := by
    obtain ⟨a, _, _, _, ha, _⟩ := Cond.exactly_spec (hg1 (Cond.exactly (.string "Reelrescue" 317) "java/lang/String") (by decide +kernel))
    exact ⟨a, vk_R.of (A := #[Value.ref b]) (hts1 (Cond.stringRef "Reelrescue" 317 "not possible now") (List.mem_of_getElem? (i := 590) (by decide +kernel))) ha⟩
  have s322 : ∃ a, vk_R RX11 322 "no such place" a (s.setDrawn s.drawn) := by
    obtain ⟨a, _, _, _, ha, _⟩ := Cond.exactly_spec (hg1 (Cond.exactly (.string "Reelrescue" 322) "java/lang/String") (by decide +kernel))
    exact ⟨a, vk_R.of (A := #[Value.ref b]) (hts1 (Cond.stringRef "Reelrescue" 322 "no such place") (List.mem_of_getElem? (i := 529) (by decide +kernel))) ha⟩
  have sE : ∀ E ∈ exN, va_Nw (.castable E E) (s.setDrawn s.drawn) := by
    intro E hE
    simp only [exN, List.mem_cons, List.not_mem_nil, or_false] at hE
    rcases hE with hE | hE | hE <;> subst hE
    · exact va_Nw.of rfl (hts1 (Cond.castable "java/lang/IndexOutOfBoundsException" "java/lang/IndexOutOfBoundsException") (List.mem_of_getElem? (i := 490) (by decide +kernel)))
    · exact va_Nw.of rfl (hts1 (Cond.castable "java/lang/IllegalArgumentException" "java/lang/IllegalArgumentException") (List.mem_of_getElem? (i := 564) (by decide +kernel)))
    · exact va_Nw.of rfl (hts1 (Cond.castable "java/lang/IllegalStateException" "java/lang/IllegalStateException") (List.mem_of_getElem? (i := 583) (by decide +kernel)))
  have sN : ∀ E ∈ exN, ∀ F ∈ exN, E ≠ F → va_Nc E F (s.setDrawn s.drawn) := by
    intro E hE F hF hEF
    simp only [exN, List.mem_cons, List.not_mem_nil, or_false] at hE hF
    rcases hE with hE | hE | hE <;> subst hE <;> rcases hF with hF | hF | hF <;> subst hF
    · exact absurd rfl hEF
    · exact va_Nc.of (hg1 (Cond.not (.castable "java/lang/IndexOutOfBoundsException" "java/lang/IllegalArgumentException")) (by decide +kernel))
    · exact va_Nc.of (hg1 (Cond.not (.castable "java/lang/IndexOutOfBoundsException" "java/lang/IllegalStateException")) (by decide +kernel))
    · exact va_Nc.of (hg1 (Cond.not (.castable "java/lang/IllegalArgumentException" "java/lang/IndexOutOfBoundsException")) (by decide +kernel))
    · exact absurd rfl hEF
    · exact va_Nc.of (hg1 (Cond.not (.castable "java/lang/IllegalArgumentException" "java/lang/IllegalStateException")) (by decide +kernel))
    · exact va_Nc.of (hg1 (Cond.not (.castable "java/lang/IllegalStateException" "java/lang/IndexOutOfBoundsException")) (by decide +kernel))
    · exact va_Nc.of (hg1 (Cond.not (.castable "java/lang/IllegalStateException" "java/lang/IllegalArgumentException")) (by decide +kernel))
    · exact absurd rfl hEF
  have hZ : Zz (fun q : Nat => s.heap.size ≤ q) (s.setDrawn s.drawn) := ⟨(vx_Zqof (hts1 (Cond.laysStatic Bundle.tN "UNASSIGNED_STACK" Bundle.steD) (List.mem_of_getElem? (i := 515) (by decide +kernel))) (hts1 (Cond.initialized Bundle.tN) (List.mem_of_getElem? (i := 59) (by decide +kernel))) (hg1 (Cond.isRef (.static Bundle.tN "UNASSIGNED_STACK" Bundle.steD)) (by decide +kernel)) hA), (vx_Zqof (hts1 (Cond.laysStatic Bundle.tN "SUPPRESSED_SENTINEL" Bundle.listD) (List.mem_of_getElem? (i := 517) (by decide +kernel))) (hts1 (Cond.initialized Bundle.tN) (List.mem_of_getElem? (i := 59) (by decide +kernel))) (hg1 (Cond.isRef (.static Bundle.tN "SUPPRESSED_SENTINEL" Bundle.listD)) (by decide +kernel)) hA), s142, s313, s317, s322, fun a i x h q => va_Nw.of rfl (hts1 _ q), sE, sN, fun C h => va_AO.of (hts1 _ h), va_AOA.of (hts1 _ ao_int), fun x h => va_Nw.of rfl (hts1 _ h)⟩
  have hst : l.stackTraces = false := by
    unfold Launch.stackTraces
    rw [hflags]
    decide +kernel
  have X : Cx (((p, l, e, room_1, s.setDrawn s.drawn, m), (#[Value.ref b], below, meth, c, lw_Z below #[Value.ref b] s), (D, c0, fun q : Nat => s.heap.size ≤ q, 9)) : Kx) cL_law RL room_1 := ⟨hx, hb, hml, hown, fun w hw => hts1 w (Tb_in hw), hK, fun q hq => hq, rfl, hst, hlocks, hZ⟩
  have S : Scr (((p, l, e, room_1, s.setDrawn s.drawn, m), (#[Value.ref b], below, meth, c, lw_Z below #[Value.ref b] s), (D, c0, fun q : Nat => s.heap.size ≤ q, 9)) : Kx) b L xs := ⟨hX, hbl, fun q => absurd q (Nat.not_le.mpr hbl), hL⟩
  have hend : ∀ (ad : Ad) (M : Mem) (cl sl : Nat) (lv : List (Option Value)), cl ≤ 601024 → sl ≤ 7293034 → G (((p, l, e, room_1, s.setDrawn s.drawn, m), (#[Value.ref b], below, meth, c, lw_Z below #[Value.ref b] s), (D, c0, fun q : Nat => s.heap.size ≤ q, 9)) : Kx) NML ad M 2403 lv [] cl sl := by
    intro ad M cl sl lv h1 h2
    refine g_iconst X dL_law_2403 rfl ?_
    intro hM H locs ls hP hD hS hl
    have e1 : iI 1 = 1 := by decide
    rw [e1]
    exact va_forget hS.2.2 (W.widen h1 h2 (lw_ret hd0 hx hb hr hlocks dL_law_2404))
  have body : GW (((p, l, e, room_1, s.setDrawn s.drawn, m), (#[Value.ref b], below, meth, c, lw_Z below #[Value.ref b] s), (D, c0, fun q : Nat => s.heap.size ≤ q, 9)) : Kx) [] 0 [some (.ref b), none, none, none, none, none, none, none, none] [] 0 0 := by
    refine h_new X ci11 (fs := [.null, .int (iI 0), .int (iI 0), .int (iI 0), .null, .null, .int (iI 0), .int (iI 0), .null, .null]) kl_L_8 it_X11 ini_X11 (fun j hj => by
        rcases (show j = 0 ∨ j = 1 ∨ j = 2 ∨ j = 3 ∨ j = 4 ∨ j = 5 ∨ j = 6 ∨ j = 7 ∨ j = 8 ∨ j = 9 by omega) with h | h | h | h | h | h | h | h | h | h <;> (subst h; rfl)) ⟨Nat.le_of_ble_eq_true rfl, Nat.le_of_ble_eq_true rfl⟩ dL_law_0 rfl (fun q1 => ?_)
    refine h_dup X dL_law_3 rfl rfl ?_
    refine h_invI X w_X11_init ml_L_113 ⟨⟨Nat.le_of_ble_eq_true rfl, Nat.le_of_ble_eq_true rfl⟩, Nat.le_of_ble_eq_true rfl, Nat.le_of_ble_eq_true rfl⟩ dL_law_4 rfl (As := []) (rest := [.ref q1]) rfl rfl (Nat.le_of_ble_eq_true rfl) c_X11_init (fun v ws1 hv => ?_)
    obtain ⟨rfl, ad, hq1, rfl⟩ := hv
    rw [← hq1]
    refine h_astore_n X dL_law_7 rfl (lt_kN rfl rfl) (fun i hi u hu => by
        have e1 : i = 0 := by first | omega | simpa using hi
        subst e1
        first | (cases hu; rfl) | cases hu) ?_
    refine h_new X ci12 (fs := [.null, .null, .null, .null, .null, .null, .null, .null, .null, .null, .int (iI 0), .int (iI 0), .int (iI 0), .null, .null, .null, .null, .null, .null, .null, .null, .null, .int (iI 0), .null, .null, .int (iI 0), .null, .null, .null, .null, .null, .int (iI 0), .null, .null, .null, .null, .null, .null, .null, .int (iI 0), .int (iI 0), .null, .null, .null, .int (iI 0), .null, .int (iI 0), .null, .null]) kl_L_114 it_X12 ini_X12 (fun j hj => by
        rcases (show j = 0 ∨ j = 1 ∨ j = 2 ∨ j = 3 ∨ j = 4 ∨ j = 5 ∨ j = 6 ∨ j = 7 ∨ j = 8 ∨ j = 9 ∨ j = 10 ∨ j = 11 ∨ j = 12 ∨ j = 13 ∨ j = 14 ∨ j = 15 ∨ j = 16 ∨ j = 17 ∨ j = 18 ∨ j = 19 ∨ j = 20 ∨ j = 21 ∨ j = 22 ∨ j = 23 ∨ j = 24 ∨ j = 25 ∨ j = 26 ∨ j = 27 ∨ j = 28 ∨ j = 29 ∨ j = 30 ∨ j = 31 ∨ j = 32 ∨ j = 33 ∨ j = 34 ∨ j = 35 ∨ j = 36 ∨ j = 37 ∨ j = 38 ∨ j = 39 ∨ j = 40 ∨ j = 41 ∨ j = 42 ∨ j = 43 ∨ j = 44 ∨ j = 45 ∨ j = 46 ∨ j = 47 ∨ j = 48 by omega) with h | h | h | h | h | h | h | h | h | h | h | h | h | h | h | h | h | h | h | h | h | h | h | h | h | h | h | h | h | h | h | h | h | h | h | h | h | h | h | h | h | h | h | h | h | h | h | h | h <;> (subst h; rfl)) ⟨Nat.le_of_ble_eq_true rfl, Nat.le_of_ble_eq_true rfl⟩ dL_law_8 rfl (fun q2 => ?_)
    refine h_dup X dL_law_11 rfl rfl ?_
    refine h_invI X w_X12_init ml_L_116 ⟨⟨Nat.le_of_ble_eq_true rfl, Nat.le_of_ble_eq_true rfl⟩, Nat.le_of_ble_eq_true rfl, Nat.le_of_ble_eq_true rfl⟩ dL_law_12 rfl (As := []) (rest := [.ref q2]) rfl rfl (Nat.le_of_ble_eq_true rfl) (c_X12_init (i := 0)) (fun v ws1 hv => ?_)
    obtain ⟨rfl, bm, hq2, rfl⟩ := hv
    rw [← hq2]
    refine h_astore_n X dL_law_15 rfl (lt_kN rfl rfl) (fun i hi u hu => by
        have e1 : i = 1 := by first | omega | simpa using hi
        subst e1
        first | (cases hu; rfl) | cases hu) ?_
    refine h_iconst X dL_law_16 rfl ?_
    refine h_newa X (atype := .long) (t0 := 1) (N' := 1) (a0 := (1, .inr (.inl (fun _ => (0 : Int64))))) ac_long rfl (fun _ _ h => h) (fun cA => rfl) rfl (Nat.le_of_ble_eq_true rfl) (by decide) ⟨Nat.le_of_ble_eq_true rfl, Nat.le_of_ble_eq_true rfl⟩ dL_law_17 rfl (fun o1 => ?_)
    refine h_astore_n X dL_law_19 rfl (lt_kN rfl rfl) (fun i hi u hu => by
        have e1 : i = 2 := by first | omega | simpa using hi
        subst e1
        first | (cases hu; rfl) | cases hu) ?_
    refine h_iconst X dL_law_20 rfl ?_
    refine h_newa X (atype := .double) (t0 := 3) (N' := 1) (a0 := (1, .inr (.inr (.inr (.inl (fun _ => (0 : Int64).toUInt64)))))) ac_double rfl (fun _ _ h => h) (fun cA => rfl) rfl (Nat.le_of_ble_eq_true rfl) (by decide) ⟨Nat.le_of_ble_eq_true rfl, Nat.le_of_ble_eq_true rfl⟩ dL_law_21 rfl (fun o2 => ?_)
    refine h_astore X dL_law_23 rfl (lt_kN rfl rfl) (fun i hi u hu => by
        have e1 : i = 3 := by first | omega | simpa using hi
        subst e1
        first | (cases hu; rfl) | cases hu) ?_
    refine h_iconst X dL_law_25 rfl ?_
    refine h_istore X dL_law_26 rfl (lt_kN rfl rfl) (fun i hi u hu => by
        have e1 : i = 4 := by first | omega | simpa using hi
        subst e1
        first | (cases hu; rfl) | cases hu) ?_
    obtain ⟨adF, hadF⟩ : ∃ adF : Ad, adF = (fun k j => if k ≤ 31 then ad k j else if k = 90 then o1 else if k = 91 then o2 else bm k) := ⟨_, rfl⟩
    have hlo : ∀ (k : Nat) (j : Int), k ≤ 31 → adF k j = ad k j := fun k j h => by rw [hadF]; exact if_pos h
    have hmo : ∀ k ∈ ([40, 41, 42, 43, 44, 45, 46, 47, 48, 49, 50, 51, 52, 53, 54, 55, 56, 57, 58, 59, 60, 61, 62, 63, 64, 65, 66, 67, 68, 69, 70, 71, 72, 73, 74, 75, 76, 77, 78, 79] : List Nat), ∀ j, adF k j = bm k := by
      intro k hk j
      simp only [List.mem_cons, List.not_mem_nil, or_false] at hk
      rw [hadF]
      show (if k ≤ 31 then ad k j else if k = 90 then o1 else if k = 91 then o2 else bm k) = bm k
      rw [if_neg (by omega), if_neg (by omega), if_neg (by omega)]
    refine h_eq (ws' := wl c0 NML adF Mem0) ?_ (h_g RM0 ?_)
    · have e1 : wl c0 NMC ad Mem0 = wl c0 NMC adF Mem0 := wl_cg (fun z hz => ⟨hlo _ _ (nmc_le z hz), fun k' hk' j => hlo _ _ (nmc_ref z.1 (nmc_le z hz) k' hk')⟩)
      have e2 : wl c0 [(40, 0), (41, 0), (42, 0), (43, 0), (44, 0), (45, 0), (46, 0), (47, 0), (48, 0), (49, 0), (50, 0), (51, 0), (52, 0), (53, 0), (54, 0), (55, 0), (56, 0), (57, 0), (58, 0), (59, 0), (60, 0), (61, 0), (62, 0), (63, 0), (64, 0), (65, 0), (66, 0), (67, 0), (68, 0), (69, 0), (70, 0), (71, 0), (72, 0), (73, 0), (74, 0), (75, 0), (76, 0), (77, 0), (78, 0), (79, 0)] (fun k _ => bm k) Mem0 = wl c0 [(40, 0), (41, 0), (42, 0), (43, 0), (44, 0), (45, 0), (46, 0), (47, 0), (48, 0), (49, 0), (50, 0), (51, 0), (52, 0), (53, 0), (54, 0), (55, 0), (56, 0), (57, 0), (58, 0), (59, 0), (60, 0), (61, 0), (62, 0), (63, 0), (64, 0), (65, 0), (66, 0), (67, 0), (68, 0), (69, 0), (70, 0), (71, 0), (72, 0), (73, 0), (74, 0), (75, 0), (76, 0), (77, 0), (78, 0), (79, 0)] adF Mem0 := wl_cg (fun z hz => by
        obtain ⟨k, j⟩ := z
        have hk : k ∈ ([40, 41, 42, 43, 44, 45, 46, 47, 48, 49, 50, 51, 52, 53, 54, 55, 56, 57, 58, 59, 60, 61, 62, 63, 64, 65, 66, 67, 68, 69, 70, 71, 72, 73, 74, 75, 76, 77, 78, 79] : List Nat) := by
          simp only [List.mem_cons, List.not_mem_nil, or_false, Prod.mk.injEq] at hz ⊢
          omega
        have h2 : ∀ k ∈ ([40, 41, 42, 43, 44, 45, 46, 47, 48, 49, 50, 51, 52, 53, 54, 55, 56, 57, 58, 59, 60, 61, 62, 63, 64, 65, 66, 67, 68, 69, 70, 71, 72, 73, 74, 75, 76, 77, 78, 79] : List Nat), ∀ k' ∈ refK k, k' ∈ ([40, 41, 42, 43, 44, 45, 46, 47, 48, 49, 50, 51, 52, 53, 54, 55, 56, 57, 58, 59, 60, 61, 62, 63, 64, 65, 66, 67, 68, 69, 70, 71, 72, 73, 74, 75, 76, 77, 78, 79] : List Nat) := by decide +kernel
        exact ⟨hmo k hk j, fun k' hk' j' => hmo k' (h2 k hk k' hk') j'⟩)
      have e3 : ([(o1, .inl (c0 1, 1, .inr (.inl (fun _ => (0 : Int64)))))] : va_W) = wl c0 [(90, 0)] adF Mem0 := by rw [hadF]; rfl
      have e4 : ([(o2, .inl (c0 3, 1, .inr (.inr (.inr (.inl (fun _ => (0 : Int64).toUInt64))))))] : va_W) = wl c0 [(91, 0)] adF Mem0 := by rw [hadF]; rfl
      unfold NML
      rw [wl_app, wl_app, wl_app, ← e1, ← e2, ← e3, ← e4]
      rfl
    · have lp := law_loop X rfl S NML_ok NML_M hend 600 0 adF Mem0 (0 + 1 + 321 + 1 + 39 + 1 + 1) (0 + 10 + 33087 + 49 + 195425 + 1 + 1) (by decide) (by decide) (by decide) inv0 (by decide) (by decide)
      have x0 : adF 0 0 = ad 0 0 := hlo 0 0 (by decide)
      have x40 : adF 40 0 = bm 40 := hmo 40 (by decide) 0
      have x90 : adF 90 0 = o1 := by rw [hadF]; rfl
      have x91 : adF 91 0 = o2 := by rw [hadF]; rfl
      rw [x0, x40, x90, x91] at lp
      exact lp
  have hl := lv_entry ([.ref b] : List Value) (n := 9) (Nat.le_of_ble_eq_true rfl)
  rw [lg_entry_eq]
  generalize (lg_sl [.ref b] ++ List.replicate (9 - (lg_sl [.ref b]).length) Slot.unset).toArray = ls at hl ⊢
  exact body s.heap [] ls (fun k q hq => by simp at hq) ⟨fun i j p q hi => by simp at hi, fun i q hi => by simp at hi⟩ va_S.rf hl
-- ===== YOUR PART ENDS =====
set_option maxHeartbeats 4000000 in
theorem lw_walk (l : Launch) (hflags : l.flags = flags0) (b : Addr) (xs : List Int32) : MetFree l x (headSpec (Jvm.Cond.code x code maxLocals ret :: tables_1) room_1) (lw_P b xs) (fun _ _ _ _ _ => True) lw_Q := by
  refine MetFree.of_bodyS (code := code) (maxLocals := maxLocals) (ret := ret) (by decide) ?_ ?_
  · intro args s m h hn
    obtain ⟨meth, c, h1, h2, h3, h4, h5, h6, -, -⟩ := Cond.code_spec hn (atoms_spec (ws := Jvm.Cond.code x code maxLocals ret :: tables_1) h _ List.mem_cons_self)
    exact ⟨meth, c, h1, h2, h3, h4, h5, h6⟩
  · intro p e s m args below meth c s₁ B hml0 hP _
    obtain ⟨rfl, hx, hbd, hgv⟩ := hP
    obtain ⟨scr, harrAt, hlist, hof, hsmall⟩ := hx
    obtain ⟨hcb, hkn, -, -⟩ := State.arrayAt?_spec harrAt
    have hown : s.vm.findClass R_law = some m.cls := findClass_of_methodNamed B.named
    have hts0 : ∀ c ∈ (Jvm.Cond.code x code maxLocals ret :: tables_1), c.before #[Value.ref b] s = true := atoms_spec (ws := Jvm.Cond.code x code maxLocals ret :: tables_1) B.pre
    have hts : ∀ w ∈ lw_tbl, w.before #[Value.ref b] s = true := k2_hts_sels lw_privs (fun w hw => hts0 w (List.mem_cons_of_mem _ hw)) lw_privs_ok
    have hml : c.maxLocals = 9 := B.maxLocals_eq (hts0 _ List.mem_cons_self)
    have X₀ : Stand p l e room_1 s m #[Value.ref b] below meth c s₁ [] 0 0 := Stand.of_body B
    have hh0 : s₁.heap = s.heap := by rw [B.state]; rfl
    have hsz : scr.slots.size = xs.length := by rw [← Array.length_toList, hlist, List.length_map]
    have hval : ∀ j : Nat, j < xs.length → scr.slots[j]? = some (.int (xs.getD j 0)) := fun j hj => by
      rw [← Array.getElem?_toList, hlist]
      simp [hj]
    have hbl : b < s.heap.size := (Array.getElem?_eq_some_iff.mp hcb).1
    have hX : va_X b xs.length (fun j => xs.getD j 0) s s.heap := ⟨scr, hcb, hof, hkn, hsz, hval⟩
    have K : W p l e room_1 s m #[Value.ref b] below meth c s₁.heap [] 0 0 (lw_Z below #[Value.ref b] s) (entryFrame m ([Value.ref b] : List Value).toArray 9) := by
      rw [hh0]
      exact whole_start l hflags hbd ⟨B.exec, B.bytes, B.returns, hml, hown, hts, hX, hbl, B.notSynchronized, hgv⟩
    obtain ⟨t, a1, o, b1, b2, b3⟩ := K s₁ rfl X₀
    exact ⟨t, o, a1, b1, b2, b3⟩
theorem lw_pre_spec {args : Array Value} {s : State} (h : (Jvm.Cond.and given_1 narrow_1).before args s = true) (hr : rest_1_c.before args s = true) : ∃ (b : Addr) (xs : List Int32), lw_P b xs args s := by
  have hs := flat_of_before _ h
  have hq := flat_of_before _ hr
  have hc : (Cond.count 1).before args s = true := hs _ (by decide +kernel)
  have harr : (Cond.arrayOf (.arg 0) .int).before args s = true := hs _ (by decide +kernel)
  have hle : (Cond.le (.length (.arg 0)) (.int 3072)).before args s = true := hs _ (by decide +kernel)
  have hlen : (Cond.isInt (.length (.arg 0))).before args s = true := hq _ (by decide +kernel)
  have hall : (Cond.all (.arg 0) (.isInt (.elem (.arg 0) (.index 0)))).before args s = true := hq _ (by decide +kernel)
  obtain ⟨b, xs, hb, hx⟩ := State.ints_of_pre rfl harr hlen hall
  have hsm : xs.length < 2 ^ 31 := hx.choose_spec.2.2.2
  have hev : (Term.length (.arg 0)).eval args s none [] s = some (.int xs.length.toInt32) := hx.length_eval hb
  have hv := Cond.le_ints hev (show (Term.int 3072).eval args s none [] s = some (.int 3072) from rfl)
  have hd : xs.length.toInt32 ≤ 3072 := by
    simpa [Cond.before, Cond.holds, hv] using hle
  have hN : xs.length ≤ 3072 := (Int32.ofNat_le_ofNat hsm (by decide)).mp (show Int32.ofNat xs.length ≤ Int32.ofNat 3072 from hd)
  exact ⟨b, xs, Cond.one_arg hc (show args[0]? = some (.ref b) from hb), hx, hN, h⟩
theorem lw_comes (l : Launch) (hflags : l.flags = flags0) : Comes l x (Jvm.Cond.code x code maxLocals ret :: tables_1) room_1 (fun tb e args s => Calls_1 tb e args s ∧ rest_1 tb e args s ∧ Pre_1 tb e args s)
    (fun _ _ args s o t => lw_Q args s o t) := by
  intro p e ha hc hk s m args below hf hfit hheap happ hpre
  obtain ⟨b, xs, hP⟩ := lw_pre_spec hpre.2.2 hpre.2.1
  obtain ⟨k, o, h1, h2, h3, hQ⟩ := lw_walk l hflags b xs p e ha hc hk s m args below hf ((Spec.applies_iff_loose hf).mp happ).1 hP trivial
  exact ⟨k, o, h1, h2, h3, hQ⟩
theorem lw_frame {s t : State} {o : Outcome} {args : Array Value} (h : State.butDraws s t lw_cs (fun t1 => Framed s o t1 [] 601024 7293034)) :
    State.butDraws s t [Jvm.Choice.named "NaN.bits"] (fun t1 => Framed s o t1 (fieldLocs frame_1_writes args s ++ arrayLocs frame_1_arrays args s ++ staticLocs frame_1_statics s) 601024 7293034) := h
theorem lw_limb (L : Cond) (hL : ∀ (args : Array Value) (s t : State), L.after args s (.returned (some (.int 1))) t = true) :
    ArmFor flags0 classFile x code maxLocals ret World_1 tables_1 room_1 Calls_1 rest_1 Pre_1
      (fun tb e a s o t => postC L tb e a s o t ∧ State.butDraws s t [Jvm.Choice.named "NaN.bits"] (fun t1 => Framed s o t1 (fieldLocs frame_1_writes a s ++ arrayLocs frame_1_arrays a s ++ staticLocs frame_1_statics s) 601024 7293034)) := by
  intro l hflags _ _ p e ha hc hk s m args below hf hfit hheap happ hpre
  obtain ⟨k, o, h1, h2, h3, rfl, hF⟩ := lw_comes l hflags p e ha hc hk s m args below hf hfit hheap happ hpre
  exact ⟨k, _, h1, h2, h3, hL args s _, lw_frame hF⟩
theorem i_vc : Claimed_1_1 ∧ Claimed_1_2 := ⟨lw_limb limb_1_1 (fun args s t => by simp [limb_1_1, Cond.after, Cond.holds, Cond.value]), lw_limb limb_1_2 (fun args s t => Cond.after_iff.mpr (by
  first | (rw [show limb_1_2 = Cond.eq .result (.int 1) from rfl, Cond.eq_ints (x := 1) (y := 1) rfl rfl]; simp; done) | (simp [limb_1_2, Cond.value, Term.eval]; done)))⟩
