theorem kx_L_13 : Cond.classLink RL 13 "java/lang/IndexOutOfBoundsException" ∈ Tb := Tb_of (List.mem_of_getElem? (i := 474) (by decide +kernel)) (by decide +kernel)
theorem kx_L_15 : Cond.classLink RL 15 "java/lang/IllegalArgumentException" ∈ Tb := Tb_of (List.mem_of_getElem? (i := 475) (by decide +kernel)) (by decide +kernel)
theorem kx_L_17 : Cond.classLink RL 17 "java/lang/IllegalStateException" ∈ Tb := Tb_of (List.mem_of_getElem? (i := 476) (by decide +kernel)) (by decide +kernel)
/-- a contract of a method with handlers -/
def CtL (δ : Dx) (d : Md) (hh : List (Nat × Nat × Nat × Nat)) (mc ms : Nat) (nm : List (Nat × Int)) (ad : Ad) (M : Mem) (av : List Value) (post : Option Value → Ad → Mem → Prop) : Prop :=
  δ.1.stackTraces = false → Met δ.1 d.1 (Cond.codeWith d.1 d.2.1 d.2.2.1 d.2.2.2.1 hh :: Tb) { frames := d.2.2.2.2.1, cells := mc, slots := ms, locals := d.2.2.2.2.2 } (va_Pc av (Pre δ nm ad M)) (fun _ st o t => Qct δ nm post st o t) mc ms δ.2.2.2
theorem Met_ofWH {l : Launch} {y : MethodName} {ws ws' : List Cond} {rm : Room} {Pc : Array Value → State → Prop} {Qc : Array Value → State → Outcome → State → Prop} {mc ms : Nat} {free : Addr → Prop} {cc : ByteArray} {maxL : Nat} {ret : Option FieldType} {hh : List (Nat × Nat × Nat × Nat)}
    (hy : plainName y.cls = true) (hw : ws = Cond.codeWith y cc maxL ret hh :: ws')
    (body : ∀ p e s m args below meth c s₁, BodyLoose p l y (headSpec ws rm) cc maxL ret e s m args below meth c s₁ → c.maxLocals = maxL → Pc args s →
      W p l e (headSpec ws rm).room s m args below meth c s.heap [] 0 0 (MQ below Qc args s mc ms free) (entryFrame m args maxL)) : Met l y ws rm Pc Qc mc ms free := by
  refine MetFree.of_bodyS (code := cc) (maxLocals := maxL) (ret := ret) hy ?_ ?_
  · intro args s m h hn
    obtain ⟨m9, meth, c, hn9, h1, h2, h3, h4, -, h5, h6, -⟩ := Cond.codeWith_spec (atoms_spec (ws := ws) h _ (by rw [hw]; exact List.mem_cons_self))
    cases hn.symm.trans hn9
    exact ⟨meth, c, h1, h2, h3, h4, h5, h6⟩
  · intro p e s m args below meth c s₁ B hml hP _
    have hh0 : s₁.heap = s.heap := by rw [B.state]; rfl
    obtain ⟨t, a1, o, b1, b2, b3⟩ := body p e s m args below meth c s₁ B hml hP s₁ hh0 (Stand.of_body B)
    exact ⟨t, o, a1, b1, b2, ⟨b3.1, b3.2⟩⟩
theorem CtL_of {δ : Dx} {d : Md} {hh : List (Nat × Nat × Nat × Nat)} {mc ms : Nat} {nm : List (Nat × Int)} {ad : Ad} {M : Mem} {av : List Value} {post : Option Value → Ad → Mem → Prop} {ins : Instr} {ok : Option Value → Prop} (lv0 : List (Option Value)) (hy : plainName d.1.cls = true) (hlv : lvl 0 lv0 = lv_args 0 av) (hle : (lg_sl av).length ≤ d.2.2.1)
    (hend : ∀ (κ : Kx) (s : State), ks κ = s → Cx κ d.2.1 d.1.cls { frames := d.2.2.2.2.1, cells := mc, slots := ms, locals := d.2.2.2.2.2 } → (kme κ).sig.returnType = d.2.2.2.1 → kQ κ = MQ (kb κ) (fun _ st o t => Qct δ nm post st o t) (ka κ) s mc ms δ.2.2.2 → kδ κ = δ → Rt κ d.2.1 nm post mc ms ins ok)
    (body : ∀ κ : Kx, Cx κ d.2.1 d.1.cls { frames := d.2.2.2.2.1, cells := mc, slots := ms, locals := d.2.2.2.2.2 } → kN κ = d.2.2.1 → kδ κ = δ → (kc κ).exceptionTable.toList = tableOf hh → Rt κ d.2.1 nm post mc ms ins ok → G κ nm ad M 0 lv0 [] 0 0) : CtL δ d hh mc ms nm ad M av post := by
  intro hfl
  refine Met_ofWH (cc := d.2.1) (maxL := d.2.2.1) (ret := d.2.2.2.1) (hh := hh) hy rfl ?_
  intro p e s m args below meth c s₁ B hml hv
  obtain ⟨rfl, hA, hK, hZ, hM, hP, hD⟩ := hv
  have hts := atoms_spec (ws := Cond.codeWith d.1 d.2.1 d.2.2.1 d.2.2.2.1 hh :: Tb) B.pre
  have htab := vx_table (x := d.1) B (hts _ List.mem_cons_self)
  have hl := lv_entry av (n := d.2.2.1) hle
  rw [lg_entry_eq]
  generalize (lg_sl av ++ List.replicate (d.2.2.1 - (lg_sl av).length) Slot.unset).toArray = ls at hl ⊢
  rw [← hlv] at hl
  obtain ⟨l, D, c0, A⟩ := δ
  have X : Cx ((p, l, e, (headSpec (Cond.codeWith d.1 d.2.1 d.2.2.1 d.2.2.2.1 hh :: Tb) { frames := d.2.2.2.2.1, cells := mc, slots := ms, locals := d.2.2.2.2.2 }).room, s, m), (av.toArray, below, meth, c, MQ below (fun _ st o t => Qct (l, D, c0, A) nm post st o t) av.toArray s mc ms A), (D, c0, A, d.2.2.1)) d.2.1 d.1.cls { frames := d.2.2.2.2.1, cells := mc, slots := ms, locals := d.2.2.2.2.2 } :=
    ⟨B.exec, B.bytes, hml, findClass_of_methodNamed B.named, fun w hw => hts w (List.mem_cons_of_mem _ hw), hK, hA, rfl, hfl, B.notSynchronized, hZ⟩
  exact body _ X rfl rfl htab (hend _ s rfl X B.returns rfl rfl) hM s.heap [] ls hP hD va_S.rf hl
/-- the words of a static method with handlers -/
def WL (d : Md) (hh : List (Nat × Nat × Nat × Nat)) (n : Nat) : Prop := Cond.codeWith d.1 d.2.1 d.2.2.1 d.2.2.2.1 hh ∈ Tb ∧ Cond.static d.1 ∈ Tb ∧ Cond.initialized d.1.cls ∈ Tb ∧ d.1.cls ≠ "java/lang/invoke/MethodHandle" ∧ d.1.cls ≠ "java/lang/invoke/VarHandle" ∧ (parseMethodDescriptor d.1.desc).map (fun q => q.parameters.length) = some n
section GL
variable {κ : Kx} {cc : ByteArray} {own : String} {rm : Room} {nm : List (Nat × Int)} {ad : Ad} {M : Mem} {pc pc' : Nat} {lv : List (Option Value)} {st rest : List Value} {cl sl : Nat}
theorem g_invL (X : Cx κ cc own rm) {d : Md} {hh : List (Nat × Nat × Nat × Nat)} {n ix mc ms : Nat} {As : List Value} {post : Option Value → Ad → Mem → Prop} (w : WL d hh n) (hlk : Cond.methodLink own ix d.1 ∈ Tb) (hr : Rmo rm d mc ms cl sl) (dd : decode cc pc = .ok (.invokestatic ix, 3)) (e : pc + 3 = pc') (hst : st = As.reverse ++ rest) (hln : As.length = n) (hcat : (rest.map fun v => v.category).sum ≤ 8) (hC : CtL (kδ κ) d hh mc ms nm ad M As post)
    (kk : ∀ v ad' M', post v ad' M' → G κ nm ad' M' pc' lv (v.toList ++ rest) (cl + mc) (sl + ms)) : G κ nm ad M pc lv st cl sl := by
  subst e
  refine G_run (fun _ _ _ h => h) (fun hM H locs ls hP hD hS hl => ?_) kk
  have hG : GoodIn Tb (Cond.codeWith d.1 d.2.1 d.2.2.1 d.2.2.2.1 hh :: Tb) := Tb_gi (fun w' hw => (List.mem_cons.mp hw).elim (fun e => by rw [e]; exact w.1) id)
  have cw : vx_CSW (kR κ) (ks κ) (ka κ) own ix d.1 d.2.1 d.2.2.1 d.2.2.2.1 hh (Cond.codeWith d.1 d.2.1 d.2.2.1 d.2.2.2.1 hh :: Tb) { frames := d.2.2.2.2.1, cells := mc, slots := ms, locals := d.2.2.2.2.2 } mc ms n := by
    rw [X.2.2.2.2.2.2.2.1]
    exact ⟨⟨rfl, rfl, hr.1.1, hr.1.2, pay_in X.2.2.2.2.1 hG, List.mem_cons_self⟩, X.2.2.2.2.1 _ w.1, X.2.2.2.2.1 _ w.2.2.1, ⟨w.2.2.2.1, w.2.2.2.2.1⟩, fun sig h => (by
      have h2 := w.2.2.2.2.2
      rw [h] at h2
      exact (Option.some.inj h2).symm), X.2.2.2.2.1 _ hlk, X.2.2.2.2.1 _ w.2.1⟩
  exact vx_runSW (fix_ X) (hC X.2.2.2.2.2.2.2.2.1) cw ⟨Pre_blind, fun U hU hW => ⟨rfl, Pre_on X hM hP hD hS U hU hW⟩⟩ rfl hln hl.1 hst (lv_room hcat) dd (by rw [X.2.2.2.2.2.2.2.1]; exact hr.2)
/-- caught here -/
theorem x_catch (X : Cx κ cc own rm) {E : String} {ce : Cell} {q : Addr} {H1 : Heap} {locs1 : List Loc} {ls : Array Slot} (pre : List ExceptionTableEntry) (x : ExceptionTableEntry) (suf : List ExceptionTableEntry) (hsplit : (kc κ).exceptionTable.toList = pre ++ x :: suf) (hpass : ∀ z ∈ pre, z.catchType ≠ 0 ∧ ∃ n : String, Cond.classLink own z.catchType n ∈ Tb ∧ n ∈ exN ∧ E ≠ n) (hE : E ∈ exN) (hx : covers x pc = true) (h0 : x.catchType ≠ 0) (hlk : Cond.classLink own x.catchType E ∈ Tb) (hM : RM M) (hP : va_P (kD κ) vwCl (wl (kC κ) nm ad M) H1) (hD : va_D (kA κ) (wl (kC κ) nm ad M)) (hS : va_S (kA κ) (ks κ).heap H1 locs1) (hl : lv_has ls (kN κ) (lvl 0 lv)) (hc : H1[q]? = some ce) (hv : ce.vm = .none) (hcl : (ks κ).vm.findClass E = some ce.cls)
    (kk : G κ nm ad M x.handlerPc lv [.ref q] cl sl) : vx_W (kp κ) (kl κ) (ke κ) (kR κ) (ks κ) (km κ) (ka κ) (kb κ) (kme κ) (kc κ) H1 locs1 cl sl (kQ κ) (F0 (km κ) pc ls rest) q :=
  vx_catch (own := own) (name := E) X.2.2.2.1 pre x suf hsplit (fun z hz => by
    obtain ⟨a, n, b, c, d⟩ := hpass z hz
    exact Or.inr ⟨a, n, X.2.2.2.2.1 _ b, X.2.2.2.2.2.2.2.2.2.2.2.2.2.2.2.2.2.2.1 E hE n c d⟩) hx h0 (X.2.2.2.2.1 _ hlk) (va_Nw.use rfl (X.2.2.2.2.2.2.2.2.2.2.2.2.2.2.2.2.2.1 E hE)) hc hv hcl (kk hM H1 locs1 ls hP hD hS hl)
/-- the script's ints -/
def Scr (κ : Kx) (b L : Nat) (xs : Nat → Int32) : Prop := va_X b L xs (ks κ) (ks κ).heap ∧ b < (ks κ).heap.size ∧ ¬ kA κ b ∧ L ≤ 3072
def sc (xs : Nat → Int32) (z : Int) : Int := (xs z.toNat).toInt
theorem sc_rng (xs : Nat → Int32) (z : Int) : rng (sc xs z) := rng_of _
theorem g_slen (X : Cx κ cc own rm) {b L : Nat} {xs : Nat → Int32} (S : Scr κ b L xs) (d : decode cc pc = .ok (.arraylength, 1)) (e : pc + 1 = pc') (k : G κ nm ad M pc' lv (.int (iI (L : Int)) :: st) cl sl) : G κ nm ad M pc lv (.ref b :: st) cl sl := by
  subst e; intro hM H locs ls hP hD hS hl
  refine va_slen X.1 X.2.1 S.1 S.2.1 S.2.2.1 hS d ?_
  rw [show Int32.ofNat L = iI (L : Int) from Int32.ofInt_eq_ofNat.symm]
  exact k hM H locs ls hP hD hS hl
theorem g_sld (X : Cx κ cc own rm) {b L : Nat} {xs : Nat → Int32} (S : Scr κ b L xs) {z : Int} (h0 : 0 ≤ z) (h1 : z < (L : Int)) (d : decode cc pc = .ok (.iaload, 1)) (e : pc + 1 = pc') (k : G κ nm ad M pc' lv (.int (iI (sc xs z)) :: st) cl sl) : G κ nm ad M pc lv (.int (iI z) :: .ref b :: st) cl sl := by
  subst e; intro hM H locs ls hP hD hS hl
  have hL := S.2.2.2
  refine va_sld X.1 X.2.1 S.1 S.2.1 S.2.2.1 hS (iI_in h0 h1 (by omega)) d ?_
  rw [iI_cl h0 (by omega), ← iI_of (xs z.toNat)]
  exact k hM H locs ls hP hD hS hl
/-- an argument out of the script: five rows -/
theorem g_arg (X : Cx κ cc own rm) {b L : Nat} {xs : Nat → Int32} (S : Scr κ b L xs) {z j : Int} (d0 : decode cc pc = .ok (.aload_n 0, 1)) (d1 : decode cc (pc + 1) = .ok (.iload 5, 2)) (d2 : decode cc (pc + 3) = .ok (.iconst j, 1)) (d3 : decode cc (pc + 4) = .ok (.iadd, 1)) (d4 : decode cc (pc + 5) = .ok (.iaload, 1)) (e : pc + 6 = pc') (l0 : lv[0]? = some (some (.ref b))) (l5 : lv[5]? = some (some (.int (iI z)))) (h0 : 0 ≤ z + j) (h1 : z + j < (L : Int)) (k : G κ nm ad M pc' lv (.int (iI (sc xs (z + j))) :: st) cl sl) : G κ nm ad M pc lv st cl sl :=
  g_aload_n X d0 rfl l0 (g_iload X d1 rfl l5 (g_iconst X d2 rfl (g_iadd X d3 rfl (g_sld X S h0 h1 d4 e k))))
/-- .. as a truth: nine rows -/
theorem g_argB (X : Cx κ cc own rm) {b L : Nat} {xs : Nat → Int32} (S : Scr κ b L xs) {z j : Int} (d0 : decode cc pc = .ok (.aload_n 0, 1)) (d1 : decode cc (pc + 1) = .ok (.iload 5, 2)) (d2 : decode cc (pc + 3) = .ok (.iconst j, 1)) (d3 : decode cc (pc + 4) = .ok (.iadd, 1)) (d4 : decode cc (pc + 5) = .ok (.iaload, 1)) (d5 : decode cc (pc + 6) = .ok (.ifCond .eq 7, 3)) (d6 : decode cc (pc + 9) = .ok (.iconst 1, 1)) (d7 : decode cc (pc + 10) = .ok (.goto 4, 3)) (d8 : decode cc (pc + 13) = .ok (.iconst 0, 1)) (e : pc + 14 = pc') (l0 : lv[0]? = some (some (.ref b))) (l5 : lv[5]? = some (some (.int (iI z)))) (h0 : 0 ≤ z + j) (h1 : z + j < (L : Int)) (k : G κ nm ad M pc' lv (.int (iI (bI (sc xs (z + j) ≠ 0))) :: st) cl sl) : G κ nm ad M pc lv st cl sl := by
  subst e
  refine g_arg X S d0 d1 d2 d3 d4 rfl l0 l5 h0 h1 ?_
  refine g_if_eq (tgt := pc + 13) X d5 (by omega) rfl (sc_rng _ _) (fun h => ?_) (fun h => ?_)
  · rw [bI_f (fun q => q h)] at k
    exact g_iconst X d8 rfl k
  · rw [bI_t h] at k
    exact g_iconst X d6 rfl (g_goto (pc' := pc + 14) X d7 (by omega) k)
theorem g_f2d (X : Cx κ cc own rm) {x : UInt32} (d : decode cc pc = .ok (.f2d, 1)) (e : pc + 1 = pc') (hn : vf_n64 (FP.f2d x)) (k : G κ nm ad M pc' lv (.double (FP.f2d x) :: st) cl sl) : G κ nm ad M pc lv (.float x :: st) cl sl := by
  subst e; intro hM H locs ls hP hD hS hl
  exact lv_f2d X.1 X.2.1 d hn (k hM H locs ls hP hD hS hl)
theorem g_dcmp0 (X : Cx κ cc own rm) {x y : UInt64} {op : CmpOp} (d : decode cc pc = .ok (.dcmp op, 1)) (e : pc + 1 = pc') (h : Op.cmpValue (FP.dcmp x y) op = iI 0) (k : G κ nm ad M pc' lv (.int (iI 0) :: st) cl sl) : G κ nm ad M pc lv (.double y :: .double x :: st) cl sl := by
  subst e; intro hM H locs ls hP hD hS hl
  refine lv_dcmp X.1 X.2.1 d ?_
  rw [h]
  exact k hM H locs ls hP hD hS hl
end GL
theorem alk_d : (List.range 2041).all (fun d => decide (FP.f2d (alkF (d : Int)) &&& 0x7fffffffffffffff ≤ 0x7ff0000000000000) && decide (Op.cmpValue (FP.dcmp (FP.f2d (alkF (d : Int))) (FP.f2d (alkF (d : Int)))) .l = iI 0)) = true := by decide +kernel
theorem alk_f2d {d : Int} (h0 : 0 ≤ d) (h1 : d ≤ 2040) : vf_n64 (FP.f2d (alkF d)) ∧ Op.cmpValue (FP.dcmp (FP.f2d (alkF d)) (FP.f2d (alkF d))) .l = iI 0 := by
  have h := List.all_eq_true.mp alk_d d.toNat (List.mem_range.mpr (by omega))
  rw [show ((d.toNat : Nat) : Int) = d by omega] at h
  simp only [Bool.and_eq_true, decide_eq_true_eq] at h
  exact h
theorem and31 (a : Int) : ∃ z : Int, iI a &&& iI 31 = iI z ∧ 0 ≤ z ∧ z ≤ 31 := by
  refine ⟨(iI a &&& iI 31).toInt, (iI_of _).symm, ?_⟩
  have h : (iI a &&& iI 31).toBitVec.toNat ≤ 31 := by
    rw [Int32.toBitVec_and, BitVec.toNat_and]
    exact Nat.le_trans Nat.and_le_right (by decide)
  have h2 : (iI a &&& iI 31).toInt = ((iI a &&& iI 31).toBitVec.toNat : Int) := by
    show (iI a &&& iI 31).toBitVec.toInt = _
    rw [BitVec.toInt_eq_toNat_cond, if_pos (by omega)]
  omega
theorem exn_13 : "java/lang/IndexOutOfBoundsException" ∈ exN := List.mem_cons_self
theorem exn_15 : "java/lang/IllegalArgumentException" ∈ exN := List.mem_cons_of_mem _ List.mem_cons_self
theorem exn_17 : "java/lang/IllegalStateException" ∈ exN := List.mem_cons_of_mem _ (List.mem_cons_of_mem _ List.mem_cons_self)
theorem pas1 {own E n1 : String} {x1 : ExceptionTableEntry} (h1 : x1.catchType ≠ 0) (l1 : Cond.classLink own x1.catchType n1 ∈ Tb) (e1 : n1 ∈ exN) (d1 : E ≠ n1) : ∀ z ∈ [x1], z.catchType ≠ 0 ∧ ∃ n : String, Cond.classLink own z.catchType n ∈ Tb ∧ n ∈ exN ∧ E ≠ n := by
  intro z hz
  rw [List.mem_singleton.mp hz]
  exact ⟨h1, n1, l1, e1, d1⟩
theorem pas2 {own E n1 n2 : String} {x1 x2 : ExceptionTableEntry} (h1 : x1.catchType ≠ 0) (l1 : Cond.classLink own x1.catchType n1 ∈ Tb) (e1 : n1 ∈ exN) (d1 : E ≠ n1) (h2 : x2.catchType ≠ 0) (l2 : Cond.classLink own x2.catchType n2 ∈ Tb) (e2 : n2 ∈ exN) (d2 : E ≠ n2) : ∀ z ∈ [x1, x2], z.catchType ≠ 0 ∧ ∃ n : String, Cond.classLink own z.catchType n ∈ Tb ∧ n ∈ exN ∧ E ≠ n := by
  intro z hz
  rcases List.mem_cons.mp hz with hz | hz
  · rw [hz]; exact ⟨h1, n1, l1, e1, d1⟩
  · rw [List.mem_singleton.mp hz]; exact ⟨h2, n2, l2, e2, d2⟩
/-- what a helper of the law gives: its number, and what it laid out -/
def pHl (post : Option Value → Ad → Mem → Prop) (px : String → Prop) (Es : List String) (ad : Ad) (M : Mem) (wr : Value → Mem → Mem) : Option Value → Ad → Mem → Prop := fun v ad' M' =>
  (∃ x M1, post (some x) ad' M1 ∧ v = some (.int (iI 0)) ∧ M' = wr x M1) ∨ (∃ (j : Nat) (E : String), Es[j]? = some E ∧ px E ∧ v = some (.int (iI ((j : Int) + 1))) ∧ ad' = ad ∧ M' = M)
def wrI (x : Value) (M : Mem) : Mem := setL M 90 0 0 0 (match x with | .int i => i.toInt64 | .long i => i | _ => 0)
noncomputable def wrZ (x : Value) (M : Mem) : Mem := setL M 90 0 0 0 (match x with | .int i => if i = iI 0 then 0 else 1 | _ => 0)
def wrD (x : Value) (M : Mem) : Mem := setL M 91 0 0 0 (match x with | .float i => (FP.f2d i).toInt64 | _ => 0)
set_option maxRecDepth 100000 in
theorem wl_L_reel : WL md_L_reel hh_L_reel 7 := ⟨cw_L_reel, st_L_reel, ini_L, by decide +kernel, by decide +kernel, by decide +kernel⟩
set_option maxRecDepth 100000 in
set_option maxHeartbeats 4000000 in
theorem c_L_reel {δ : Dx} {nm : List (Nat × Int)} {ad : Ad} {M : Mem} {a1 a2 a3 a4 a5 : Int} {mc ms : Nat} {post : Option Value → Ad → Mem → Prop} {px : String → Prop} (hN : NmOk nm) (hC : CtX δ md_X11_reel mc ms nm ad M [.ref (ad 0 0), .int (iI a1), .int (iI a2), .int (iI a3), .int (iI a4), .int (iI a5)] post px) (hp : ∀ v ad' M', post v ad' M' → ad' 90 0 = ad 90 0 ∧ ∃ i : Int, v = some (.int (iI i))) (hx : ∀ E, px E → E ∈ (["java/lang/IndexOutOfBoundsException", "java/lang/IllegalArgumentException", "java/lang/IllegalStateException"] : List String)) : CtL δ md_L_reel hh_L_reel mc ms nm ad M [.ref (ad 0 0), .int (iI a1), .int (iI a2), .int (iI a3), .int (iI a4), .int (iI a5), .ref (ad 90 0)] (pHl post px ["java/lang/IndexOutOfBoundsException", "java/lang/IllegalArgumentException", "java/lang/IllegalStateException"] ad M wrI) := by
  refine CtL_of (ins := .ireturn) (ok := okI) [some (.ref (ad 0 0)), some (.int (iI a1)), some (.int (iI a2)), some (.int (iI a3)), some (.int (iI a4)), some (.int (iI a5)), some (.ref (ad 90 0)), none] (by decide +kernel) rfl (Nat.le_of_ble_eq_true rfl) (fun κ s hs X hr hQ hδ => endI rfl hs X hr hQ hδ) (fun κ X hNL hδ htab Y => ?_)
  refine g_aload X dL_reel_0 rfl rfl ?_
  refine g_iconst X dL_reel_2 rfl ?_
  refine g_aload_n X dL_reel_3 rfl rfl ?_
  refine g_iload_n X dL_reel_4 rfl rfl ?_
  refine g_iload_n X dL_reel_5 rfl rfl ?_
  refine g_iload_n X dL_reel_6 rfl rfl ?_
  refine g_iload X dL_reel_7 rfl rfl ?_
  refine g_iload X dL_reel_9 rfl rfl ?_
  rw [← hδ] at hC
  refine g_xV5 X w_X11_reel ml_L_7 dL_reel_11 rfl (n0 hN) (en0 _ _ _ _) ⟨⟨Nat.le_of_ble_eq_true rfl, Nat.le_of_ble_eq_true rfl⟩, by show 0 + mc ≤ mc; omega, by show 0 + ms ≤ ms; omega⟩ (Nat.le_of_ble_eq_true rfl) hC (fun E ce q H1 locs1 ls hpx hM hP hD hS hl hc hv hcl => ?_) (fun v ad1 M1 h1 => ?_)
  · have hE := hx E hpx
    simp only [List.mem_cons, List.not_mem_nil, or_false] at hE
    rcases hE with hE | hE | hE
    · subst hE
      refine x_catch X ([]) (⟨0, 16, 19, 13⟩) ([⟨0, 16, 23, 15⟩, ⟨0, 16, 27, 17⟩]) htab (fun z hz => absurd hz List.not_mem_nil) exn_13 (by decide) (by decide) kx_L_13 hM hP hD hS hl hc hv hcl ?_
      refine g_astore_7 X dL_reel_19 rfl (lt_kN hNL rfl) rfl ?_
      refine g_iconst X dL_reel_21 rfl ?_
      refine g_widen (cl' := mc) (sl' := ms) (by omega) (by omega) ?_
      exact g_ret Y dL_reel_22 ⟨_, rfl⟩ (Or.inr ⟨0, _, rfl, hpx, rfl, rfl, rfl⟩)
    · subst hE
      refine x_catch X ([⟨0, 16, 19, 13⟩]) (⟨0, 16, 23, 15⟩) ([⟨0, 16, 27, 17⟩]) htab (pas1 (by decide) kx_L_13 exn_13 (by decide)) exn_15 (by decide) (by decide) kx_L_15 hM hP hD hS hl hc hv hcl ?_
      refine g_astore_7 X dL_reel_23 rfl (lt_kN hNL rfl) rfl ?_
      refine g_iconst X dL_reel_25 rfl ?_
      refine g_widen (cl' := mc) (sl' := ms) (by omega) (by omega) ?_
      exact g_ret Y dL_reel_26 ⟨_, rfl⟩ (Or.inr ⟨1, _, rfl, hpx, rfl, rfl, rfl⟩)
    · subst hE
      refine x_catch X ([⟨0, 16, 19, 13⟩, ⟨0, 16, 23, 15⟩]) (⟨0, 16, 27, 17⟩) ([]) htab (pas2 (by decide) kx_L_13 exn_13 (by decide) (by decide) kx_L_15 exn_15 (by decide)) exn_17 (by decide) (by decide) kx_L_17 hM hP hD hS hl hc hv hcl ?_
      refine g_astore_7 X dL_reel_27 rfl (lt_kN hNL rfl) rfl ?_
      refine g_iconst X dL_reel_29 rfl ?_
      refine g_widen (cl' := mc) (sl' := ms) (by omega) (by omega) ?_
      exact g_ret Y dL_reel_30 ⟨_, rfl⟩ (Or.inr ⟨2, _, rfl, hpx, rfl, rfl, rfl⟩)
  · have hq := hp v ad1 M1 h1
    obtain ⟨ea, i, hi⟩ := hq
    subst hi
    refine g_i2l X dL_reel_14 rfl ?_
    rw [← ea]
    refine g_last X (n90 hN) (en90 _ _ _ _) (en90 _ _ _ _) (t0 := 1) rfl (by omega) (by omega) (by decide) dL_reel_15 rfl ?_
    refine g_goto (pc' := 31) X dL_reel_16 rfl ?_
    refine g_iconst X dL_reel_31 rfl ?_
    refine g_widen (cl' := mc) (sl' := ms) (by omega) (by omega) ?_
    exact g_ret Y dL_reel_32 ⟨_, rfl⟩ (Or.inl ⟨_, M1, h1, rfl, rfl⟩)
set_option maxRecDepth 100000 in
theorem wl_L_frame : WL md_L_frame hh_L_frame 6 := ⟨cw_L_frame, st_L_frame, ini_L, by decide +kernel, by decide +kernel, by decide +kernel⟩
set_option maxRecDepth 100000 in
set_option maxHeartbeats 4000000 in
theorem c_L_frame {δ : Dx} {nm : List (Nat × Int)} {ad : Ad} {M : Mem} {a1 a2 a3 a4 : Int} {mc ms : Nat} {post : Option Value → Ad → Mem → Prop} {px : String → Prop} (hN : NmOk nm) (hC : CtX δ md_X11_frame mc ms nm ad M [.ref (ad 0 0), .int (iI a1), .int (iI a2), .int (iI a3), .int (iI a4)] post px) (hp : ∀ v ad' M', post v ad' M' → ad' 90 0 = ad 90 0 ∧ ∃ i : Int, v = some (.int (iI i))) (hx : ∀ E, px E → E ∈ (["java/lang/IndexOutOfBoundsException", "java/lang/IllegalArgumentException", "java/lang/IllegalStateException"] : List String)) : CtL δ md_L_frame hh_L_frame mc ms nm ad M [.ref (ad 0 0), .int (iI a1), .int (iI a2), .int (iI a3), .int (iI a4), .ref (ad 90 0)] (pHl post px ["java/lang/IndexOutOfBoundsException", "java/lang/IllegalArgumentException", "java/lang/IllegalStateException"] ad M wrI) := by
  refine CtL_of (ins := .ireturn) (ok := okI) [some (.ref (ad 0 0)), some (.int (iI a1)), some (.int (iI a2)), some (.int (iI a3)), some (.int (iI a4)), some (.ref (ad 90 0)), none] (by decide +kernel) rfl (Nat.le_of_ble_eq_true rfl) (fun κ s hs X hr hQ hδ => endI rfl hs X hr hQ hδ) (fun κ X hNL hδ htab Y => ?_)
  refine g_aload X dL_frame_0 rfl rfl ?_
  refine g_iconst X dL_frame_2 rfl ?_
  refine g_aload_n X dL_frame_3 rfl rfl ?_
  refine g_iload_n X dL_frame_4 rfl rfl ?_
  refine g_iload_n X dL_frame_5 rfl rfl ?_
  refine g_iload_n X dL_frame_6 rfl rfl ?_
  refine g_iload X dL_frame_7 rfl rfl ?_
  rw [← hδ] at hC
  refine g_xV4 X w_X11_frame ml_L_19 dL_frame_9 rfl (n0 hN) (en0 _ _ _ _) ⟨⟨Nat.le_of_ble_eq_true rfl, Nat.le_of_ble_eq_true rfl⟩, by show 0 + mc ≤ mc; omega, by show 0 + ms ≤ ms; omega⟩ (Nat.le_of_ble_eq_true rfl) hC (fun E ce q H1 locs1 ls hpx hM hP hD hS hl hc hv hcl => ?_) (fun v ad1 M1 h1 => ?_)
  · have hE := hx E hpx
    simp only [List.mem_cons, List.not_mem_nil, or_false] at hE
    rcases hE with hE | hE | hE
    · subst hE
      refine x_catch X ([]) (⟨0, 14, 17, 13⟩) ([⟨0, 14, 21, 15⟩, ⟨0, 14, 25, 17⟩]) htab (fun z hz => absurd hz List.not_mem_nil) exn_13 (by decide) (by decide) kx_L_13 hM hP hD hS hl hc hv hcl ?_
      refine g_astore_6 X dL_frame_17 rfl (lt_kN hNL rfl) rfl ?_
      refine g_iconst X dL_frame_19 rfl ?_
      refine g_widen (cl' := mc) (sl' := ms) (by omega) (by omega) ?_
      exact g_ret Y dL_frame_20 ⟨_, rfl⟩ (Or.inr ⟨0, _, rfl, hpx, rfl, rfl, rfl⟩)
    · subst hE
      refine x_catch X ([⟨0, 14, 17, 13⟩]) (⟨0, 14, 21, 15⟩) ([⟨0, 14, 25, 17⟩]) htab (pas1 (by decide) kx_L_13 exn_13 (by decide)) exn_15 (by decide) (by decide) kx_L_15 hM hP hD hS hl hc hv hcl ?_
      refine g_astore_6 X dL_frame_21 rfl (lt_kN hNL rfl) rfl ?_
      refine g_iconst X dL_frame_23 rfl ?_
      refine g_widen (cl' := mc) (sl' := ms) (by omega) (by omega) ?_
      exact g_ret Y dL_frame_24 ⟨_, rfl⟩ (Or.inr ⟨1, _, rfl, hpx, rfl, rfl, rfl⟩)
    · subst hE
      refine x_catch X ([⟨0, 14, 17, 13⟩, ⟨0, 14, 21, 15⟩]) (⟨0, 14, 25, 17⟩) ([]) htab (pas2 (by decide) kx_L_13 exn_13 (by decide) (by decide) kx_L_15 exn_15 (by decide)) exn_17 (by decide) (by decide) kx_L_17 hM hP hD hS hl hc hv hcl ?_
      refine g_astore_6 X dL_frame_25 rfl (lt_kN hNL rfl) rfl ?_
      refine g_iconst X dL_frame_27 rfl ?_
      refine g_widen (cl' := mc) (sl' := ms) (by omega) (by omega) ?_
      exact g_ret Y dL_frame_28 ⟨_, rfl⟩ (Or.inr ⟨2, _, rfl, hpx, rfl, rfl, rfl⟩)
  · have hq := hp v ad1 M1 h1
    obtain ⟨ea, i, hi⟩ := hq
    subst hi
    refine g_i2l X dL_frame_12 rfl ?_
    rw [← ea]
    refine g_last X (n90 hN) (en90 _ _ _ _) (en90 _ _ _ _) (t0 := 1) rfl (by omega) (by omega) (by decide) dL_frame_13 rfl ?_
    refine g_goto (pc' := 29) X dL_frame_14 rfl ?_
    refine g_iconst X dL_frame_29 rfl ?_
    refine g_widen (cl' := mc) (sl' := ms) (by omega) (by omega) ?_
    exact g_ret Y dL_frame_30 ⟨_, rfl⟩ (Or.inl ⟨_, M1, h1, rfl, rfl⟩)
set_option maxRecDepth 100000 in
theorem wl_L_splice : WL md_L_splice hh_L_splice 4 := ⟨cw_L_splice, st_L_splice, ini_L, by decide +kernel, by decide +kernel, by decide +kernel⟩
set_option maxRecDepth 100000 in
set_option maxHeartbeats 4000000 in
theorem c_L_splice {δ : Dx} {nm : List (Nat × Int)} {ad : Ad} {M : Mem} {a1 a2 : Int} {mc ms : Nat} {post : Option Value → Ad → Mem → Prop} {px : String → Prop} (hN : NmOk nm) (hC : CtX δ md_X11_splice mc ms nm ad M [.ref (ad 0 0), .int (iI a1), .int (iI a2)] post px) (hp : ∀ v ad' M', post v ad' M' → ad' 90 0 = ad 90 0 ∧ ∃ i : Int, v = some (.int (iI i))) (hx : ∀ E, px E → E ∈ (["java/lang/IndexOutOfBoundsException"] : List String)) : CtL δ md_L_splice hh_L_splice mc ms nm ad M [.ref (ad 0 0), .int (iI a1), .int (iI a2), .ref (ad 90 0)] (pHl post px ["java/lang/IndexOutOfBoundsException"] ad M wrI) := by
  refine CtL_of (ins := .ireturn) (ok := okI) [some (.ref (ad 0 0)), some (.int (iI a1)), some (.int (iI a2)), some (.ref (ad 90 0)), none] (by decide +kernel) rfl (Nat.le_of_ble_eq_true rfl) (fun κ s hs X hr hQ hδ => endI rfl hs X hr hQ hδ) (fun κ X hNL hδ htab Y => ?_)
  refine g_aload_n X dL_splice_0 rfl rfl ?_
  refine g_iconst X dL_splice_1 rfl ?_
  refine g_aload_n X dL_splice_2 rfl rfl ?_
  refine g_iload_n X dL_splice_3 rfl rfl ?_
  refine g_iload_n X dL_splice_4 rfl rfl ?_
  rw [← hδ] at hC
  refine g_xV2 X w_X11_splice ml_L_23 dL_splice_5 rfl (n0 hN) (en0 _ _ _ _) ⟨⟨Nat.le_of_ble_eq_true rfl, Nat.le_of_ble_eq_true rfl⟩, by show 0 + mc ≤ mc; omega, by show 0 + ms ≤ ms; omega⟩ (Nat.le_of_ble_eq_true rfl) hC (fun E ce q H1 locs1 ls hpx hM hP hD hS hl hc hv hcl => ?_) (fun v ad1 M1 h1 => ?_)
  · have hE := hx E hpx
    simp only [List.mem_cons, List.not_mem_nil, or_false] at hE
    subst hE
    refine x_catch X ([]) (⟨0, 10, 13, 13⟩) ([]) htab (fun z hz => absurd hz List.not_mem_nil) exn_13 (by decide) (by decide) kx_L_13 hM hP hD hS hl hc hv hcl ?_
    refine g_astore_4 X dL_splice_13 rfl (lt_kN hNL rfl) rfl ?_
    refine g_iconst X dL_splice_15 rfl ?_
    refine g_widen (cl' := mc) (sl' := ms) (by omega) (by omega) ?_
    exact g_ret Y dL_splice_16 ⟨_, rfl⟩ (Or.inr ⟨0, _, rfl, hpx, rfl, rfl, rfl⟩)
  · have hq := hp v ad1 M1 h1
    obtain ⟨ea, i, hi⟩ := hq
    subst hi
    refine g_i2l X dL_splice_8 rfl ?_
    rw [← ea]
    refine g_last X (n90 hN) (en90 _ _ _ _) (en90 _ _ _ _) (t0 := 1) rfl (by omega) (by omega) (by decide) dL_splice_9 rfl ?_
    refine g_goto (pc' := 17) X dL_splice_10 rfl ?_
    refine g_iconst X dL_splice_17 rfl ?_
    refine g_widen (cl' := mc) (sl' := ms) (by omega) (by omega) ?_
    exact g_ret Y dL_splice_18 ⟨_, rfl⟩ (Or.inl ⟨_, M1, h1, rfl, rfl⟩)
set_option maxRecDepth 100000 in
theorem wl_L_cold : WL md_L_cold hh_L_cold 4 := ⟨cw_L_cold, st_L_cold, ini_L, by decide +kernel, by decide +kernel, by decide +kernel⟩
set_option maxRecDepth 100000 in
set_option maxHeartbeats 4000000 in
theorem c_L_cold {δ : Dx} {nm : List (Nat × Int)} {ad : Ad} {M : Mem} {a1 a2 : Int} {mc ms : Nat} {post : Option Value → Ad → Mem → Prop} {px : String → Prop} (hN : NmOk nm) (hC : CtX δ md_X11_cold mc ms nm ad M [.ref (ad 0 0), .int (iI a1), .int (iI a2)] post px) (hp : ∀ v ad' M', post v ad' M' → ad' 90 0 = ad 90 0 ∧ ∃ i : Int, v = some (.int (iI i))) (hx : ∀ E, px E → E ∈ (["java/lang/IndexOutOfBoundsException"] : List String)) : CtL δ md_L_cold hh_L_cold mc ms nm ad M [.ref (ad 0 0), .int (iI a1), .int (iI a2), .ref (ad 90 0)] (pHl post px ["java/lang/IndexOutOfBoundsException"] ad M wrI) := by
  refine CtL_of (ins := .ireturn) (ok := okI) [some (.ref (ad 0 0)), some (.int (iI a1)), some (.int (iI a2)), some (.ref (ad 90 0)), none] (by decide +kernel) rfl (Nat.le_of_ble_eq_true rfl) (fun κ s hs X hr hQ hδ => endI rfl hs X hr hQ hδ) (fun κ X hNL hδ htab Y => ?_)
  refine g_aload_n X dL_cold_0 rfl rfl ?_
  refine g_iconst X dL_cold_1 rfl ?_
  refine g_aload_n X dL_cold_2 rfl rfl ?_
  refine g_iload_n X dL_cold_3 rfl rfl ?_
  refine g_iload_n X dL_cold_4 rfl rfl ?_
  rw [← hδ] at hC
  refine g_xV2 X w_X11_cold ml_L_27 dL_cold_5 rfl (n0 hN) (en0 _ _ _ _) ⟨⟨Nat.le_of_ble_eq_true rfl, Nat.le_of_ble_eq_true rfl⟩, by show 0 + mc ≤ mc; omega, by show 0 + ms ≤ ms; omega⟩ (Nat.le_of_ble_eq_true rfl) hC (fun E ce q H1 locs1 ls hpx hM hP hD hS hl hc hv hcl => ?_) (fun v ad1 M1 h1 => ?_)
  · have hE := hx E hpx
    simp only [List.mem_cons, List.not_mem_nil, or_false] at hE
    subst hE
    refine x_catch X ([]) (⟨0, 10, 13, 13⟩) ([]) htab (fun z hz => absurd hz List.not_mem_nil) exn_13 (by decide) (by decide) kx_L_13 hM hP hD hS hl hc hv hcl ?_
    refine g_astore_4 X dL_cold_13 rfl (lt_kN hNL rfl) rfl ?_
    refine g_iconst X dL_cold_15 rfl ?_
    refine g_widen (cl' := mc) (sl' := ms) (by omega) (by omega) ?_
    exact g_ret Y dL_cold_16 ⟨_, rfl⟩ (Or.inr ⟨0, _, rfl, hpx, rfl, rfl, rfl⟩)
  · have hq := hp v ad1 M1 h1
    obtain ⟨ea, i, hi⟩ := hq
    subst hi
    refine g_i2l X dL_cold_8 rfl ?_
    rw [← ea]
    refine g_last X (n90 hN) (en90 _ _ _ _) (en90 _ _ _ _) (t0 := 1) rfl (by omega) (by omega) (by decide) dL_cold_9 rfl ?_
    refine g_goto (pc' := 17) X dL_cold_10 rfl ?_
    refine g_iconst X dL_cold_17 rfl ?_
    refine g_widen (cl' := mc) (sl' := ms) (by omega) (by omega) ?_
    exact g_ret Y dL_cold_18 ⟨_, rfl⟩ (Or.inl ⟨_, M1, h1, rfl, rfl⟩)
set_option maxRecDepth 100000 in
theorem wl_L_copy : WL md_L_copy hh_L_copy 3 := ⟨cw_L_copy, st_L_copy, ini_L, by decide +kernel, by decide +kernel, by decide +kernel⟩
set_option maxRecDepth 100000 in
set_option maxHeartbeats 4000000 in
theorem c_L_copy {δ : Dx} {nm : List (Nat × Int)} {ad : Ad} {M : Mem} {a1 : Int} {mc ms : Nat} {post : Option Value → Ad → Mem → Prop} {px : String → Prop} (hN : NmOk nm) (hC : CtX δ md_X11_copy mc ms nm ad M [.ref (ad 0 0), .int (iI a1)] post px) (hp : ∀ v ad' M', post v ad' M' → ad' 90 0 = ad 90 0 ∧ ∃ i : Int, v = some (.int (iI i))) (hx : ∀ E, px E → E ∈ (["java/lang/IndexOutOfBoundsException", "java/lang/IllegalStateException"] : List String)) : CtL δ md_L_copy hh_L_copy mc ms nm ad M [.ref (ad 0 0), .int (iI a1), .ref (ad 90 0)] (pHl post px ["java/lang/IndexOutOfBoundsException", "java/lang/IllegalStateException"] ad M wrI) := by
  refine CtL_of (ins := .ireturn) (ok := okI) [some (.ref (ad 0 0)), some (.int (iI a1)), some (.ref (ad 90 0)), none] (by decide +kernel) rfl (Nat.le_of_ble_eq_true rfl) (fun κ s hs X hr hQ hδ => endI rfl hs X hr hQ hδ) (fun κ X hNL hδ htab Y => ?_)
  refine g_aload_n X dL_copy_0 rfl rfl ?_
  refine g_iconst X dL_copy_1 rfl ?_
  refine g_aload_n X dL_copy_2 rfl rfl ?_
  refine g_iload_n X dL_copy_3 rfl rfl ?_
  rw [← hδ] at hC
  refine g_xV1 X w_X11_copy ml_L_31 dL_copy_4 rfl (n0 hN) (en0 _ _ _ _) ⟨⟨Nat.le_of_ble_eq_true rfl, Nat.le_of_ble_eq_true rfl⟩, by show 0 + mc ≤ mc; omega, by show 0 + ms ≤ ms; omega⟩ (Nat.le_of_ble_eq_true rfl) hC (fun E ce q H1 locs1 ls hpx hM hP hD hS hl hc hv hcl => ?_) (fun v ad1 M1 h1 => ?_)
  · have hE := hx E hpx
    simp only [List.mem_cons, List.not_mem_nil, or_false] at hE
    rcases hE with hE | hE
    · subst hE
      refine x_catch X ([]) (⟨0, 9, 12, 13⟩) ([⟨0, 9, 15, 17⟩]) htab (fun z hz => absurd hz List.not_mem_nil) exn_13 (by decide) (by decide) kx_L_13 hM hP hD hS hl hc hv hcl ?_
      refine g_astore_3 X dL_copy_12 rfl (lt_kN hNL rfl) rfl ?_
      refine g_iconst X dL_copy_13 rfl ?_
      refine g_widen (cl' := mc) (sl' := ms) (by omega) (by omega) ?_
      exact g_ret Y dL_copy_14 ⟨_, rfl⟩ (Or.inr ⟨0, _, rfl, hpx, rfl, rfl, rfl⟩)
    · subst hE
      refine x_catch X ([⟨0, 9, 12, 13⟩]) (⟨0, 9, 15, 17⟩) ([]) htab (pas1 (by decide) kx_L_13 exn_13 (by decide)) exn_17 (by decide) (by decide) kx_L_17 hM hP hD hS hl hc hv hcl ?_
      refine g_astore_3 X dL_copy_15 rfl (lt_kN hNL rfl) rfl ?_
      refine g_iconst X dL_copy_16 rfl ?_
      refine g_widen (cl' := mc) (sl' := ms) (by omega) (by omega) ?_
      exact g_ret Y dL_copy_17 ⟨_, rfl⟩ (Or.inr ⟨1, _, rfl, hpx, rfl, rfl, rfl⟩)
  · have hq := hp v ad1 M1 h1
    obtain ⟨ea, i, hi⟩ := hq
    subst hi
    refine g_i2l X dL_copy_7 rfl ?_
    rw [← ea]
    refine g_last X (n90 hN) (en90 _ _ _ _) (en90 _ _ _ _) (t0 := 1) rfl (by omega) (by omega) (by decide) dL_copy_8 rfl ?_
    refine g_goto (pc' := 18) X dL_copy_9 rfl ?_
    refine g_iconst X dL_copy_18 rfl ?_
    refine g_widen (cl' := mc) (sl' := ms) (by omega) (by omega) ?_
    exact g_ret Y dL_copy_19 ⟨_, rfl⟩ (Or.inl ⟨_, M1, h1, rfl, rfl⟩)
set_option maxRecDepth 100000 in
theorem wl_L_ofReel : WL md_L_ofReel hh_L_ofReel 4 := ⟨cw_L_ofReel, st_L_ofReel, ini_L, by decide +kernel, by decide +kernel, by decide +kernel⟩
set_option maxRecDepth 100000 in
set_option maxHeartbeats 4000000 in
theorem c_L_ofReel {δ : Dx} {nm : List (Nat × Int)} {ad : Ad} {M : Mem} {a1 a2 : Int} {mc ms : Nat} {post : Option Value → Ad → Mem → Prop} {px : String → Prop} (hN : NmOk nm) (hC : CtX δ md_X11_ofReel mc ms nm ad M [.ref (ad 0 0), .int (iI a1), .int (iI a2)] post px) (hp : ∀ v ad' M', post v ad' M' → ad' 90 0 = ad 90 0 ∧ ∃ i : Int, v = some (.int (iI i))) (hx : ∀ E, px E → E ∈ (["java/lang/IndexOutOfBoundsException", "java/lang/IllegalArgumentException"] : List String)) : CtL δ md_L_ofReel hh_L_ofReel mc ms nm ad M [.ref (ad 0 0), .int (iI a1), .int (iI a2), .ref (ad 90 0)] (pHl post px ["java/lang/IndexOutOfBoundsException", "java/lang/IllegalArgumentException"] ad M wrI) := by
  refine CtL_of (ins := .ireturn) (ok := okI) [some (.ref (ad 0 0)), some (.int (iI a1)), some (.int (iI a2)), some (.ref (ad 90 0)), none] (by decide +kernel) rfl (Nat.le_of_ble_eq_true rfl) (fun κ s hs X hr hQ hδ => endI rfl hs X hr hQ hδ) (fun κ X hNL hδ htab Y => ?_)
  refine g_aload_n X dL_ofReel_0 rfl rfl ?_
  refine g_iconst X dL_ofReel_1 rfl ?_
  refine g_aload_n X dL_ofReel_2 rfl rfl ?_
  refine g_iload_n X dL_ofReel_3 rfl rfl ?_
  refine g_iload_n X dL_ofReel_4 rfl rfl ?_
  rw [← hδ] at hC
  refine g_xV2 X w_X11_ofReel ml_L_35 dL_ofReel_5 rfl (n0 hN) (en0 _ _ _ _) ⟨⟨Nat.le_of_ble_eq_true rfl, Nat.le_of_ble_eq_true rfl⟩, by show 0 + mc ≤ mc; omega, by show 0 + ms ≤ ms; omega⟩ (Nat.le_of_ble_eq_true rfl) hC (fun E ce q H1 locs1 ls hpx hM hP hD hS hl hc hv hcl => ?_) (fun v ad1 M1 h1 => ?_)
  · have hE := hx E hpx
    simp only [List.mem_cons, List.not_mem_nil, or_false] at hE
    rcases hE with hE | hE
    · subst hE
      refine x_catch X ([]) (⟨0, 10, 13, 13⟩) ([⟨0, 10, 17, 15⟩]) htab (fun z hz => absurd hz List.not_mem_nil) exn_13 (by decide) (by decide) kx_L_13 hM hP hD hS hl hc hv hcl ?_
      refine g_astore_4 X dL_ofReel_13 rfl (lt_kN hNL rfl) rfl ?_
      refine g_iconst X dL_ofReel_15 rfl ?_
      refine g_widen (cl' := mc) (sl' := ms) (by omega) (by omega) ?_
      exact g_ret Y dL_ofReel_16 ⟨_, rfl⟩ (Or.inr ⟨0, _, rfl, hpx, rfl, rfl, rfl⟩)
    · subst hE
      refine x_catch X ([⟨0, 10, 13, 13⟩]) (⟨0, 10, 17, 15⟩) ([]) htab (pas1 (by decide) kx_L_13 exn_13 (by decide)) exn_15 (by decide) (by decide) kx_L_15 hM hP hD hS hl hc hv hcl ?_
      refine g_astore_4 X dL_ofReel_17 rfl (lt_kN hNL rfl) rfl ?_
      refine g_iconst X dL_ofReel_19 rfl ?_
      refine g_widen (cl' := mc) (sl' := ms) (by omega) (by omega) ?_
      exact g_ret Y dL_ofReel_20 ⟨_, rfl⟩ (Or.inr ⟨1, _, rfl, hpx, rfl, rfl, rfl⟩)
  · have hq := hp v ad1 M1 h1
    obtain ⟨ea, i, hi⟩ := hq
    subst hi
    refine g_i2l X dL_ofReel_8 rfl ?_
    rw [← ea]
    refine g_last X (n90 hN) (en90 _ _ _ _) (en90 _ _ _ _) (t0 := 1) rfl (by omega) (by omega) (by decide) dL_ofReel_9 rfl ?_
    refine g_goto (pc' := 21) X dL_ofReel_10 rfl ?_
    refine g_iconst X dL_ofReel_21 rfl ?_
    refine g_widen (cl' := mc) (sl' := ms) (by omega) (by omega) ?_
    exact g_ret Y dL_ofReel_22 ⟨_, rfl⟩ (Or.inl ⟨_, M1, h1, rfl, rfl⟩)
set_option maxRecDepth 100000 in
theorem wl_L_tolerance : WL md_L_tolerance hh_L_tolerance 3 := ⟨cw_L_tolerance, st_L_tolerance, ini_L, by decide +kernel, by decide +kernel, by decide +kernel⟩
set_option maxRecDepth 100000 in
set_option maxHeartbeats 4000000 in
theorem c_L_tolerance {δ : Dx} {nm : List (Nat × Int)} {ad : Ad} {M : Mem} {a1 : Int} {mc ms : Nat} {post : Option Value → Ad → Mem → Prop} {px : String → Prop} (hN : NmOk nm) (hC : CtX δ md_X11_tolerance mc ms nm ad M [.ref (ad 0 0), .int (iI a1)] post px) (hp : ∀ v ad' M', post v ad' M' → ad' 90 0 = ad 90 0 ∧ ∃ i : Int, v = some (.int (iI i))) (hx : ∀ E, px E → E ∈ (["java/lang/IllegalArgumentException"] : List String)) : CtL δ md_L_tolerance hh_L_tolerance mc ms nm ad M [.ref (ad 0 0), .int (iI a1), .ref (ad 90 0)] (pHl post px ["java/lang/IllegalArgumentException"] ad M wrI) := by
  refine CtL_of (ins := .ireturn) (ok := okI) [some (.ref (ad 0 0)), some (.int (iI a1)), some (.ref (ad 90 0)), none] (by decide +kernel) rfl (Nat.le_of_ble_eq_true rfl) (fun κ s hs X hr hQ hδ => endI rfl hs X hr hQ hδ) (fun κ X hNL hδ htab Y => ?_)
  refine g_aload_n X dL_tolerance_0 rfl rfl ?_
  refine g_iconst X dL_tolerance_1 rfl ?_
  refine g_aload_n X dL_tolerance_2 rfl rfl ?_
  refine g_iload_n X dL_tolerance_3 rfl rfl ?_
  rw [← hδ] at hC
  refine g_xV1 X w_X11_tolerance ml_L_38 dL_tolerance_4 rfl (n0 hN) (en0 _ _ _ _) ⟨⟨Nat.le_of_ble_eq_true rfl, Nat.le_of_ble_eq_true rfl⟩, by show 0 + mc ≤ mc; omega, by show 0 + ms ≤ ms; omega⟩ (Nat.le_of_ble_eq_true rfl) hC (fun E ce q H1 locs1 ls hpx hM hP hD hS hl hc hv hcl => ?_) (fun v ad1 M1 h1 => ?_)
  · have hE := hx E hpx
    simp only [List.mem_cons, List.not_mem_nil, or_false] at hE
    subst hE
    refine x_catch X ([]) (⟨0, 9, 12, 15⟩) ([]) htab (fun z hz => absurd hz List.not_mem_nil) exn_15 (by decide) (by decide) kx_L_15 hM hP hD hS hl hc hv hcl ?_
    refine g_astore_3 X dL_tolerance_12 rfl (lt_kN hNL rfl) rfl ?_
    refine g_iconst X dL_tolerance_13 rfl ?_
    refine g_widen (cl' := mc) (sl' := ms) (by omega) (by omega) ?_
    exact g_ret Y dL_tolerance_14 ⟨_, rfl⟩ (Or.inr ⟨0, _, rfl, hpx, rfl, rfl, rfl⟩)
  · have hq := hp v ad1 M1 h1
    obtain ⟨ea, i, hi⟩ := hq
    subst hi
    refine g_i2l X dL_tolerance_7 rfl ?_
    rw [← ea]
    refine g_last X (n90 hN) (en90 _ _ _ _) (en90 _ _ _ _) (t0 := 1) rfl (by omega) (by omega) (by decide) dL_tolerance_8 rfl ?_
    refine g_goto (pc' := 15) X dL_tolerance_9 rfl ?_
    refine g_iconst X dL_tolerance_15 rfl ?_
    refine g_widen (cl' := mc) (sl' := ms) (by omega) (by omega) ?_
    exact g_ret Y dL_tolerance_16 ⟨_, rfl⟩ (Or.inl ⟨_, M1, h1, rfl, rfl⟩)
set_option maxRecDepth 100000 in
theorem wl_L_align : WL md_L_align hh_L_align 4 := ⟨cw_L_align, st_L_align, ini_L, by decide +kernel, by decide +kernel, by decide +kernel⟩
set_option maxRecDepth 100000 in
set_option maxHeartbeats 4000000 in
theorem c_L_align {δ : Dx} {nm : List (Nat × Int)} {ad : Ad} {M : Mem} {a1 a2 : Int} {mc ms : Nat} {post : Option Value → Ad → Mem → Prop} {px : String → Prop} (hN : NmOk nm) (hC : CtX δ md_X11_align mc ms nm ad M [.ref (ad 0 0), .int (iI a1), .int (iI a2)] post px) (hp : ∀ v ad' M', post v ad' M' → ad' 90 0 = ad 90 0 ∧ ∃ i : Int, v = some (.int (iI i))) (hx : ∀ E, px E → E ∈ (["java/lang/IndexOutOfBoundsException", "java/lang/IllegalStateException"] : List String)) : CtL δ md_L_align hh_L_align mc ms nm ad M [.ref (ad 0 0), .int (iI a1), .int (iI a2), .ref (ad 90 0)] (pHl post px ["java/lang/IndexOutOfBoundsException", "java/lang/IllegalStateException"] ad M wrI) := by
  refine CtL_of (ins := .ireturn) (ok := okI) [some (.ref (ad 0 0)), some (.int (iI a1)), some (.int (iI a2)), some (.ref (ad 90 0)), none] (by decide +kernel) rfl (Nat.le_of_ble_eq_true rfl) (fun κ s hs X hr hQ hδ => endI rfl hs X hr hQ hδ) (fun κ X hNL hδ htab Y => ?_)
  refine g_aload_n X dL_align_0 rfl rfl ?_
  refine g_iconst X dL_align_1 rfl ?_
  refine g_aload_n X dL_align_2 rfl rfl ?_
  refine g_iload_n X dL_align_3 rfl rfl ?_
  refine g_iload_n X dL_align_4 rfl rfl ?_
  rw [← hδ] at hC
  refine g_xV2 X w_X11_align ml_L_41 dL_align_5 rfl (n0 hN) (en0 _ _ _ _) ⟨⟨Nat.le_of_ble_eq_true rfl, Nat.le_of_ble_eq_true rfl⟩, by show 0 + mc ≤ mc; omega, by show 0 + ms ≤ ms; omega⟩ (Nat.le_of_ble_eq_true rfl) hC (fun E ce q H1 locs1 ls hpx hM hP hD hS hl hc hv hcl => ?_) (fun v ad1 M1 h1 => ?_)
  · have hE := hx E hpx
    simp only [List.mem_cons, List.not_mem_nil, or_false] at hE
    rcases hE with hE | hE
    · subst hE
      refine x_catch X ([]) (⟨0, 10, 13, 13⟩) ([⟨0, 10, 17, 17⟩]) htab (fun z hz => absurd hz List.not_mem_nil) exn_13 (by decide) (by decide) kx_L_13 hM hP hD hS hl hc hv hcl ?_
      refine g_astore_4 X dL_align_13 rfl (lt_kN hNL rfl) rfl ?_
      refine g_iconst X dL_align_15 rfl ?_
      refine g_widen (cl' := mc) (sl' := ms) (by omega) (by omega) ?_
      exact g_ret Y dL_align_16 ⟨_, rfl⟩ (Or.inr ⟨0, _, rfl, hpx, rfl, rfl, rfl⟩)
    · subst hE
      refine x_catch X ([⟨0, 10, 13, 13⟩]) (⟨0, 10, 17, 17⟩) ([]) htab (pas1 (by decide) kx_L_13 exn_13 (by decide)) exn_17 (by decide) (by decide) kx_L_17 hM hP hD hS hl hc hv hcl ?_
      refine g_astore_4 X dL_align_17 rfl (lt_kN hNL rfl) rfl ?_
      refine g_iconst X dL_align_19 rfl ?_
      refine g_widen (cl' := mc) (sl' := ms) (by omega) (by omega) ?_
      exact g_ret Y dL_align_20 ⟨_, rfl⟩ (Or.inr ⟨1, _, rfl, hpx, rfl, rfl, rfl⟩)
  · have hq := hp v ad1 M1 h1
    obtain ⟨ea, i, hi⟩ := hq
    subst hi
    refine g_i2l X dL_align_8 rfl ?_
    rw [← ea]
    refine g_last X (n90 hN) (en90 _ _ _ _) (en90 _ _ _ _) (t0 := 1) rfl (by omega) (by omega) (by decide) dL_align_9 rfl ?_
    refine g_goto (pc' := 21) X dL_align_10 rfl ?_
    refine g_iconst X dL_align_21 rfl ?_
    refine g_widen (cl' := mc) (sl' := ms) (by omega) (by omega) ?_
    exact g_ret Y dL_align_22 ⟨_, rfl⟩ (Or.inl ⟨_, M1, h1, rfl, rfl⟩)
set_option maxRecDepth 100000 in
theorem wl_L_pairOf : WL md_L_pairOf hh_L_pairOf 5 := ⟨cw_L_pairOf, st_L_pairOf, ini_L, by decide +kernel, by decide +kernel, by decide +kernel⟩
set_option maxRecDepth 100000 in
set_option maxHeartbeats 4000000 in
theorem c_L_pairOf {δ : Dx} {nm : List (Nat × Int)} {ad : Ad} {M : Mem} {a1 a2 a3 : Int} {mc ms : Nat} {post : Option Value → Ad → Mem → Prop} {px : String → Prop} (hN : NmOk nm) (hC : CtX δ md_X11_pairOf mc ms nm ad M [.ref (ad 0 0), .int (iI a1), .int (iI a2), .int (iI a3)] post px) (hp : ∀ v ad' M', post v ad' M' → ad' 90 0 = ad 90 0 ∧ ∃ i : Int, v = some (.int (iI i))) (hx : ∀ E, px E → E ∈ (["java/lang/IndexOutOfBoundsException", "java/lang/IllegalStateException"] : List String)) : CtL δ md_L_pairOf hh_L_pairOf mc ms nm ad M [.ref (ad 0 0), .int (iI a1), .int (iI a2), .int (iI a3), .ref (ad 90 0)] (pHl post px ["java/lang/IndexOutOfBoundsException", "java/lang/IllegalStateException"] ad M wrI) := by
  refine CtL_of (ins := .ireturn) (ok := okI) [some (.ref (ad 0 0)), some (.int (iI a1)), some (.int (iI a2)), some (.int (iI a3)), some (.ref (ad 90 0)), none] (by decide +kernel) rfl (Nat.le_of_ble_eq_true rfl) (fun κ s hs X hr hQ hδ => endI rfl hs X hr hQ hδ) (fun κ X hNL hδ htab Y => ?_)
  refine g_aload X dL_pairOf_0 rfl rfl ?_
  refine g_iconst X dL_pairOf_2 rfl ?_
  refine g_aload_n X dL_pairOf_3 rfl rfl ?_
  refine g_iload_n X dL_pairOf_4 rfl rfl ?_
  refine g_iload_n X dL_pairOf_5 rfl rfl ?_
  refine g_iload_n X dL_pairOf_6 rfl rfl ?_
  rw [← hδ] at hC
  refine g_xV3 X w_X11_pairOf ml_L_44 dL_pairOf_7 rfl (n0 hN) (en0 _ _ _ _) ⟨⟨Nat.le_of_ble_eq_true rfl, Nat.le_of_ble_eq_true rfl⟩, by show 0 + mc ≤ mc; omega, by show 0 + ms ≤ ms; omega⟩ (Nat.le_of_ble_eq_true rfl) hC (fun E ce q H1 locs1 ls hpx hM hP hD hS hl hc hv hcl => ?_) (fun v ad1 M1 h1 => ?_)
  · have hE := hx E hpx
    simp only [List.mem_cons, List.not_mem_nil, or_false] at hE
    rcases hE with hE | hE
    · subst hE
      refine x_catch X ([]) (⟨0, 12, 15, 13⟩) ([⟨0, 12, 19, 17⟩]) htab (fun z hz => absurd hz List.not_mem_nil) exn_13 (by decide) (by decide) kx_L_13 hM hP hD hS hl hc hv hcl ?_
      refine g_astore_5 X dL_pairOf_15 rfl (lt_kN hNL rfl) rfl ?_
      refine g_iconst X dL_pairOf_17 rfl ?_
      refine g_widen (cl' := mc) (sl' := ms) (by omega) (by omega) ?_
      exact g_ret Y dL_pairOf_18 ⟨_, rfl⟩ (Or.inr ⟨0, _, rfl, hpx, rfl, rfl, rfl⟩)
    · subst hE
      refine x_catch X ([⟨0, 12, 15, 13⟩]) (⟨0, 12, 19, 17⟩) ([]) htab (pas1 (by decide) kx_L_13 exn_13 (by decide)) exn_17 (by decide) (by decide) kx_L_17 hM hP hD hS hl hc hv hcl ?_
      refine g_astore_5 X dL_pairOf_19 rfl (lt_kN hNL rfl) rfl ?_
      refine g_iconst X dL_pairOf_21 rfl ?_
      refine g_widen (cl' := mc) (sl' := ms) (by omega) (by omega) ?_
      exact g_ret Y dL_pairOf_22 ⟨_, rfl⟩ (Or.inr ⟨1, _, rfl, hpx, rfl, rfl, rfl⟩)
  · have hq := hp v ad1 M1 h1
    obtain ⟨ea, i, hi⟩ := hq
    subst hi
    refine g_i2l X dL_pairOf_10 rfl ?_
    rw [← ea]
    refine g_last X (n90 hN) (en90 _ _ _ _) (en90 _ _ _ _) (t0 := 1) rfl (by omega) (by omega) (by decide) dL_pairOf_11 rfl ?_
    refine g_goto (pc' := 23) X dL_pairOf_12 rfl ?_
    refine g_iconst X dL_pairOf_23 rfl ?_
    refine g_widen (cl' := mc) (sl' := ms) (by omega) (by omega) ?_
    exact g_ret Y dL_pairOf_24 ⟨_, rfl⟩ (Or.inl ⟨_, M1, h1, rfl, rfl⟩)
set_option maxRecDepth 100000 in
theorem wl_L_alike : WL md_L_alike hh_L_alike 6 := ⟨cw_L_alike, st_L_alike, ini_L, by decide +kernel, by decide +kernel, by decide +kernel⟩
set_option maxRecDepth 100000 in
set_option maxHeartbeats 4000000 in
theorem c_L_alike {δ : Dx} {nm : List (Nat × Int)} {ad : Ad} {M : Mem} {a1 a2 a3 a4 : Int} {mc ms : Nat} {post : Option Value → Ad → Mem → Prop} {px : String → Prop} (hN : NmOk nm) (hC : CtX δ md_X11_alike mc ms nm ad M [.ref (ad 0 0), .int (iI a1), .int (iI a2), .int (iI a3), .int (iI a4)] post px) (hp : ∀ v ad' M', post v ad' M' → ad' 91 0 = ad 91 0 ∧ ∃ i : UInt32, v = some (.float i) ∧ vf_n64 (FP.f2d i)) (hx : ∀ E, px E → E ∈ (["java/lang/IndexOutOfBoundsException"] : List String)) : CtL δ md_L_alike hh_L_alike mc ms nm ad M [.ref (ad 0 0), .int (iI a1), .int (iI a2), .int (iI a3), .int (iI a4), .ref (ad 91 0)] (pHl post px ["java/lang/IndexOutOfBoundsException"] ad M wrD) := by
  refine CtL_of (ins := .ireturn) (ok := okI) [some (.ref (ad 0 0)), some (.int (iI a1)), some (.int (iI a2)), some (.int (iI a3)), some (.int (iI a4)), some (.ref (ad 91 0)), none] (by decide +kernel) rfl (Nat.le_of_ble_eq_true rfl) (fun κ s hs X hr hQ hδ => endI rfl hs X hr hQ hδ) (fun κ X hNL hδ htab Y => ?_)
  refine g_aload X dL_alike_0 rfl rfl ?_
  refine g_iconst X dL_alike_2 rfl ?_
  refine g_aload_n X dL_alike_3 rfl rfl ?_
  refine g_iload_n X dL_alike_4 rfl rfl ?_
  refine g_iload_n X dL_alike_5 rfl rfl ?_
  refine g_iload_n X dL_alike_6 rfl rfl ?_
  refine g_iload X dL_alike_7 rfl rfl ?_
  rw [← hδ] at hC
  refine g_xV4 X w_X11_alike ml_L_48 dL_alike_9 rfl (n0 hN) (en0 _ _ _ _) ⟨⟨Nat.le_of_ble_eq_true rfl, Nat.le_of_ble_eq_true rfl⟩, by show 0 + mc ≤ mc; omega, by show 0 + ms ≤ ms; omega⟩ (Nat.le_of_ble_eq_true rfl) hC (fun E ce q H1 locs1 ls hpx hM hP hD hS hl hc hv hcl => ?_) (fun v ad1 M1 h1 => ?_)
  · have hE := hx E hpx
    simp only [List.mem_cons, List.not_mem_nil, or_false] at hE
    subst hE
    refine x_catch X ([]) (⟨0, 14, 17, 13⟩) ([]) htab (fun z hz => absurd hz List.not_mem_nil) exn_13 (by decide) (by decide) kx_L_13 hM hP hD hS hl hc hv hcl ?_
    refine g_astore_6 X dL_alike_17 rfl (lt_kN hNL rfl) rfl ?_
    refine g_iconst X dL_alike_19 rfl ?_
    refine g_widen (cl' := mc) (sl' := ms) (by omega) (by omega) ?_
    exact g_ret Y dL_alike_20 ⟨_, rfl⟩ (Or.inr ⟨0, _, rfl, hpx, rfl, rfl, rfl⟩)
  · have hq := hp v ad1 M1 h1
    obtain ⟨ea, i, hi, hn⟩ := hq
    subst hi
    refine g_f2d X dL_alike_12 rfl hn ?_
    rw [← ea]
    refine g_dast X (n91 hN) (en91 _ _ _ _) (en91 _ _ _ _) (t0 := 3) rfl (by omega) (by omega) (by decide) dL_alike_13 rfl ?_
    refine g_goto (pc' := 21) X dL_alike_14 rfl ?_
    refine g_iconst X dL_alike_21 rfl ?_
    refine g_widen (cl' := mc) (sl' := ms) (by omega) (by omega) ?_
    exact g_ret Y dL_alike_22 ⟨_, rfl⟩ (Or.inl ⟨_, M1, h1, rfl, rfl⟩)
set_option maxRecDepth 100000 in
theorem wl_L_version : WL md_L_version hh_L_version 4 := ⟨cw_L_version, st_L_version, ini_L, by decide +kernel, by decide +kernel, by decide +kernel⟩
set_option maxRecDepth 100000 in
set_option maxHeartbeats 4000000 in
theorem c_L_version {δ : Dx} {nm : List (Nat × Int)} {ad : Ad} {M : Mem} {a1 a2 : Int} {mc ms : Nat} {post : Option Value → Ad → Mem → Prop} {px : String → Prop} (hN : NmOk nm) (hC : CtX δ md_X11_version mc ms nm ad M [.ref (ad 0 0), .int (iI a1), .int (iI a2)] post px) (hp : ∀ v ad' M', post v ad' M' → ad' 90 0 = ad 90 0 ∧ ∃ i : Int, v = some (.int (iI i))) (hx : ∀ E, px E → E ∈ (["java/lang/IllegalArgumentException", "java/lang/IllegalStateException"] : List String)) : CtL δ md_L_version hh_L_version mc ms nm ad M [.ref (ad 0 0), .int (iI a1), .int (iI a2), .ref (ad 90 0)] (pHl post px ["java/lang/IllegalArgumentException", "java/lang/IllegalStateException"] ad M wrI) := by
  refine CtL_of (ins := .ireturn) (ok := okI) [some (.ref (ad 0 0)), some (.int (iI a1)), some (.int (iI a2)), some (.ref (ad 90 0)), none] (by decide +kernel) rfl (Nat.le_of_ble_eq_true rfl) (fun κ s hs X hr hQ hδ => endI rfl hs X hr hQ hδ) (fun κ X hNL hδ htab Y => ?_)
  refine g_aload_n X dL_version_0 rfl rfl ?_
  refine g_iconst X dL_version_1 rfl ?_
  refine g_aload_n X dL_version_2 rfl rfl ?_
  refine g_iload_n X dL_version_3 rfl rfl ?_
  refine g_iload_n X dL_version_4 rfl rfl ?_
  rw [← hδ] at hC
  refine g_xV2 X w_X11_version ml_L_52 dL_version_5 rfl (n0 hN) (en0 _ _ _ _) ⟨⟨Nat.le_of_ble_eq_true rfl, Nat.le_of_ble_eq_true rfl⟩, by show 0 + mc ≤ mc; omega, by show 0 + ms ≤ ms; omega⟩ (Nat.le_of_ble_eq_true rfl) hC (fun E ce q H1 locs1 ls hpx hM hP hD hS hl hc hv hcl => ?_) (fun v ad1 M1 h1 => ?_)
  · have hE := hx E hpx
    simp only [List.mem_cons, List.not_mem_nil, or_false] at hE
    rcases hE with hE | hE
    · subst hE
      refine x_catch X ([]) (⟨0, 10, 13, 15⟩) ([⟨0, 10, 17, 17⟩]) htab (fun z hz => absurd hz List.not_mem_nil) exn_15 (by decide) (by decide) kx_L_15 hM hP hD hS hl hc hv hcl ?_
      refine g_astore_4 X dL_version_13 rfl (lt_kN hNL rfl) rfl ?_
      refine g_iconst X dL_version_15 rfl ?_
      refine g_widen (cl' := mc) (sl' := ms) (by omega) (by omega) ?_
      exact g_ret Y dL_version_16 ⟨_, rfl⟩ (Or.inr ⟨0, _, rfl, hpx, rfl, rfl, rfl⟩)
    · subst hE
      refine x_catch X ([⟨0, 10, 13, 15⟩]) (⟨0, 10, 17, 17⟩) ([]) htab (pas1 (by decide) kx_L_15 exn_15 (by decide)) exn_17 (by decide) (by decide) kx_L_17 hM hP hD hS hl hc hv hcl ?_
      refine g_astore_4 X dL_version_17 rfl (lt_kN hNL rfl) rfl ?_
      refine g_iconst X dL_version_19 rfl ?_
      refine g_widen (cl' := mc) (sl' := ms) (by omega) (by omega) ?_
      exact g_ret Y dL_version_20 ⟨_, rfl⟩ (Or.inr ⟨1, _, rfl, hpx, rfl, rfl, rfl⟩)
  · have hq := hp v ad1 M1 h1
    obtain ⟨ea, i, hi⟩ := hq
    subst hi
    refine g_i2l X dL_version_8 rfl ?_
    rw [← ea]
    refine g_last X (n90 hN) (en90 _ _ _ _) (en90 _ _ _ _) (t0 := 1) rfl (by omega) (by omega) (by decide) dL_version_9 rfl ?_
    refine g_goto (pc' := 21) X dL_version_10 rfl ?_
    refine g_iconst X dL_version_21 rfl ?_
    refine g_widen (cl' := mc) (sl' := ms) (by omega) (by omega) ?_
    exact g_ret Y dL_version_22 ⟨_, rfl⟩ (Or.inl ⟨_, M1, h1, rfl, rfl⟩)
set_option maxRecDepth 100000 in
theorem wl_L_shot : WL md_L_shot hh_L_shot 5 := ⟨cw_L_shot, st_L_shot, ini_L, by decide +kernel, by decide +kernel, by decide +kernel⟩
set_option maxRecDepth 100000 in
set_option maxHeartbeats 4000000 in
theorem c_L_shot {δ : Dx} {nm : List (Nat × Int)} {ad : Ad} {M : Mem} {a1 a2 a3 : Int} {mc ms : Nat} {post : Option Value → Ad → Mem → Prop} {px : String → Prop} (hN : NmOk nm) (hC : CtX δ md_X11_shot mc ms nm ad M [.ref (ad 0 0), .int (iI a1), .int (iI a2), .int (iI a3)] post px) (hp : ∀ v ad' M', post v ad' M' → ad' 90 0 = ad 90 0 ∧ ∃ i : Int, v = some (.int (iI i))) (hx : ∀ E, px E → E ∈ (["java/lang/IndexOutOfBoundsException", "java/lang/IllegalArgumentException", "java/lang/IllegalStateException"] : List String)) : CtL δ md_L_shot hh_L_shot mc ms nm ad M [.ref (ad 0 0), .int (iI a1), .int (iI a2), .int (iI a3), .ref (ad 90 0)] (pHl post px ["java/lang/IndexOutOfBoundsException", "java/lang/IllegalArgumentException", "java/lang/IllegalStateException"] ad M wrI) := by
  refine CtL_of (ins := .ireturn) (ok := okI) [some (.ref (ad 0 0)), some (.int (iI a1)), some (.int (iI a2)), some (.int (iI a3)), some (.ref (ad 90 0)), none] (by decide +kernel) rfl (Nat.le_of_ble_eq_true rfl) (fun κ s hs X hr hQ hδ => endI rfl hs X hr hQ hδ) (fun κ X hNL hδ htab Y => ?_)
  refine g_aload X dL_shot_0 rfl rfl ?_
  refine g_iconst X dL_shot_2 rfl ?_
  refine g_aload_n X dL_shot_3 rfl rfl ?_
  refine g_iload_n X dL_shot_4 rfl rfl ?_
  refine g_iload_n X dL_shot_5 rfl rfl ?_
  refine g_iload_n X dL_shot_6 rfl rfl ?_
  rw [← hδ] at hC
  refine g_xV3 X w_X11_shot ml_L_55 dL_shot_7 rfl (n0 hN) (en0 _ _ _ _) ⟨⟨Nat.le_of_ble_eq_true rfl, Nat.le_of_ble_eq_true rfl⟩, by show 0 + mc ≤ mc; omega, by show 0 + ms ≤ ms; omega⟩ (Nat.le_of_ble_eq_true rfl) hC (fun E ce q H1 locs1 ls hpx hM hP hD hS hl hc hv hcl => ?_) (fun v ad1 M1 h1 => ?_)
  · have hE := hx E hpx
    simp only [List.mem_cons, List.not_mem_nil, or_false] at hE
    rcases hE with hE | hE | hE
    · subst hE
      refine x_catch X ([]) (⟨0, 12, 15, 13⟩) ([⟨0, 12, 19, 15⟩, ⟨0, 12, 23, 17⟩]) htab (fun z hz => absurd hz List.not_mem_nil) exn_13 (by decide) (by decide) kx_L_13 hM hP hD hS hl hc hv hcl ?_
      refine g_astore_5 X dL_shot_15 rfl (lt_kN hNL rfl) rfl ?_
      refine g_iconst X dL_shot_17 rfl ?_
      refine g_widen (cl' := mc) (sl' := ms) (by omega) (by omega) ?_
      exact g_ret Y dL_shot_18 ⟨_, rfl⟩ (Or.inr ⟨0, _, rfl, hpx, rfl, rfl, rfl⟩)
    · subst hE
      refine x_catch X ([⟨0, 12, 15, 13⟩]) (⟨0, 12, 19, 15⟩) ([⟨0, 12, 23, 17⟩]) htab (pas1 (by decide) kx_L_13 exn_13 (by decide)) exn_15 (by decide) (by decide) kx_L_15 hM hP hD hS hl hc hv hcl ?_
      refine g_astore_5 X dL_shot_19 rfl (lt_kN hNL rfl) rfl ?_
      refine g_iconst X dL_shot_21 rfl ?_
      refine g_widen (cl' := mc) (sl' := ms) (by omega) (by omega) ?_
      exact g_ret Y dL_shot_22 ⟨_, rfl⟩ (Or.inr ⟨1, _, rfl, hpx, rfl, rfl, rfl⟩)
    · subst hE
      refine x_catch X ([⟨0, 12, 15, 13⟩, ⟨0, 12, 19, 15⟩]) (⟨0, 12, 23, 17⟩) ([]) htab (pas2 (by decide) kx_L_13 exn_13 (by decide) (by decide) kx_L_15 exn_15 (by decide)) exn_17 (by decide) (by decide) kx_L_17 hM hP hD hS hl hc hv hcl ?_
      refine g_astore_5 X dL_shot_23 rfl (lt_kN hNL rfl) rfl ?_
      refine g_iconst X dL_shot_25 rfl ?_
      refine g_widen (cl' := mc) (sl' := ms) (by omega) (by omega) ?_
      exact g_ret Y dL_shot_26 ⟨_, rfl⟩ (Or.inr ⟨2, _, rfl, hpx, rfl, rfl, rfl⟩)
  · have hq := hp v ad1 M1 h1
    obtain ⟨ea, i, hi⟩ := hq
    subst hi
    refine g_i2l X dL_shot_10 rfl ?_
    rw [← ea]
    refine g_last X (n90 hN) (en90 _ _ _ _) (en90 _ _ _ _) (t0 := 1) rfl (by omega) (by omega) (by decide) dL_shot_11 rfl ?_
    refine g_goto (pc' := 27) X dL_shot_12 rfl ?_
    refine g_iconst X dL_shot_27 rfl ?_
    refine g_widen (cl' := mc) (sl' := ms) (by omega) (by omega) ?_
    exact g_ret Y dL_shot_28 ⟨_, rfl⟩ (Or.inl ⟨_, M1, h1, rfl, rfl⟩)
set_option maxRecDepth 100000 in
theorem wl_L_proof : WL md_L_proof hh_L_proof 3 := ⟨cw_L_proof, st_L_proof, ini_L, by decide +kernel, by decide +kernel, by decide +kernel⟩
set_option maxRecDepth 100000 in
set_option maxHeartbeats 4000000 in
theorem c_L_proof {δ : Dx} {nm : List (Nat × Int)} {ad : Ad} {M : Mem} {a1 : Int} {mc ms : Nat} {post : Option Value → Ad → Mem → Prop} {px : String → Prop} (hN : NmOk nm) (hC : CtX δ md_X11_proof mc ms nm ad M [.ref (ad 0 0), .int (iI a1)] post px) (hp : ∀ v ad' M', post v ad' M' → ad' 90 0 = ad 90 0 ∧ ∃ i : Int, v = some (.int (iI i))) (hx : ∀ E, px E → E ∈ (["java/lang/IndexOutOfBoundsException"] : List String)) : CtL δ md_L_proof hh_L_proof mc ms nm ad M [.ref (ad 0 0), .int (iI a1), .ref (ad 90 0)] (pHl post px ["java/lang/IndexOutOfBoundsException"] ad M wrI) := by
  refine CtL_of (ins := .ireturn) (ok := okI) [some (.ref (ad 0 0)), some (.int (iI a1)), some (.ref (ad 90 0)), none] (by decide +kernel) rfl (Nat.le_of_ble_eq_true rfl) (fun κ s hs X hr hQ hδ => endI rfl hs X hr hQ hδ) (fun κ X hNL hδ htab Y => ?_)
  refine g_aload_n X dL_proof_0 rfl rfl ?_
  refine g_iconst X dL_proof_1 rfl ?_
  refine g_aload_n X dL_proof_2 rfl rfl ?_
  refine g_iload_n X dL_proof_3 rfl rfl ?_
  rw [← hδ] at hC
  refine g_xV1 X w_X11_proof ml_L_58 dL_proof_4 rfl (n0 hN) (en0 _ _ _ _) ⟨⟨Nat.le_of_ble_eq_true rfl, Nat.le_of_ble_eq_true rfl⟩, by show 0 + mc ≤ mc; omega, by show 0 + ms ≤ ms; omega⟩ (Nat.le_of_ble_eq_true rfl) hC (fun E ce q H1 locs1 ls hpx hM hP hD hS hl hc hv hcl => ?_) (fun v ad1 M1 h1 => ?_)
  · have hE := hx E hpx
    simp only [List.mem_cons, List.not_mem_nil, or_false] at hE
    subst hE
    refine x_catch X ([]) (⟨0, 9, 12, 13⟩) ([]) htab (fun z hz => absurd hz List.not_mem_nil) exn_13 (by decide) (by decide) kx_L_13 hM hP hD hS hl hc hv hcl ?_
    refine g_astore_3 X dL_proof_12 rfl (lt_kN hNL rfl) rfl ?_
    refine g_iconst X dL_proof_13 rfl ?_
    refine g_widen (cl' := mc) (sl' := ms) (by omega) (by omega) ?_
    exact g_ret Y dL_proof_14 ⟨_, rfl⟩ (Or.inr ⟨0, _, rfl, hpx, rfl, rfl, rfl⟩)
  · have hq := hp v ad1 M1 h1
    obtain ⟨ea, i, hi⟩ := hq
    subst hi
    refine g_i2l X dL_proof_7 rfl ?_
    rw [← ea]
    refine g_last X (n90 hN) (en90 _ _ _ _) (en90 _ _ _ _) (t0 := 1) rfl (by omega) (by omega) (by decide) dL_proof_8 rfl ?_
    refine g_goto (pc' := 15) X dL_proof_9 rfl ?_
    refine g_iconst X dL_proof_15 rfl ?_
    refine g_widen (cl' := mc) (sl' := ms) (by omega) (by omega) ?_
    exact g_ret Y dL_proof_16 ⟨_, rfl⟩ (Or.inl ⟨_, M1, h1, rfl, rfl⟩)
set_option maxRecDepth 100000 in
theorem wl_L_speed : WL md_L_speed hh_L_speed 5 := ⟨cw_L_speed, st_L_speed, ini_L, by decide +kernel, by decide +kernel, by decide +kernel⟩
set_option maxRecDepth 100000 in
set_option maxHeartbeats 4000000 in
theorem c_L_speed {δ : Dx} {nm : List (Nat × Int)} {ad : Ad} {M : Mem} {a1 a2 a3 : Int} {mc ms : Nat} {post : Option Value → Ad → Mem → Prop} {px : String → Prop} (hN : NmOk nm) (hC : CtX δ md_X11_speed mc ms nm ad M [.ref (ad 0 0), .int (iI a1), .int (iI a2), .int (iI a3)] post px) (hp : ∀ v ad' M', post v ad' M' → ad' 90 0 = ad 90 0 ∧ ∃ i : Int, v = some (.int (iI i))) (hx : ∀ E, px E → E ∈ (["java/lang/IndexOutOfBoundsException", "java/lang/IllegalArgumentException"] : List String)) : CtL δ md_L_speed hh_L_speed mc ms nm ad M [.ref (ad 0 0), .int (iI a1), .int (iI a2), .int (iI a3), .ref (ad 90 0)] (pHl post px ["java/lang/IndexOutOfBoundsException", "java/lang/IllegalArgumentException"] ad M wrI) := by
  refine CtL_of (ins := .ireturn) (ok := okI) [some (.ref (ad 0 0)), some (.int (iI a1)), some (.int (iI a2)), some (.int (iI a3)), some (.ref (ad 90 0)), none] (by decide +kernel) rfl (Nat.le_of_ble_eq_true rfl) (fun κ s hs X hr hQ hδ => endI rfl hs X hr hQ hδ) (fun κ X hNL hδ htab Y => ?_)
  refine g_aload X dL_speed_0 rfl rfl ?_
  refine g_iconst X dL_speed_2 rfl ?_
  refine g_aload_n X dL_speed_3 rfl rfl ?_
  refine g_iload_n X dL_speed_4 rfl rfl ?_
  refine g_iload_n X dL_speed_5 rfl rfl ?_
  refine g_iload_n X dL_speed_6 rfl rfl ?_
  rw [← hδ] at hC
  refine g_xV3 X w_X11_speed ml_L_61 dL_speed_7 rfl (n0 hN) (en0 _ _ _ _) ⟨⟨Nat.le_of_ble_eq_true rfl, Nat.le_of_ble_eq_true rfl⟩, by show 0 + mc ≤ mc; omega, by show 0 + ms ≤ ms; omega⟩ (Nat.le_of_ble_eq_true rfl) hC (fun E ce q H1 locs1 ls hpx hM hP hD hS hl hc hv hcl => ?_) (fun v ad1 M1 h1 => ?_)
  · have hE := hx E hpx
    simp only [List.mem_cons, List.not_mem_nil, or_false] at hE
    rcases hE with hE | hE
    · subst hE
      refine x_catch X ([]) (⟨0, 12, 15, 13⟩) ([⟨0, 12, 19, 15⟩]) htab (fun z hz => absurd hz List.not_mem_nil) exn_13 (by decide) (by decide) kx_L_13 hM hP hD hS hl hc hv hcl ?_
      refine g_astore_5 X dL_speed_15 rfl (lt_kN hNL rfl) rfl ?_
      refine g_iconst X dL_speed_17 rfl ?_
      refine g_widen (cl' := mc) (sl' := ms) (by omega) (by omega) ?_
      exact g_ret Y dL_speed_18 ⟨_, rfl⟩ (Or.inr ⟨0, _, rfl, hpx, rfl, rfl, rfl⟩)
    · subst hE
      refine x_catch X ([⟨0, 12, 15, 13⟩]) (⟨0, 12, 19, 15⟩) ([]) htab (pas1 (by decide) kx_L_13 exn_13 (by decide)) exn_15 (by decide) (by decide) kx_L_15 hM hP hD hS hl hc hv hcl ?_
      refine g_astore_5 X dL_speed_19 rfl (lt_kN hNL rfl) rfl ?_
      refine g_iconst X dL_speed_21 rfl ?_
      refine g_widen (cl' := mc) (sl' := ms) (by omega) (by omega) ?_
      exact g_ret Y dL_speed_22 ⟨_, rfl⟩ (Or.inr ⟨1, _, rfl, hpx, rfl, rfl, rfl⟩)
  · have hq := hp v ad1 M1 h1
    obtain ⟨ea, i, hi⟩ := hq
    subst hi
    refine g_i2l X dL_speed_10 rfl ?_
    rw [← ea]
    refine g_last X (n90 hN) (en90 _ _ _ _) (en90 _ _ _ _) (t0 := 1) rfl (by omega) (by omega) (by decide) dL_speed_11 rfl ?_
    refine g_goto (pc' := 23) X dL_speed_12 rfl ?_
    refine g_iconst X dL_speed_23 rfl ?_
    refine g_widen (cl' := mc) (sl' := ms) (by omega) (by omega) ?_
    exact g_ret Y dL_speed_24 ⟨_, rfl⟩ (Or.inl ⟨_, M1, h1, rfl, rfl⟩)
set_option maxRecDepth 100000 in
theorem wl_L_ofVersion : WL md_L_ofVersion hh_L_ofVersion 4 := ⟨cw_L_ofVersion, st_L_ofVersion, ini_L, by decide +kernel, by decide +kernel, by decide +kernel⟩
set_option maxRecDepth 100000 in
set_option maxHeartbeats 4000000 in
theorem c_L_ofVersion {δ : Dx} {nm : List (Nat × Int)} {ad : Ad} {M : Mem} {a1 a2 : Int} {mc ms : Nat} {post : Option Value → Ad → Mem → Prop} {px : String → Prop} (hN : NmOk nm) (hC : CtX δ md_X11_ofVersion mc ms nm ad M [.ref (ad 0 0), .int (iI a1), .int (iI a2)] post px) (hp : ∀ v ad' M', post v ad' M' → ad' 90 0 = ad 90 0 ∧ ∃ i : Int, v = some (.int (iI i))) (hx : ∀ E, px E → E ∈ (["java/lang/IndexOutOfBoundsException", "java/lang/IllegalArgumentException"] : List String)) : CtL δ md_L_ofVersion hh_L_ofVersion mc ms nm ad M [.ref (ad 0 0), .int (iI a1), .int (iI a2), .ref (ad 90 0)] (pHl post px ["java/lang/IndexOutOfBoundsException", "java/lang/IllegalArgumentException"] ad M wrI) := by
  refine CtL_of (ins := .ireturn) (ok := okI) [some (.ref (ad 0 0)), some (.int (iI a1)), some (.int (iI a2)), some (.ref (ad 90 0)), none] (by decide +kernel) rfl (Nat.le_of_ble_eq_true rfl) (fun κ s hs X hr hQ hδ => endI rfl hs X hr hQ hδ) (fun κ X hNL hδ htab Y => ?_)
  refine g_aload_n X dL_ofVersion_0 rfl rfl ?_
  refine g_iconst X dL_ofVersion_1 rfl ?_
  refine g_aload_n X dL_ofVersion_2 rfl rfl ?_
  refine g_iload_n X dL_ofVersion_3 rfl rfl ?_
  refine g_iload_n X dL_ofVersion_4 rfl rfl ?_
  rw [← hδ] at hC
  refine g_xV2 X w_X11_ofVersion ml_L_64 dL_ofVersion_5 rfl (n0 hN) (en0 _ _ _ _) ⟨⟨Nat.le_of_ble_eq_true rfl, Nat.le_of_ble_eq_true rfl⟩, by show 0 + mc ≤ mc; omega, by show 0 + ms ≤ ms; omega⟩ (Nat.le_of_ble_eq_true rfl) hC (fun E ce q H1 locs1 ls hpx hM hP hD hS hl hc hv hcl => ?_) (fun v ad1 M1 h1 => ?_)
  · have hE := hx E hpx
    simp only [List.mem_cons, List.not_mem_nil, or_false] at hE
    rcases hE with hE | hE
    · subst hE
      refine x_catch X ([]) (⟨0, 10, 13, 13⟩) ([⟨0, 10, 17, 15⟩]) htab (fun z hz => absurd hz List.not_mem_nil) exn_13 (by decide) (by decide) kx_L_13 hM hP hD hS hl hc hv hcl ?_
      refine g_astore_4 X dL_ofVersion_13 rfl (lt_kN hNL rfl) rfl ?_
      refine g_iconst X dL_ofVersion_15 rfl ?_
      refine g_widen (cl' := mc) (sl' := ms) (by omega) (by omega) ?_
      exact g_ret Y dL_ofVersion_16 ⟨_, rfl⟩ (Or.inr ⟨0, _, rfl, hpx, rfl, rfl, rfl⟩)
    · subst hE
      refine x_catch X ([⟨0, 10, 13, 13⟩]) (⟨0, 10, 17, 15⟩) ([]) htab (pas1 (by decide) kx_L_13 exn_13 (by decide)) exn_15 (by decide) (by decide) kx_L_15 hM hP hD hS hl hc hv hcl ?_
      refine g_astore_4 X dL_ofVersion_17 rfl (lt_kN hNL rfl) rfl ?_
      refine g_iconst X dL_ofVersion_19 rfl ?_
      refine g_widen (cl' := mc) (sl' := ms) (by omega) (by omega) ?_
      exact g_ret Y dL_ofVersion_20 ⟨_, rfl⟩ (Or.inr ⟨1, _, rfl, hpx, rfl, rfl, rfl⟩)
  · have hq := hp v ad1 M1 h1
    obtain ⟨ea, i, hi⟩ := hq
    subst hi
    refine g_i2l X dL_ofVersion_8 rfl ?_
    rw [← ea]
    refine g_last X (n90 hN) (en90 _ _ _ _) (en90 _ _ _ _) (t0 := 1) rfl (by omega) (by omega) (by decide) dL_ofVersion_9 rfl ?_
    refine g_goto (pc' := 21) X dL_ofVersion_10 rfl ?_
    refine g_iconst X dL_ofVersion_21 rfl ?_
    refine g_widen (cl' := mc) (sl' := ms) (by omega) (by omega) ?_
    exact g_ret Y dL_ofVersion_22 ⟨_, rfl⟩ (Or.inl ⟨_, M1, h1, rfl, rfl⟩)
set_option maxRecDepth 100000 in
theorem wl_L_scrap : WL md_L_scrap hh_L_scrap 4 := ⟨cw_L_scrap, st_L_scrap, ini_L, by decide +kernel, by decide +kernel, by decide +kernel⟩
set_option maxRecDepth 100000 in
set_option maxHeartbeats 4000000 in
theorem c_L_scrap {δ : Dx} {nm : List (Nat × Int)} {ad : Ad} {M : Mem} {a1 a2 : Int} {mc ms : Nat} {post : Option Value → Ad → Mem → Prop} {px : String → Prop} (hN : NmOk nm) (hC : CtX δ md_X11_scrap mc ms nm ad M [.ref (ad 0 0), .int (iI a1), .int (iI a2)] post px) (hp : ∀ v ad' M', post v ad' M' → ad' 90 0 = ad 90 0 ∧ ∃ i : Int, v = some (.int (iI i))) (hx : ∀ E, px E → E ∈ (["java/lang/IllegalArgumentException", "java/lang/IllegalStateException"] : List String)) : CtL δ md_L_scrap hh_L_scrap mc ms nm ad M [.ref (ad 0 0), .int (iI a1), .int (iI a2), .ref (ad 90 0)] (pHl post px ["java/lang/IllegalArgumentException", "java/lang/IllegalStateException"] ad M wrI) := by
  refine CtL_of (ins := .ireturn) (ok := okI) [some (.ref (ad 0 0)), some (.int (iI a1)), some (.int (iI a2)), some (.ref (ad 90 0)), none] (by decide +kernel) rfl (Nat.le_of_ble_eq_true rfl) (fun κ s hs X hr hQ hδ => endI rfl hs X hr hQ hδ) (fun κ X hNL hδ htab Y => ?_)
  refine g_aload_n X dL_scrap_0 rfl rfl ?_
  refine g_iconst X dL_scrap_1 rfl ?_
  refine g_aload_n X dL_scrap_2 rfl rfl ?_
  refine g_iload_n X dL_scrap_3 rfl rfl ?_
  refine g_iload_n X dL_scrap_4 rfl rfl ?_
  rw [← hδ] at hC
  refine g_xV2 X w_X11_scrap ml_L_67 dL_scrap_5 rfl (n0 hN) (en0 _ _ _ _) ⟨⟨Nat.le_of_ble_eq_true rfl, Nat.le_of_ble_eq_true rfl⟩, by show 0 + mc ≤ mc; omega, by show 0 + ms ≤ ms; omega⟩ (Nat.le_of_ble_eq_true rfl) hC (fun E ce q H1 locs1 ls hpx hM hP hD hS hl hc hv hcl => ?_) (fun v ad1 M1 h1 => ?_)
  · have hE := hx E hpx
    simp only [List.mem_cons, List.not_mem_nil, or_false] at hE
    rcases hE with hE | hE
    · subst hE
      refine x_catch X ([]) (⟨0, 10, 13, 15⟩) ([⟨0, 10, 17, 17⟩]) htab (fun z hz => absurd hz List.not_mem_nil) exn_15 (by decide) (by decide) kx_L_15 hM hP hD hS hl hc hv hcl ?_
      refine g_astore_4 X dL_scrap_13 rfl (lt_kN hNL rfl) rfl ?_
      refine g_iconst X dL_scrap_15 rfl ?_
      refine g_widen (cl' := mc) (sl' := ms) (by omega) (by omega) ?_
      exact g_ret Y dL_scrap_16 ⟨_, rfl⟩ (Or.inr ⟨0, _, rfl, hpx, rfl, rfl, rfl⟩)
    · subst hE
      refine x_catch X ([⟨0, 10, 13, 15⟩]) (⟨0, 10, 17, 17⟩) ([]) htab (pas1 (by decide) kx_L_15 exn_15 (by decide)) exn_17 (by decide) (by decide) kx_L_17 hM hP hD hS hl hc hv hcl ?_
      refine g_astore_4 X dL_scrap_17 rfl (lt_kN hNL rfl) rfl ?_
      refine g_iconst X dL_scrap_19 rfl ?_
      refine g_widen (cl' := mc) (sl' := ms) (by omega) (by omega) ?_
      exact g_ret Y dL_scrap_20 ⟨_, rfl⟩ (Or.inr ⟨1, _, rfl, hpx, rfl, rfl, rfl⟩)
  · have hq := hp v ad1 M1 h1
    obtain ⟨ea, i, hi⟩ := hq
    subst hi
    refine g_i2l X dL_scrap_8 rfl ?_
    rw [← ea]
    refine g_last X (n90 hN) (en90 _ _ _ _) (en90 _ _ _ _) (t0 := 1) rfl (by omega) (by omega) (by decide) dL_scrap_9 rfl ?_
    refine g_goto (pc' := 21) X dL_scrap_10 rfl ?_
    refine g_iconst X dL_scrap_21 rfl ?_
    refine g_widen (cl' := mc) (sl' := ms) (by omega) (by omega) ?_
    exact g_ret Y dL_scrap_22 ⟨_, rfl⟩ (Or.inl ⟨_, M1, h1, rfl, rfl⟩)
set_option maxRecDepth 100000 in
theorem wl_L_tint : WL md_L_tint hh_L_tint 4 := ⟨cw_L_tint, st_L_tint, ini_L, by decide +kernel, by decide +kernel, by decide +kernel⟩
set_option maxRecDepth 100000 in
set_option maxHeartbeats 4000000 in
theorem c_L_tint {δ : Dx} {nm : List (Nat × Int)} {ad : Ad} {M : Mem} {a1 a2 : Int} {mc ms : Nat} {post : Option Value → Ad → Mem → Prop} {px : String → Prop} (hN : NmOk nm) (hC : CtX δ md_X11_tint mc ms nm ad M [.ref (ad 0 0), .int (iI a1), .int (iI a2)] post px) (hp : ∀ v ad' M', post v ad' M' → ad' 90 0 = ad 90 0 ∧ ∃ i : Int, v = some (.int (iI i))) (hx : ∀ E, px E → E ∈ (["java/lang/IndexOutOfBoundsException"] : List String)) : CtL δ md_L_tint hh_L_tint mc ms nm ad M [.ref (ad 0 0), .int (iI a1), .int (iI a2), .ref (ad 90 0)] (pHl post px ["java/lang/IndexOutOfBoundsException"] ad M wrI) := by
  refine CtL_of (ins := .ireturn) (ok := okI) [some (.ref (ad 0 0)), some (.int (iI a1)), some (.int (iI a2)), some (.ref (ad 90 0)), none] (by decide +kernel) rfl (Nat.le_of_ble_eq_true rfl) (fun κ s hs X hr hQ hδ => endI rfl hs X hr hQ hδ) (fun κ X hNL hδ htab Y => ?_)
  refine g_aload_n X dL_tint_0 rfl rfl ?_
  refine g_iconst X dL_tint_1 rfl ?_
  refine g_aload_n X dL_tint_2 rfl rfl ?_
  refine g_iload_n X dL_tint_3 rfl rfl ?_
  refine g_iload_n X dL_tint_4 rfl rfl ?_
  rw [← hδ] at hC
  refine g_xV2 X w_X11_tint ml_L_70 dL_tint_5 rfl (n0 hN) (en0 _ _ _ _) ⟨⟨Nat.le_of_ble_eq_true rfl, Nat.le_of_ble_eq_true rfl⟩, by show 0 + mc ≤ mc; omega, by show 0 + ms ≤ ms; omega⟩ (Nat.le_of_ble_eq_true rfl) hC (fun E ce q H1 locs1 ls hpx hM hP hD hS hl hc hv hcl => ?_) (fun v ad1 M1 h1 => ?_)
  · have hE := hx E hpx
    simp only [List.mem_cons, List.not_mem_nil, or_false] at hE
    subst hE
    refine x_catch X ([]) (⟨0, 10, 13, 13⟩) ([]) htab (fun z hz => absurd hz List.not_mem_nil) exn_13 (by decide) (by decide) kx_L_13 hM hP hD hS hl hc hv hcl ?_
    refine g_astore_4 X dL_tint_13 rfl (lt_kN hNL rfl) rfl ?_
    refine g_iconst X dL_tint_15 rfl ?_
    refine g_widen (cl' := mc) (sl' := ms) (by omega) (by omega) ?_
    exact g_ret Y dL_tint_16 ⟨_, rfl⟩ (Or.inr ⟨0, _, rfl, hpx, rfl, rfl, rfl⟩)
  · have hq := hp v ad1 M1 h1
    obtain ⟨ea, i, hi⟩ := hq
    subst hi
    refine g_i2l X dL_tint_8 rfl ?_
    rw [← ea]
    refine g_last X (n90 hN) (en90 _ _ _ _) (en90 _ _ _ _) (t0 := 1) rfl (by omega) (by omega) (by decide) dL_tint_9 rfl ?_
    refine g_goto (pc' := 17) X dL_tint_10 rfl ?_
    refine g_iconst X dL_tint_17 rfl ?_
    refine g_widen (cl' := mc) (sl' := ms) (by omega) (by omega) ?_
    exact g_ret Y dL_tint_18 ⟨_, rfl⟩ (Or.inl ⟨_, M1, h1, rfl, rfl⟩)
set_option maxRecDepth 100000 in
theorem wl_L_right : WL md_L_right hh_L_right 7 := ⟨cw_L_right, st_L_right, ini_L, by decide +kernel, by decide +kernel, by decide +kernel⟩
set_option maxRecDepth 100000 in
set_option maxHeartbeats 4000000 in
theorem c_L_right {δ : Dx} {nm : List (Nat × Int)} {ad : Ad} {M : Mem} {a1 a2 a3 a4 a5 : Int} {mc ms : Nat} {post : Option Value → Ad → Mem → Prop} {px : String → Prop} (hN : NmOk nm) (hC : CtX δ md_X11_right mc ms nm ad M [.ref (ad 0 0), .int (iI a1), .int (iI a2), .int (iI a3), .int (iI a4), .int (iI a5)] post px) (hp : ∀ v ad' M', post v ad' M' → ad' 90 0 = ad 90 0 ∧ ∃ i : Int, v = some (.int (iI i))) (hx : ∀ E, px E → E ∈ (["java/lang/IndexOutOfBoundsException", "java/lang/IllegalArgumentException", "java/lang/IllegalStateException"] : List String)) : CtL δ md_L_right hh_L_right mc ms nm ad M [.ref (ad 0 0), .int (iI a1), .int (iI a2), .int (iI a3), .int (iI a4), .int (iI a5), .ref (ad 90 0)] (pHl post px ["java/lang/IndexOutOfBoundsException", "java/lang/IllegalArgumentException", "java/lang/IllegalStateException"] ad M wrI) := by
  refine CtL_of (ins := .ireturn) (ok := okI) [some (.ref (ad 0 0)), some (.int (iI a1)), some (.int (iI a2)), some (.int (iI a3)), some (.int (iI a4)), some (.int (iI a5)), some (.ref (ad 90 0)), none] (by decide +kernel) rfl (Nat.le_of_ble_eq_true rfl) (fun κ s hs X hr hQ hδ => endI rfl hs X hr hQ hδ) (fun κ X hNL hδ htab Y => ?_)
  refine g_aload X dL_right_0 rfl rfl ?_
  refine g_iconst X dL_right_2 rfl ?_
  refine g_aload_n X dL_right_3 rfl rfl ?_
  refine g_iload_n X dL_right_4 rfl rfl ?_
  refine g_iload_n X dL_right_5 rfl rfl ?_
  refine g_iload_n X dL_right_6 rfl rfl ?_
  refine g_iload X dL_right_7 rfl rfl ?_
  refine g_iload X dL_right_9 rfl rfl ?_
  rw [← hδ] at hC
  refine g_xV5 X w_X11_right ml_L_73 dL_right_11 rfl (n0 hN) (en0 _ _ _ _) ⟨⟨Nat.le_of_ble_eq_true rfl, Nat.le_of_ble_eq_true rfl⟩, by show 0 + mc ≤ mc; omega, by show 0 + ms ≤ ms; omega⟩ (Nat.le_of_ble_eq_true rfl) hC (fun E ce q H1 locs1 ls hpx hM hP hD hS hl hc hv hcl => ?_) (fun v ad1 M1 h1 => ?_)
  · have hE := hx E hpx
    simp only [List.mem_cons, List.not_mem_nil, or_false] at hE
    rcases hE with hE | hE | hE
    · subst hE
      refine x_catch X ([]) (⟨0, 16, 19, 13⟩) ([⟨0, 16, 23, 15⟩, ⟨0, 16, 27, 17⟩]) htab (fun z hz => absurd hz List.not_mem_nil) exn_13 (by decide) (by decide) kx_L_13 hM hP hD hS hl hc hv hcl ?_
      refine g_astore_7 X dL_right_19 rfl (lt_kN hNL rfl) rfl ?_
      refine g_iconst X dL_right_21 rfl ?_
      refine g_widen (cl' := mc) (sl' := ms) (by omega) (by omega) ?_
      exact g_ret Y dL_right_22 ⟨_, rfl⟩ (Or.inr ⟨0, _, rfl, hpx, rfl, rfl, rfl⟩)
    · subst hE
      refine x_catch X ([⟨0, 16, 19, 13⟩]) (⟨0, 16, 23, 15⟩) ([⟨0, 16, 27, 17⟩]) htab (pas1 (by decide) kx_L_13 exn_13 (by decide)) exn_15 (by decide) (by decide) kx_L_15 hM hP hD hS hl hc hv hcl ?_
      refine g_astore_7 X dL_right_23 rfl (lt_kN hNL rfl) rfl ?_
      refine g_iconst X dL_right_25 rfl ?_
      refine g_widen (cl' := mc) (sl' := ms) (by omega) (by omega) ?_
      exact g_ret Y dL_right_26 ⟨_, rfl⟩ (Or.inr ⟨1, _, rfl, hpx, rfl, rfl, rfl⟩)
    · subst hE
      refine x_catch X ([⟨0, 16, 19, 13⟩, ⟨0, 16, 23, 15⟩]) (⟨0, 16, 27, 17⟩) ([]) htab (pas2 (by decide) kx_L_13 exn_13 (by decide) (by decide) kx_L_15 exn_15 (by decide)) exn_17 (by decide) (by decide) kx_L_17 hM hP hD hS hl hc hv hcl ?_
      refine g_astore_7 X dL_right_27 rfl (lt_kN hNL rfl) rfl ?_
      refine g_iconst X dL_right_29 rfl ?_
      refine g_widen (cl' := mc) (sl' := ms) (by omega) (by omega) ?_
      exact g_ret Y dL_right_30 ⟨_, rfl⟩ (Or.inr ⟨2, _, rfl, hpx, rfl, rfl, rfl⟩)
  · have hq := hp v ad1 M1 h1
    obtain ⟨ea, i, hi⟩ := hq
    subst hi
    refine g_i2l X dL_right_14 rfl ?_
    rw [← ea]
    refine g_last X (n90 hN) (en90 _ _ _ _) (en90 _ _ _ _) (t0 := 1) rfl (by omega) (by omega) (by decide) dL_right_15 rfl ?_
    refine g_goto (pc' := 31) X dL_right_16 rfl ?_
    refine g_iconst X dL_right_31 rfl ?_
    refine g_widen (cl' := mc) (sl' := ms) (by omega) (by omega) ?_
    exact g_ret Y dL_right_32 ⟨_, rfl⟩ (Or.inl ⟨_, M1, h1, rfl, rfl⟩)
set_option maxRecDepth 100000 in
theorem wl_L_allow : WL md_L_allow hh_L_allow 5 := ⟨cw_L_allow, st_L_allow, ini_L, by decide +kernel, by decide +kernel, by decide +kernel⟩
set_option maxRecDepth 100000 in
set_option maxHeartbeats 4000000 in
theorem c_L_allow {δ : Dx} {nm : List (Nat × Int)} {ad : Ad} {M : Mem} {a1 a2 a3 : Int} {mc ms : Nat} {post : Option Value → Ad → Mem → Prop} {px : String → Prop} (hN : NmOk nm) (hC : CtX δ md_X11_allow mc ms nm ad M [.ref (ad 0 0), .int (iI a1), .int (iI a2), .int (iI a3)] post px) (hp : ∀ v ad' M', post v ad' M' → ad' 90 0 = ad 90 0 ∧ ∃ i : Int, rng i ∧ v = some (.int (iI i))) (hx : ∀ E, px E → E ∈ (["java/lang/IndexOutOfBoundsException"] : List String)) : CtL δ md_L_allow hh_L_allow mc ms nm ad M [.ref (ad 0 0), .int (iI a1), .int (iI a2), .int (iI a3), .ref (ad 90 0)] (pHl post px ["java/lang/IndexOutOfBoundsException"] ad M wrZ) := by
  refine CtL_of (ins := .ireturn) (ok := okI) [some (.ref (ad 0 0)), some (.int (iI a1)), some (.int (iI a2)), some (.int (iI a3)), some (.ref (ad 90 0)), none] (by decide +kernel) rfl (Nat.le_of_ble_eq_true rfl) (fun κ s hs X hr hQ hδ => endI rfl hs X hr hQ hδ) (fun κ X hNL hδ htab Y => ?_)
  refine g_aload X dL_allow_0 rfl rfl ?_
  refine g_iconst X dL_allow_2 rfl ?_
  refine g_aload_n X dL_allow_3 rfl rfl ?_
  refine g_iload_n X dL_allow_4 rfl rfl ?_
  refine g_iload_n X dL_allow_5 rfl rfl ?_
  refine g_iload_n X dL_allow_6 rfl rfl ?_
  rw [← hδ] at hC
  refine g_xV3 X w_X11_allow ml_L_76 dL_allow_7 rfl (n0 hN) (en0 _ _ _ _) ⟨⟨Nat.le_of_ble_eq_true rfl, Nat.le_of_ble_eq_true rfl⟩, by show 0 + mc ≤ mc; omega, by show 0 + ms ≤ ms; omega⟩ (Nat.le_of_ble_eq_true rfl) hC (fun E ce q H1 locs1 ls hpx hM hP hD hS hl hc hv hcl => ?_) (fun v ad1 M1 h1 => ?_)
  · have hE := hx E hpx
    simp only [List.mem_cons, List.not_mem_nil, or_false] at hE
    subst hE
    refine x_catch X ([]) (⟨0, 19, 22, 13⟩) ([]) htab (fun z hz => absurd hz List.not_mem_nil) exn_13 (by decide) (by decide) kx_L_13 hM hP hD hS hl hc hv hcl ?_
    refine g_astore_5 X dL_allow_22 rfl (lt_kN hNL rfl) rfl ?_
    refine g_iconst X dL_allow_24 rfl ?_
    refine g_widen (cl' := mc) (sl' := ms) (by omega) (by omega) ?_
    exact g_ret Y dL_allow_25 ⟨_, rfl⟩ (Or.inr ⟨0, _, rfl, hpx, rfl, rfl, rfl⟩)
  · have hq := hp v ad1 M1 h1
    obtain ⟨ea, i, ri, hi⟩ := hq
    subst hi
    rw [← ea]
    have cut : ∀ l : Int64, l = (if iI i = iI 0 then 0 else 1) → G κ nm ad1 M1 18 [some (.ref (ad 0 0)), some (.int (iI a1)), some (.int (iI a2)), some (.int (iI a3)), some (.ref (ad1 90 0)), none] [.long l, .int (iI 0), .ref (ad1 90 0)] (0 + mc) (0 + ms) := by
      intro l hl
      refine g_last X (n90 hN) (en90 _ _ _ _) (en90 _ _ _ _) (t0 := 1) rfl (by omega) (by omega) (by decide) dL_allow_18 rfl ?_
      refine g_goto (pc' := 26) X dL_allow_19 rfl ?_
      refine g_iconst X dL_allow_26 rfl ?_
      refine g_widen (cl' := mc) (sl' := ms) (by omega) (by omega) ?_
      exact g_ret Y dL_allow_27 ⟨_, rfl⟩ (Or.inl ⟨_, M1, h1, rfl, by rw [hl]; rfl⟩)
    refine g_if_eq (tgt := 17) X dL_allow_10 rfl rfl ri (fun h => ?_) (fun h => ?_)
    · refine g_lconst X dL_allow_17 rfl rfl ?_
      exact cut _ (by rw [if_pos (by rw [h])]; rfl)
    · refine g_lconst X dL_allow_13 rfl rfl ?_
      refine g_goto (pc' := 18) X dL_allow_14 rfl ?_
      exact cut _ (by rw [if_neg (fun q => h ((iI_eq ri (by decide)).mp q))]; rfl)
set_option maxRecDepth 100000 in
theorem wl_L_mayShow : WL md_L_mayShow hh_L_mayShow 5 := ⟨cw_L_mayShow, st_L_mayShow, ini_L, by decide +kernel, by decide +kernel, by decide +kernel⟩
set_option maxRecDepth 100000 in
set_option maxHeartbeats 4000000 in
theorem c_L_mayShow {δ : Dx} {nm : List (Nat × Int)} {ad : Ad} {M : Mem} {a1 a2 a3 : Int} {mc ms : Nat} {post : Option Value → Ad → Mem → Prop} {px : String → Prop} (hN : NmOk nm) (hC : CtX δ md_X11_mayShow mc ms nm ad M [.ref (ad 0 0), .int (iI a1), .int (iI a2), .int (iI a3)] post px) (hp : ∀ v ad' M', post v ad' M' → ad' 90 0 = ad 90 0 ∧ ∃ i : Int, rng i ∧ v = some (.int (iI i))) (hx : ∀ E, px E → E ∈ (["java/lang/IndexOutOfBoundsException", "java/lang/IllegalArgumentException"] : List String)) : CtL δ md_L_mayShow hh_L_mayShow mc ms nm ad M [.ref (ad 0 0), .int (iI a1), .int (iI a2), .int (iI a3), .ref (ad 90 0)] (pHl post px ["java/lang/IndexOutOfBoundsException", "java/lang/IllegalArgumentException"] ad M wrZ) := by
  refine CtL_of (ins := .ireturn) (ok := okI) [some (.ref (ad 0 0)), some (.int (iI a1)), some (.int (iI a2)), some (.int (iI a3)), some (.ref (ad 90 0)), none] (by decide +kernel) rfl (Nat.le_of_ble_eq_true rfl) (fun κ s hs X hr hQ hδ => endI rfl hs X hr hQ hδ) (fun κ X hNL hδ htab Y => ?_)
  refine g_aload X dL_mayShow_0 rfl rfl ?_
  refine g_iconst X dL_mayShow_2 rfl ?_
  refine g_aload_n X dL_mayShow_3 rfl rfl ?_
  refine g_iload_n X dL_mayShow_4 rfl rfl ?_
  refine g_iload_n X dL_mayShow_5 rfl rfl ?_
  refine g_iload_n X dL_mayShow_6 rfl rfl ?_
  rw [← hδ] at hC
  refine g_xV3 X w_X11_mayShow ml_L_80 dL_mayShow_7 rfl (n0 hN) (en0 _ _ _ _) ⟨⟨Nat.le_of_ble_eq_true rfl, Nat.le_of_ble_eq_true rfl⟩, by show 0 + mc ≤ mc; omega, by show 0 + ms ≤ ms; omega⟩ (Nat.le_of_ble_eq_true rfl) hC (fun E ce q H1 locs1 ls hpx hM hP hD hS hl hc hv hcl => ?_) (fun v ad1 M1 h1 => ?_)
  · have hE := hx E hpx
    simp only [List.mem_cons, List.not_mem_nil, or_false] at hE
    rcases hE with hE | hE
    · subst hE
      refine x_catch X ([]) (⟨0, 19, 22, 13⟩) ([⟨0, 19, 26, 15⟩]) htab (fun z hz => absurd hz List.not_mem_nil) exn_13 (by decide) (by decide) kx_L_13 hM hP hD hS hl hc hv hcl ?_
      refine g_astore_5 X dL_mayShow_22 rfl (lt_kN hNL rfl) rfl ?_
      refine g_iconst X dL_mayShow_24 rfl ?_
      refine g_widen (cl' := mc) (sl' := ms) (by omega) (by omega) ?_
      exact g_ret Y dL_mayShow_25 ⟨_, rfl⟩ (Or.inr ⟨0, _, rfl, hpx, rfl, rfl, rfl⟩)
    · subst hE
      refine x_catch X ([⟨0, 19, 22, 13⟩]) (⟨0, 19, 26, 15⟩) ([]) htab (pas1 (by decide) kx_L_13 exn_13 (by decide)) exn_15 (by decide) (by decide) kx_L_15 hM hP hD hS hl hc hv hcl ?_
      refine g_astore_5 X dL_mayShow_26 rfl (lt_kN hNL rfl) rfl ?_
      refine g_iconst X dL_mayShow_28 rfl ?_
      refine g_widen (cl' := mc) (sl' := ms) (by omega) (by omega) ?_
      exact g_ret Y dL_mayShow_29 ⟨_, rfl⟩ (Or.inr ⟨1, _, rfl, hpx, rfl, rfl, rfl⟩)
  · have hq := hp v ad1 M1 h1
    obtain ⟨ea, i, ri, hi⟩ := hq
    subst hi
    rw [← ea]
    have cut : ∀ l : Int64, l = (if iI i = iI 0 then 0 else 1) → G κ nm ad1 M1 18 [some (.ref (ad 0 0)), some (.int (iI a1)), some (.int (iI a2)), some (.int (iI a3)), some (.ref (ad1 90 0)), none] [.long l, .int (iI 0), .ref (ad1 90 0)] (0 + mc) (0 + ms) := by
      intro l hl
      refine g_last X (n90 hN) (en90 _ _ _ _) (en90 _ _ _ _) (t0 := 1) rfl (by omega) (by omega) (by decide) dL_mayShow_18 rfl ?_
      refine g_goto (pc' := 30) X dL_mayShow_19 rfl ?_
      refine g_iconst X dL_mayShow_30 rfl ?_
      refine g_widen (cl' := mc) (sl' := ms) (by omega) (by omega) ?_
      exact g_ret Y dL_mayShow_31 ⟨_, rfl⟩ (Or.inl ⟨_, M1, h1, rfl, by rw [hl]; rfl⟩)
    refine g_if_eq (tgt := 17) X dL_mayShow_10 rfl rfl ri (fun h => ?_) (fun h => ?_)
    · refine g_lconst X dL_mayShow_17 rfl rfl ?_
      exact cut _ (by rw [if_pos (by rw [h])]; rfl)
    · refine g_lconst X dL_mayShow_13 rfl rfl ?_
      refine g_goto (pc' := 18) X dL_mayShow_14 rfl ?_
      exact cut _ (by rw [if_neg (fun q => h ((iI_eq ri (by decide)).mp q))]; rfl)
set_option maxRecDepth 100000 in
theorem wl_L_edition : WL md_L_edition hh_L_edition 3 := ⟨cw_L_edition, st_L_edition, ini_L, by decide +kernel, by decide +kernel, by decide +kernel⟩
set_option maxRecDepth 100000 in
set_option maxHeartbeats 4000000 in
theorem c_L_edition {δ : Dx} {nm : List (Nat × Int)} {ad : Ad} {M : Mem} {a1 : Int} {mc ms : Nat} {post : Option Value → Ad → Mem → Prop} {px : String → Prop} (hN : NmOk nm) (hC : CtX δ md_X11_edition mc ms nm ad M [.ref (ad 0 0), .int (iI a1)] post px) (hp : ∀ v ad' M', post v ad' M' → ad' 90 0 = ad 90 0 ∧ ∃ i : Int, v = some (.int (iI i))) (hx : ∀ E, px E → E ∈ (["java/lang/IndexOutOfBoundsException"] : List String)) : CtL δ md_L_edition hh_L_edition mc ms nm ad M [.ref (ad 0 0), .int (iI a1), .ref (ad 90 0)] (pHl post px ["java/lang/IndexOutOfBoundsException"] ad M wrI) := by
  refine CtL_of (ins := .ireturn) (ok := okI) [some (.ref (ad 0 0)), some (.int (iI a1)), some (.ref (ad 90 0)), none] (by decide +kernel) rfl (Nat.le_of_ble_eq_true rfl) (fun κ s hs X hr hQ hδ => endI rfl hs X hr hQ hδ) (fun κ X hNL hδ htab Y => ?_)
  refine g_aload_n X dL_edition_0 rfl rfl ?_
  refine g_iconst X dL_edition_1 rfl ?_
  refine g_aload_n X dL_edition_2 rfl rfl ?_
  refine g_iload_n X dL_edition_3 rfl rfl ?_
  rw [← hδ] at hC
  refine g_xV1 X w_X11_edition ml_L_84 dL_edition_4 rfl (n0 hN) (en0 _ _ _ _) ⟨⟨Nat.le_of_ble_eq_true rfl, Nat.le_of_ble_eq_true rfl⟩, by show 0 + mc ≤ mc; omega, by show 0 + ms ≤ ms; omega⟩ (Nat.le_of_ble_eq_true rfl) hC (fun E ce q H1 locs1 ls hpx hM hP hD hS hl hc hv hcl => ?_) (fun v ad1 M1 h1 => ?_)
  · have hE := hx E hpx
    simp only [List.mem_cons, List.not_mem_nil, or_false] at hE
    subst hE
    refine x_catch X ([]) (⟨0, 9, 12, 13⟩) ([]) htab (fun z hz => absurd hz List.not_mem_nil) exn_13 (by decide) (by decide) kx_L_13 hM hP hD hS hl hc hv hcl ?_
    refine g_astore_3 X dL_edition_12 rfl (lt_kN hNL rfl) rfl ?_
    refine g_iconst X dL_edition_13 rfl ?_
    refine g_widen (cl' := mc) (sl' := ms) (by omega) (by omega) ?_
    exact g_ret Y dL_edition_14 ⟨_, rfl⟩ (Or.inr ⟨0, _, rfl, hpx, rfl, rfl, rfl⟩)
  · have hq := hp v ad1 M1 h1
    obtain ⟨ea, i, hi⟩ := hq
    subst hi
    refine g_i2l X dL_edition_7 rfl ?_
    rw [← ea]
    refine g_last X (n90 hN) (en90 _ _ _ _) (en90 _ _ _ _) (t0 := 1) rfl (by omega) (by omega) (by decide) dL_edition_8 rfl ?_
    refine g_goto (pc' := 15) X dL_edition_9 rfl ?_
    refine g_iconst X dL_edition_15 rfl ?_
    refine g_widen (cl' := mc) (sl' := ms) (by omega) (by omega) ?_
    exact g_ret Y dL_edition_16 ⟨_, rfl⟩ (Or.inl ⟨_, M1, h1, rfl, rfl⟩)
set_option maxRecDepth 100000 in
theorem wl_L_protect : WL md_L_protect hh_L_protect 4 := ⟨cw_L_protect, st_L_protect, ini_L, by decide +kernel, by decide +kernel, by decide +kernel⟩
set_option maxRecDepth 100000 in
set_option maxHeartbeats 4000000 in
theorem c_L_protect {δ : Dx} {nm : List (Nat × Int)} {ad : Ad} {M : Mem} {a1 a2 : Int} {mc ms : Nat} {post : Option Value → Ad → Mem → Prop} {px : String → Prop} (hN : NmOk nm) (hC : CtX δ md_X11_protect mc ms nm ad M [.ref (ad 0 0), .int (iI a1), .int (iI a2)] post px) (hp : ∀ v ad' M', post v ad' M' → ad' 90 0 = ad 90 0 ∧ ∃ i : Int, rng i ∧ v = some (.int (iI i))) (hx : ∀ E, px E → E ∈ (["java/lang/IndexOutOfBoundsException"] : List String)) : CtL δ md_L_protect hh_L_protect mc ms nm ad M [.ref (ad 0 0), .int (iI a1), .int (iI a2), .ref (ad 90 0)] (pHl post px ["java/lang/IndexOutOfBoundsException"] ad M wrZ) := by
  refine CtL_of (ins := .ireturn) (ok := okI) [some (.ref (ad 0 0)), some (.int (iI a1)), some (.int (iI a2)), some (.ref (ad 90 0)), none] (by decide +kernel) rfl (Nat.le_of_ble_eq_true rfl) (fun κ s hs X hr hQ hδ => endI rfl hs X hr hQ hδ) (fun κ X hNL hδ htab Y => ?_)
  refine g_aload_n X dL_protect_0 rfl rfl ?_
  refine g_iconst X dL_protect_1 rfl ?_
  refine g_aload_n X dL_protect_2 rfl rfl ?_
  refine g_iload_n X dL_protect_3 rfl rfl ?_
  refine g_iload_n X dL_protect_4 rfl rfl ?_
  rw [← hδ] at hC
  refine g_xV2 X w_X11_protect ml_L_87 dL_protect_5 rfl (n0 hN) (en0 _ _ _ _) ⟨⟨Nat.le_of_ble_eq_true rfl, Nat.le_of_ble_eq_true rfl⟩, by show 0 + mc ≤ mc; omega, by show 0 + ms ≤ ms; omega⟩ (Nat.le_of_ble_eq_true rfl) hC (fun E ce q H1 locs1 ls hpx hM hP hD hS hl hc hv hcl => ?_) (fun v ad1 M1 h1 => ?_)
  · have hE := hx E hpx
    simp only [List.mem_cons, List.not_mem_nil, or_false] at hE
    subst hE
    refine x_catch X ([]) (⟨0, 17, 20, 13⟩) ([]) htab (fun z hz => absurd hz List.not_mem_nil) exn_13 (by decide) (by decide) kx_L_13 hM hP hD hS hl hc hv hcl ?_
    refine g_astore_4 X dL_protect_20 rfl (lt_kN hNL rfl) rfl ?_
    refine g_iconst X dL_protect_22 rfl ?_
    refine g_widen (cl' := mc) (sl' := ms) (by omega) (by omega) ?_
    exact g_ret Y dL_protect_23 ⟨_, rfl⟩ (Or.inr ⟨0, _, rfl, hpx, rfl, rfl, rfl⟩)
  · have hq := hp v ad1 M1 h1
    obtain ⟨ea, i, ri, hi⟩ := hq
    subst hi
    rw [← ea]
    have cut : ∀ l : Int64, l = (if iI i = iI 0 then 0 else 1) → G κ nm ad1 M1 16 [some (.ref (ad 0 0)), some (.int (iI a1)), some (.int (iI a2)), some (.ref (ad1 90 0)), none] [.long l, .int (iI 0), .ref (ad1 90 0)] (0 + mc) (0 + ms) := by
      intro l hl
      refine g_last X (n90 hN) (en90 _ _ _ _) (en90 _ _ _ _) (t0 := 1) rfl (by omega) (by omega) (by decide) dL_protect_16 rfl ?_
      refine g_goto (pc' := 24) X dL_protect_17 rfl ?_
      refine g_iconst X dL_protect_24 rfl ?_
      refine g_widen (cl' := mc) (sl' := ms) (by omega) (by omega) ?_
      exact g_ret Y dL_protect_25 ⟨_, rfl⟩ (Or.inl ⟨_, M1, h1, rfl, by rw [hl]; rfl⟩)
    refine g_if_eq (tgt := 15) X dL_protect_8 rfl rfl ri (fun h => ?_) (fun h => ?_)
    · refine g_lconst X dL_protect_15 rfl rfl ?_
      exact cut _ (by rw [if_pos (by rw [h])]; rfl)
    · refine g_lconst X dL_protect_11 rfl rfl ?_
      refine g_goto (pc' := 16) X dL_protect_12 rfl ?_
      exact cut _ (by rw [if_neg (fun q => h ((iI_eq ri (by decide)).mp q))]; rfl)
set_option maxRecDepth 100000 in
theorem wl_L_limit : WL md_L_limit hh_L_limit 3 := ⟨cw_L_limit, st_L_limit, ini_L, by decide +kernel, by decide +kernel, by decide +kernel⟩
set_option maxRecDepth 100000 in
set_option maxHeartbeats 4000000 in
theorem c_L_limit {δ : Dx} {nm : List (Nat × Int)} {ad : Ad} {M : Mem} {a1 : Int} {mc ms : Nat} {post : Option Value → Ad → Mem → Prop} {px : String → Prop} (hN : NmOk nm) (hC : CtX δ md_X11_limit mc ms nm ad M [.ref (ad 0 0), .int (iI a1)] post px) (hp : ∀ v ad' M', post v ad' M' → ad' 90 0 = ad 90 0 ∧ ∃ i : Int, v = some (.int (iI i))) (hx : ∀ E, px E → E ∈ (["java/lang/IllegalArgumentException"] : List String)) : CtL δ md_L_limit hh_L_limit mc ms nm ad M [.ref (ad 0 0), .int (iI a1), .ref (ad 90 0)] (pHl post px ["java/lang/IllegalArgumentException"] ad M wrI) := by
  refine CtL_of (ins := .ireturn) (ok := okI) [some (.ref (ad 0 0)), some (.int (iI a1)), some (.ref (ad 90 0)), none] (by decide +kernel) rfl (Nat.le_of_ble_eq_true rfl) (fun κ s hs X hr hQ hδ => endI rfl hs X hr hQ hδ) (fun κ X hNL hδ htab Y => ?_)
  refine g_aload_n X dL_limit_0 rfl rfl ?_
  refine g_iconst X dL_limit_1 rfl ?_
  refine g_aload_n X dL_limit_2 rfl rfl ?_
  refine g_iload_n X dL_limit_3 rfl rfl ?_
  rw [← hδ] at hC
  refine g_xV1 X w_X11_limit ml_L_91 dL_limit_4 rfl (n0 hN) (en0 _ _ _ _) ⟨⟨Nat.le_of_ble_eq_true rfl, Nat.le_of_ble_eq_true rfl⟩, by show 0 + mc ≤ mc; omega, by show 0 + ms ≤ ms; omega⟩ (Nat.le_of_ble_eq_true rfl) hC (fun E ce q H1 locs1 ls hpx hM hP hD hS hl hc hv hcl => ?_) (fun v ad1 M1 h1 => ?_)
  · have hE := hx E hpx
    simp only [List.mem_cons, List.not_mem_nil, or_false] at hE
    subst hE
    refine x_catch X ([]) (⟨0, 9, 12, 15⟩) ([]) htab (fun z hz => absurd hz List.not_mem_nil) exn_15 (by decide) (by decide) kx_L_15 hM hP hD hS hl hc hv hcl ?_
    refine g_astore_3 X dL_limit_12 rfl (lt_kN hNL rfl) rfl ?_
    refine g_iconst X dL_limit_13 rfl ?_
    refine g_widen (cl' := mc) (sl' := ms) (by omega) (by omega) ?_
    exact g_ret Y dL_limit_14 ⟨_, rfl⟩ (Or.inr ⟨0, _, rfl, hpx, rfl, rfl, rfl⟩)
  · have hq := hp v ad1 M1 h1
    obtain ⟨ea, i, hi⟩ := hq
    subst hi
    refine g_i2l X dL_limit_7 rfl ?_
    rw [← ea]
    refine g_last X (n90 hN) (en90 _ _ _ _) (en90 _ _ _ _) (t0 := 1) rfl (by omega) (by omega) (by decide) dL_limit_8 rfl ?_
    refine g_goto (pc' := 15) X dL_limit_9 rfl ?_
    refine g_iconst X dL_limit_15 rfl ?_
    refine g_widen (cl' := mc) (sl' := ms) (by omega) (by omega) ?_
    exact g_ret Y dL_limit_16 ⟨_, rfl⟩ (Or.inl ⟨_, M1, h1, rfl, rfl⟩)
set_option maxRecDepth 100000 in
theorem wl_L_dirt : WL md_L_dirt hh_L_dirt 3 := ⟨cw_L_dirt, st_L_dirt, ini_L, by decide +kernel, by decide +kernel, by decide +kernel⟩
set_option maxRecDepth 100000 in
set_option maxHeartbeats 4000000 in
theorem c_L_dirt {δ : Dx} {nm : List (Nat × Int)} {ad : Ad} {M : Mem} {a1 : Int} {mc ms : Nat} {post : Option Value → Ad → Mem → Prop} {px : String → Prop} (hN : NmOk nm) (hC : CtX δ md_X11_dirt mc ms nm ad M [.ref (ad 0 0), .int (iI a1)] post px) (hp : ∀ v ad' M', post v ad' M' → ad' 90 0 = ad 90 0 ∧ ∃ i : Int, v = some (.int (iI i))) (hx : ∀ E, px E → E ∈ (["java/lang/IllegalArgumentException"] : List String)) : CtL δ md_L_dirt hh_L_dirt mc ms nm ad M [.ref (ad 0 0), .int (iI a1), .ref (ad 90 0)] (pHl post px ["java/lang/IllegalArgumentException"] ad M wrI) := by
  refine CtL_of (ins := .ireturn) (ok := okI) [some (.ref (ad 0 0)), some (.int (iI a1)), some (.ref (ad 90 0)), none] (by decide +kernel) rfl (Nat.le_of_ble_eq_true rfl) (fun κ s hs X hr hQ hδ => endI rfl hs X hr hQ hδ) (fun κ X hNL hδ htab Y => ?_)
  refine g_aload_n X dL_dirt_0 rfl rfl ?_
  refine g_iconst X dL_dirt_1 rfl ?_
  refine g_aload_n X dL_dirt_2 rfl rfl ?_
  refine g_iload_n X dL_dirt_3 rfl rfl ?_
  rw [← hδ] at hC
  refine g_xV1 X w_X11_dirt ml_L_94 dL_dirt_4 rfl (n0 hN) (en0 _ _ _ _) ⟨⟨Nat.le_of_ble_eq_true rfl, Nat.le_of_ble_eq_true rfl⟩, by show 0 + mc ≤ mc; omega, by show 0 + ms ≤ ms; omega⟩ (Nat.le_of_ble_eq_true rfl) hC (fun E ce q H1 locs1 ls hpx hM hP hD hS hl hc hv hcl => ?_) (fun v ad1 M1 h1 => ?_)
  · have hE := hx E hpx
    simp only [List.mem_cons, List.not_mem_nil, or_false] at hE
    subst hE
    refine x_catch X ([]) (⟨0, 9, 12, 15⟩) ([]) htab (fun z hz => absurd hz List.not_mem_nil) exn_15 (by decide) (by decide) kx_L_15 hM hP hD hS hl hc hv hcl ?_
    refine g_astore_3 X dL_dirt_12 rfl (lt_kN hNL rfl) rfl ?_
    refine g_iconst X dL_dirt_13 rfl ?_
    refine g_widen (cl' := mc) (sl' := ms) (by omega) (by omega) ?_
    exact g_ret Y dL_dirt_14 ⟨_, rfl⟩ (Or.inr ⟨0, _, rfl, hpx, rfl, rfl, rfl⟩)
  · have hq := hp v ad1 M1 h1
    obtain ⟨ea, i, hi⟩ := hq
    subst hi
    refine g_i2l X dL_dirt_7 rfl ?_
    rw [← ea]
    refine g_last X (n90 hN) (en90 _ _ _ _) (en90 _ _ _ _) (t0 := 1) rfl (by omega) (by omega) (by decide) dL_dirt_8 rfl ?_
    refine g_goto (pc' := 15) X dL_dirt_9 rfl ?_
    refine g_iconst X dL_dirt_15 rfl ?_
    refine g_widen (cl' := mc) (sl' := ms) (by omega) (by omega) ?_
    exact g_ret Y dL_dirt_16 ⟨_, rfl⟩ (Or.inl ⟨_, M1, h1, rfl, rfl⟩)
set_option maxRecDepth 100000 in
theorem wl_L_scratch : WL md_L_scratch hh_L_scratch 6 := ⟨cw_L_scratch, st_L_scratch, ini_L, by decide +kernel, by decide +kernel, by decide +kernel⟩
set_option maxRecDepth 100000 in
set_option maxHeartbeats 4000000 in
theorem c_L_scratch {δ : Dx} {nm : List (Nat × Int)} {ad : Ad} {M : Mem} {a1 a2 a3 a4 : Int} {mc ms : Nat} {post : Option Value → Ad → Mem → Prop} {px : String → Prop} (hN : NmOk nm) (hC : CtX δ md_X11_scratch mc ms nm ad M [.ref (ad 0 0), .int (iI a1), .int (iI a2), .int (iI a3), .int (iI a4)] post px) (hp : ∀ v ad' M', post v ad' M' → ad' 90 0 = ad 90 0 ∧ ∃ i : Int, v = some (.int (iI i))) (hx : ∀ E, px E → E ∈ (["java/lang/IndexOutOfBoundsException", "java/lang/IllegalArgumentException"] : List String)) : CtL δ md_L_scratch hh_L_scratch mc ms nm ad M [.ref (ad 0 0), .int (iI a1), .int (iI a2), .int (iI a3), .int (iI a4), .ref (ad 90 0)] (pHl post px ["java/lang/IndexOutOfBoundsException", "java/lang/IllegalArgumentException"] ad M wrI) := by
  refine CtL_of (ins := .ireturn) (ok := okI) [some (.ref (ad 0 0)), some (.int (iI a1)), some (.int (iI a2)), some (.int (iI a3)), some (.int (iI a4)), some (.ref (ad 90 0)), none] (by decide +kernel) rfl (Nat.le_of_ble_eq_true rfl) (fun κ s hs X hr hQ hδ => endI rfl hs X hr hQ hδ) (fun κ X hNL hδ htab Y => ?_)
  refine g_aload X dL_scratch_0 rfl rfl ?_
  refine g_iconst X dL_scratch_2 rfl ?_
  refine g_aload_n X dL_scratch_3 rfl rfl ?_
  refine g_iload_n X dL_scratch_4 rfl rfl ?_
  refine g_iload_n X dL_scratch_5 rfl rfl ?_
  refine g_iload_n X dL_scratch_6 rfl rfl ?_
  refine g_iload X dL_scratch_7 rfl rfl ?_
  rw [← hδ] at hC
  refine g_xV4 X w_X11_scratch ml_L_97 dL_scratch_9 rfl (n0 hN) (en0 _ _ _ _) ⟨⟨Nat.le_of_ble_eq_true rfl, Nat.le_of_ble_eq_true rfl⟩, by show 0 + mc ≤ mc; omega, by show 0 + ms ≤ ms; omega⟩ (Nat.le_of_ble_eq_true rfl) hC (fun E ce q H1 locs1 ls hpx hM hP hD hS hl hc hv hcl => ?_) (fun v ad1 M1 h1 => ?_)
  · have hE := hx E hpx
    simp only [List.mem_cons, List.not_mem_nil, or_false] at hE
    rcases hE with hE | hE
    · subst hE
      refine x_catch X ([]) (⟨0, 14, 17, 13⟩) ([⟨0, 14, 21, 15⟩]) htab (fun z hz => absurd hz List.not_mem_nil) exn_13 (by decide) (by decide) kx_L_13 hM hP hD hS hl hc hv hcl ?_
      refine g_astore_6 X dL_scratch_17 rfl (lt_kN hNL rfl) rfl ?_
      refine g_iconst X dL_scratch_19 rfl ?_
      refine g_widen (cl' := mc) (sl' := ms) (by omega) (by omega) ?_
      exact g_ret Y dL_scratch_20 ⟨_, rfl⟩ (Or.inr ⟨0, _, rfl, hpx, rfl, rfl, rfl⟩)
    · subst hE
      refine x_catch X ([⟨0, 14, 17, 13⟩]) (⟨0, 14, 21, 15⟩) ([]) htab (pas1 (by decide) kx_L_13 exn_13 (by decide)) exn_15 (by decide) (by decide) kx_L_15 hM hP hD hS hl hc hv hcl ?_
      refine g_astore_6 X dL_scratch_21 rfl (lt_kN hNL rfl) rfl ?_
      refine g_iconst X dL_scratch_23 rfl ?_
      refine g_widen (cl' := mc) (sl' := ms) (by omega) (by omega) ?_
      exact g_ret Y dL_scratch_24 ⟨_, rfl⟩ (Or.inr ⟨1, _, rfl, hpx, rfl, rfl, rfl⟩)
  · have hq := hp v ad1 M1 h1
    obtain ⟨ea, i, hi⟩ := hq
    subst hi
    refine g_i2l X dL_scratch_12 rfl ?_
    rw [← ea]
    refine g_last X (n90 hN) (en90 _ _ _ _) (en90 _ _ _ _) (t0 := 1) rfl (by omega) (by omega) (by decide) dL_scratch_13 rfl ?_
    refine g_goto (pc' := 25) X dL_scratch_14 rfl ?_
    refine g_iconst X dL_scratch_25 rfl ?_
    refine g_widen (cl' := mc) (sl' := ms) (by omega) (by omega) ?_
    exact g_ret Y dL_scratch_26 ⟨_, rfl⟩ (Or.inl ⟨_, M1, h1, rfl, rfl⟩)
set_option maxRecDepth 100000 in
theorem wl_L_takeBack : WL md_L_takeBack hh_L_takeBack 3 := ⟨cw_L_takeBack, st_L_takeBack, ini_L, by decide +kernel, by decide +kernel, by decide +kernel⟩
set_option maxRecDepth 100000 in
set_option maxHeartbeats 4000000 in
theorem c_L_takeBack {δ : Dx} {nm : List (Nat × Int)} {ad : Ad} {M : Mem} {a1 : Int} {mc ms : Nat} {post : Option Value → Ad → Mem → Prop} {px : String → Prop} (hN : NmOk nm) (hC : CtX δ md_X11_takeBack mc ms nm ad M [.ref (ad 0 0), .int (iI a1)] post px) (hp : ∀ v ad' M', post v ad' M' → ad' 90 0 = ad 90 0 ∧ ∃ i : Int, v = some (.int (iI i))) (hx : ∀ E, px E → E ∈ (["java/lang/IndexOutOfBoundsException", "java/lang/IllegalStateException"] : List String)) : CtL δ md_L_takeBack hh_L_takeBack mc ms nm ad M [.ref (ad 0 0), .int (iI a1), .ref (ad 90 0)] (pHl post px ["java/lang/IndexOutOfBoundsException", "java/lang/IllegalStateException"] ad M wrI) := by
  refine CtL_of (ins := .ireturn) (ok := okI) [some (.ref (ad 0 0)), some (.int (iI a1)), some (.ref (ad 90 0)), none] (by decide +kernel) rfl (Nat.le_of_ble_eq_true rfl) (fun κ s hs X hr hQ hδ => endI rfl hs X hr hQ hδ) (fun κ X hNL hδ htab Y => ?_)
  refine g_aload_n X dL_takeBack_0 rfl rfl ?_
  refine g_iconst X dL_takeBack_1 rfl ?_
  refine g_aload_n X dL_takeBack_2 rfl rfl ?_
  refine g_iload_n X dL_takeBack_3 rfl rfl ?_
  rw [← hδ] at hC
  refine g_xV1 X w_X11_takeBack ml_L_100 dL_takeBack_4 rfl (n0 hN) (en0 _ _ _ _) ⟨⟨Nat.le_of_ble_eq_true rfl, Nat.le_of_ble_eq_true rfl⟩, by show 0 + mc ≤ mc; omega, by show 0 + ms ≤ ms; omega⟩ (Nat.le_of_ble_eq_true rfl) hC (fun E ce q H1 locs1 ls hpx hM hP hD hS hl hc hv hcl => ?_) (fun v ad1 M1 h1 => ?_)
  · have hE := hx E hpx
    simp only [List.mem_cons, List.not_mem_nil, or_false] at hE
    rcases hE with hE | hE
    · subst hE
      refine x_catch X ([]) (⟨0, 9, 12, 13⟩) ([⟨0, 9, 15, 17⟩]) htab (fun z hz => absurd hz List.not_mem_nil) exn_13 (by decide) (by decide) kx_L_13 hM hP hD hS hl hc hv hcl ?_
      refine g_astore_3 X dL_takeBack_12 rfl (lt_kN hNL rfl) rfl ?_
      refine g_iconst X dL_takeBack_13 rfl ?_
      refine g_widen (cl' := mc) (sl' := ms) (by omega) (by omega) ?_
      exact g_ret Y dL_takeBack_14 ⟨_, rfl⟩ (Or.inr ⟨0, _, rfl, hpx, rfl, rfl, rfl⟩)
    · subst hE
      refine x_catch X ([⟨0, 9, 12, 13⟩]) (⟨0, 9, 15, 17⟩) ([]) htab (pas1 (by decide) kx_L_13 exn_13 (by decide)) exn_17 (by decide) (by decide) kx_L_17 hM hP hD hS hl hc hv hcl ?_
      refine g_astore_3 X dL_takeBack_15 rfl (lt_kN hNL rfl) rfl ?_
      refine g_iconst X dL_takeBack_16 rfl ?_
      refine g_widen (cl' := mc) (sl' := ms) (by omega) (by omega) ?_
      exact g_ret Y dL_takeBack_17 ⟨_, rfl⟩ (Or.inr ⟨1, _, rfl, hpx, rfl, rfl, rfl⟩)
  · have hq := hp v ad1 M1 h1
    obtain ⟨ea, i, hi⟩ := hq
    subst hi
    refine g_i2l X dL_takeBack_7 rfl ?_
    rw [← ea]
    refine g_last X (n90 hN) (en90 _ _ _ _) (en90 _ _ _ _) (t0 := 1) rfl (by omega) (by omega) (by decide) dL_takeBack_8 rfl ?_
    refine g_goto (pc' := 18) X dL_takeBack_9 rfl ?_
    refine g_iconst X dL_takeBack_18 rfl ?_
    refine g_widen (cl' := mc) (sl' := ms) (by omega) (by omega) ?_
    exact g_ret Y dL_takeBack_19 ⟨_, rfl⟩ (Or.inl ⟨_, M1, h1, rfl, rfl⟩)
set_option maxRecDepth 100000 in
theorem wl_L_ofFrame : WL md_L_ofFrame hh_L_ofFrame 4 := ⟨cw_L_ofFrame, st_L_ofFrame, ini_L, by decide +kernel, by decide +kernel, by decide +kernel⟩
set_option maxRecDepth 100000 in
set_option maxHeartbeats 4000000 in
theorem c_L_ofFrame {δ : Dx} {nm : List (Nat × Int)} {ad : Ad} {M : Mem} {a1 a2 : Int} {mc ms : Nat} {post : Option Value → Ad → Mem → Prop} {px : String → Prop} (hN : NmOk nm) (hC : CtX δ md_X11_ofFrame mc ms nm ad M [.ref (ad 0 0), .int (iI a1), .int (iI a2)] post px) (hp : ∀ v ad' M', post v ad' M' → ad' 90 0 = ad 90 0 ∧ ∃ i : Int, v = some (.int (iI i))) (hx : ∀ E, px E → E ∈ (["java/lang/IndexOutOfBoundsException", "java/lang/IllegalArgumentException"] : List String)) : CtL δ md_L_ofFrame hh_L_ofFrame mc ms nm ad M [.ref (ad 0 0), .int (iI a1), .int (iI a2), .ref (ad 90 0)] (pHl post px ["java/lang/IndexOutOfBoundsException", "java/lang/IllegalArgumentException"] ad M wrI) := by
  refine CtL_of (ins := .ireturn) (ok := okI) [some (.ref (ad 0 0)), some (.int (iI a1)), some (.int (iI a2)), some (.ref (ad 90 0)), none] (by decide +kernel) rfl (Nat.le_of_ble_eq_true rfl) (fun κ s hs X hr hQ hδ => endI rfl hs X hr hQ hδ) (fun κ X hNL hδ htab Y => ?_)
  refine g_aload_n X dL_ofFrame_0 rfl rfl ?_
  refine g_iconst X dL_ofFrame_1 rfl ?_
  refine g_aload_n X dL_ofFrame_2 rfl rfl ?_
  refine g_iload_n X dL_ofFrame_3 rfl rfl ?_
  refine g_iload_n X dL_ofFrame_4 rfl rfl ?_
  rw [← hδ] at hC
  refine g_xV2 X w_X11_ofFrame ml_L_103 dL_ofFrame_5 rfl (n0 hN) (en0 _ _ _ _) ⟨⟨Nat.le_of_ble_eq_true rfl, Nat.le_of_ble_eq_true rfl⟩, by show 0 + mc ≤ mc; omega, by show 0 + ms ≤ ms; omega⟩ (Nat.le_of_ble_eq_true rfl) hC (fun E ce q H1 locs1 ls hpx hM hP hD hS hl hc hv hcl => ?_) (fun v ad1 M1 h1 => ?_)
  · have hE := hx E hpx
    simp only [List.mem_cons, List.not_mem_nil, or_false] at hE
    rcases hE with hE | hE
    · subst hE
      refine x_catch X ([]) (⟨0, 10, 13, 13⟩) ([⟨0, 10, 17, 15⟩]) htab (fun z hz => absurd hz List.not_mem_nil) exn_13 (by decide) (by decide) kx_L_13 hM hP hD hS hl hc hv hcl ?_
      refine g_astore_4 X dL_ofFrame_13 rfl (lt_kN hNL rfl) rfl ?_
      refine g_iconst X dL_ofFrame_15 rfl ?_
      refine g_widen (cl' := mc) (sl' := ms) (by omega) (by omega) ?_
      exact g_ret Y dL_ofFrame_16 ⟨_, rfl⟩ (Or.inr ⟨0, _, rfl, hpx, rfl, rfl, rfl⟩)
    · subst hE
      refine x_catch X ([⟨0, 10, 13, 13⟩]) (⟨0, 10, 17, 15⟩) ([]) htab (pas1 (by decide) kx_L_13 exn_13 (by decide)) exn_15 (by decide) (by decide) kx_L_15 hM hP hD hS hl hc hv hcl ?_
      refine g_astore_4 X dL_ofFrame_17 rfl (lt_kN hNL rfl) rfl ?_
      refine g_iconst X dL_ofFrame_19 rfl ?_
      refine g_widen (cl' := mc) (sl' := ms) (by omega) (by omega) ?_
      exact g_ret Y dL_ofFrame_20 ⟨_, rfl⟩ (Or.inr ⟨1, _, rfl, hpx, rfl, rfl, rfl⟩)
  · have hq := hp v ad1 M1 h1
    obtain ⟨ea, i, hi⟩ := hq
    subst hi
    refine g_i2l X dL_ofFrame_8 rfl ?_
    rw [← ea]
    refine g_last X (n90 hN) (en90 _ _ _ _) (en90 _ _ _ _) (t0 := 1) rfl (by omega) (by omega) (by decide) dL_ofFrame_9 rfl ?_
    refine g_goto (pc' := 21) X dL_ofFrame_10 rfl ?_
    refine g_iconst X dL_ofFrame_21 rfl ?_
    refine g_widen (cl' := mc) (sl' := ms) (by omega) (by omega) ?_
    exact g_ret Y dL_ofFrame_22 ⟨_, rfl⟩ (Or.inl ⟨_, M1, h1, rfl, rfl⟩)
set_option maxRecDepth 100000 in
theorem wl_L_seen : WL md_L_seen hh_L_seen 3 := ⟨cw_L_seen, st_L_seen, ini_L, by decide +kernel, by decide +kernel, by decide +kernel⟩
set_option maxRecDepth 100000 in
set_option maxHeartbeats 4000000 in
theorem c_L_seen {δ : Dx} {nm : List (Nat × Int)} {ad : Ad} {M : Mem} {a1 : Int} {mc ms : Nat} {post : Option Value → Ad → Mem → Prop} {px : String → Prop} (hN : NmOk nm) (hC : CtX δ md_X11_seen mc ms nm ad M [.ref (ad 0 0), .int (iI a1)] post px) (hp : ∀ v ad' M', post v ad' M' → ad' 90 0 = ad 90 0 ∧ ∃ i : Int64, v = some (.long i)) (hx : ∀ E, px E → E ∈ (["java/lang/IndexOutOfBoundsException"] : List String)) : CtL δ md_L_seen hh_L_seen mc ms nm ad M [.ref (ad 0 0), .int (iI a1), .ref (ad 90 0)] (pHl post px ["java/lang/IndexOutOfBoundsException"] ad M wrI) := by
  refine CtL_of (ins := .ireturn) (ok := okI) [some (.ref (ad 0 0)), some (.int (iI a1)), some (.ref (ad 90 0)), none] (by decide +kernel) rfl (Nat.le_of_ble_eq_true rfl) (fun κ s hs X hr hQ hδ => endI rfl hs X hr hQ hδ) (fun κ X hNL hδ htab Y => ?_)
  refine g_aload_n X dL_seen_0 rfl rfl ?_
  refine g_iconst X dL_seen_1 rfl ?_
  refine g_aload_n X dL_seen_2 rfl rfl ?_
  refine g_iload_n X dL_seen_3 rfl rfl ?_
  rw [← hδ] at hC
  refine g_xV1 X w_X11_seen ml_L_106 dL_seen_4 rfl (n0 hN) (en0 _ _ _ _) ⟨⟨Nat.le_of_ble_eq_true rfl, Nat.le_of_ble_eq_true rfl⟩, by show 0 + mc ≤ mc; omega, by show 0 + ms ≤ ms; omega⟩ (Nat.le_of_ble_eq_true rfl) hC (fun E ce q H1 locs1 ls hpx hM hP hD hS hl hc hv hcl => ?_) (fun v ad1 M1 h1 => ?_)
  · have hE := hx E hpx
    simp only [List.mem_cons, List.not_mem_nil, or_false] at hE
    subst hE
    refine x_catch X ([]) (⟨0, 8, 11, 13⟩) ([]) htab (fun z hz => absurd hz List.not_mem_nil) exn_13 (by decide) (by decide) kx_L_13 hM hP hD hS hl hc hv hcl ?_
    refine g_astore_3 X dL_seen_11 rfl (lt_kN hNL rfl) rfl ?_
    refine g_iconst X dL_seen_12 rfl ?_
    refine g_widen (cl' := mc) (sl' := ms) (by omega) (by omega) ?_
    exact g_ret Y dL_seen_13 ⟨_, rfl⟩ (Or.inr ⟨0, _, rfl, hpx, rfl, rfl, rfl⟩)
  · have hq := hp v ad1 M1 h1
    obtain ⟨ea, i, hi⟩ := hq
    subst hi
    rw [← ea]
    refine g_last X (n90 hN) (en90 _ _ _ _) (en90 _ _ _ _) (t0 := 1) rfl (by omega) (by omega) (by decide) dL_seen_7 rfl ?_
    refine g_goto (pc' := 14) X dL_seen_8 rfl ?_
    refine g_iconst X dL_seen_14 rfl ?_
    refine g_widen (cl' := mc) (sl' := ms) (by omega) (by omega) ?_
    exact g_ret Y dL_seen_15 ⟨_, rfl⟩ (Or.inl ⟨_, M1, h1, rfl, rfl⟩)
set_option maxRecDepth 100000 in
theorem wl_L_pass : WL md_L_pass hh_L_pass 3 := ⟨cw_L_pass, st_L_pass, ini_L, by decide +kernel, by decide +kernel, by decide +kernel⟩
set_option maxRecDepth 100000 in
set_option maxHeartbeats 4000000 in
theorem c_L_pass {δ : Dx} {nm : List (Nat × Int)} {ad : Ad} {M : Mem} {a1 : Int} {mc ms : Nat} {post : Option Value → Ad → Mem → Prop} {px : String → Prop} (hN : NmOk nm) (hC : CtX δ md_X11_pass mc ms nm ad M [.ref (ad 0 0), .int (iI a1)] post px) (hp : ∀ v ad' M', post v ad' M' → ad' 90 0 = ad 90 0 ∧ ∃ i : Int, v = some (.int (iI i))) (hx : ∀ E, px E → E ∈ (["java/lang/IllegalArgumentException", "java/lang/IllegalStateException"] : List String)) : CtL δ md_L_pass hh_L_pass mc ms nm ad M [.ref (ad 0 0), .int (iI a1), .ref (ad 90 0)] (pHl post px ["java/lang/IllegalArgumentException", "java/lang/IllegalStateException"] ad M wrI) := by
  refine CtL_of (ins := .ireturn) (ok := okI) [some (.ref (ad 0 0)), some (.int (iI a1)), some (.ref (ad 90 0)), none] (by decide +kernel) rfl (Nat.le_of_ble_eq_true rfl) (fun κ s hs X hr hQ hδ => endI rfl hs X hr hQ hδ) (fun κ X hNL hδ htab Y => ?_)
  refine g_aload_n X dL_pass_0 rfl rfl ?_
  refine g_iconst X dL_pass_1 rfl ?_
  refine g_aload_n X dL_pass_2 rfl rfl ?_
  refine g_iload_n X dL_pass_3 rfl rfl ?_
  rw [← hδ] at hC
  refine g_xV1 X w_X11_pass ml_L_110 dL_pass_4 rfl (n0 hN) (en0 _ _ _ _) ⟨⟨Nat.le_of_ble_eq_true rfl, Nat.le_of_ble_eq_true rfl⟩, by show 0 + mc ≤ mc; omega, by show 0 + ms ≤ ms; omega⟩ (Nat.le_of_ble_eq_true rfl) hC (fun E ce q H1 locs1 ls hpx hM hP hD hS hl hc hv hcl => ?_) (fun v ad1 M1 h1 => ?_)
  · have hE := hx E hpx
    simp only [List.mem_cons, List.not_mem_nil, or_false] at hE
    rcases hE with hE | hE
    · subst hE
      refine x_catch X ([]) (⟨0, 9, 12, 15⟩) ([⟨0, 9, 15, 17⟩]) htab (fun z hz => absurd hz List.not_mem_nil) exn_15 (by decide) (by decide) kx_L_15 hM hP hD hS hl hc hv hcl ?_
      refine g_astore_3 X dL_pass_12 rfl (lt_kN hNL rfl) rfl ?_
      refine g_iconst X dL_pass_13 rfl ?_
      refine g_widen (cl' := mc) (sl' := ms) (by omega) (by omega) ?_
      exact g_ret Y dL_pass_14 ⟨_, rfl⟩ (Or.inr ⟨0, _, rfl, hpx, rfl, rfl, rfl⟩)
    · subst hE
      refine x_catch X ([⟨0, 9, 12, 15⟩]) (⟨0, 9, 15, 17⟩) ([]) htab (pas1 (by decide) kx_L_15 exn_15 (by decide)) exn_17 (by decide) (by decide) kx_L_17 hM hP hD hS hl hc hv hcl ?_
      refine g_astore_3 X dL_pass_15 rfl (lt_kN hNL rfl) rfl ?_
      refine g_iconst X dL_pass_16 rfl ?_
      refine g_widen (cl' := mc) (sl' := ms) (by omega) (by omega) ?_
      exact g_ret Y dL_pass_17 ⟨_, rfl⟩ (Or.inr ⟨1, _, rfl, hpx, rfl, rfl, rfl⟩)
  · have hq := hp v ad1 M1 h1
    obtain ⟨ea, i, hi⟩ := hq
    subst hi
    refine g_i2l X dL_pass_7 rfl ?_
    rw [← ea]
    refine g_last X (n90 hN) (en90 _ _ _ _) (en90 _ _ _ _) (t0 := 1) rfl (by omega) (by omega) (by decide) dL_pass_8 rfl ?_
    refine g_goto (pc' := 18) X dL_pass_9 rfl ?_
    refine g_iconst X dL_pass_18 rfl ?_
    refine g_widen (cl' := mc) (sl' := ms) (by omega) (by omega) ?_
    exact g_ret Y dL_pass_19 ⟨_, rfl⟩ (Or.inl ⟨_, M1, h1, rfl, rfl⟩)
