/-! words -/
def Tb : List Cond := lw_tbl.filter goodWord
theorem Tb_of {w : Cond} (h : w ∈ lw_tbl) (g : goodWord w = true) : w ∈ Tb := List.mem_filter.mpr ⟨h, g⟩
theorem Tb_in {w : Cond} (h : w ∈ Tb) : w ∈ lw_tbl := (List.mem_filter.mp h).1
theorem Tb_good {w : Cond} (h : w ∈ Tb) : (w.onTables && w.keeps) = true ∨ ∃ ty, w = .arrayClass ty := good_of_word (List.mem_filter.mp h).2
/-! ints -/
def iI (z : Int) : Int32 := Int32.ofInt z
abbrev vwCl : List vw_C := [(RX0, TX0, 4), (RX1, TX1, 1), (RX2, TX2, 4), (RX3, TX3, 8), (RX4, TX4, 0), (RX5, TX5, 0), (RX6, TX6, 1), (RX6, TX6, 1), (RX8, TX8, 15), (RX9, TX9, 4), (RX10, TX10, 14), (RX11, TX11, 10), (RX12, TX12, 49)]
/-- a method: its name, code, locals, answer, the frames and words below it -/
abbrev Md : Type := MethodName × ByteArray × Nat × Option FieldType × Nat × Nat
abbrev mcode (d : Md) : Cond := .code d.1 d.2.1 d.2.2.1 d.2.2.2.1
theorem Tb_all {ws : List Cond} (h : ws.all (fun w => decide (w ∈ lw_tbl) && goodWord w) = true) : ∀ w ∈ ws, w ∈ Tb := fun w hw => by
  have h1 := List.all_eq_true.mp h w hw
  simp only [Bool.and_eq_true, decide_eq_true_eq] at h1
  exact Tb_of h1.1 h1.2
/-- the words of a method called by an object, of a class by its number -/
def WV (d : Md) (n ci : Nat) : Prop := mcode d ∈ Tb ∧ Cond.instanceMethod d.1 ∈ Tb ∧ Cond.selects d.1.cls d.1 d.1 ∈ Tb ∧ Cond.initialized d.1.cls ∈ Tb ∧ d.1.cls ≠ "java/lang/invoke/MethodHandle" ∧ d.1.cls ≠ "java/lang/invoke/VarHandle" ∧ (parseMethodDescriptor d.1.desc).map (fun q => q.parameters.length) = some n ∧ (vwCl[ci]?).map (fun q => q.1) = some d.1.cls
def WS (d : Md) (n : Nat) : Prop := mcode d ∈ Tb ∧ Cond.static d.1 ∈ Tb ∧ Cond.initialized d.1.cls ∈ Tb ∧ d.1.cls ≠ "java/lang/invoke/MethodHandle" ∧ d.1.cls ≠ "java/lang/invoke/VarHandle" ∧ (parseMethodDescriptor d.1.desc).map (fun q => q.parameters.length) = some n
def WI (d : Md) (n : Nat) : Prop := mcode d ∈ Tb ∧ Cond.instanceMethod d.1 ∈ Tb ∧ Cond.initialized d.1.cls ∈ Tb ∧ d.1.name = "<init>" ∧ d.2.2.2.1 = none ∧ d.1.cls ≠ "java/lang/invoke/MethodHandle" ∧ d.1.cls ≠ "java/lang/invoke/VarHandle" ∧ (parseMethodDescriptor d.1.desc).map (fun q => q.parameters.length) = some n
