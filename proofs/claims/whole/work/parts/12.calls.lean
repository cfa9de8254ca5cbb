/-- it returned, with nothing; the heap is as it was -/
def bq_N : Array Value → State → Outcome → State → Prop := fun _ st o t => o = .returned none ∧ t.heap = st.heap
/-- it returned v; the universe is now σ', τ', w' -/
def bq_W (v : Option Value) (g : bxG) (ad : bxA) (σ' τ' : bxS) (w' : bxW) : Array Value → State → Outcome → State → Prop := fun _ st o t => o = .returned v ∧ bx_U g ad σ' τ' w' t.heap ∧ bx_F g st.heap t.heap
def bq_fr (g : bxG) : Addr → Prop := fun q => g.2.2 ≤ q
section BXC
variable {p : Program} {l : Launch} {e : Env} {R : Room} {s : State} {m : MethodId} {args : Array Value} {below : List Frame} {meth : Method} {c : Code} {H : Heap} {locs : List Loc} {cells slots : Nat} {Q : State → Prop}
variable {cc : ByteArray} {pc : Nat} {ls : Array Slot} {rest st0 As : List Value} {g : bxG} {ad : bxA} {σ τ σ' τ' : bxS} {w w' : bxW} {kd : Nat} {k : Int}
variable {y : MethodName} {bytes : ByteArray} {maxL nL mc ms n index : Nat} {ret : Option FieldType} {ws Ts : List Cond} {rm : Room} {own C : String} {fs : List Value} {ci : Nat} {qc : vw_C}
theorem bc_room {st : List Value} (h : (st.map fun v => v.category).sum ≤ 8) : 2 * (F0 m pc ls st0).monitorRoom + (st.map fun v => v.category).sum ≤ 8 := lv_room h
theorem bc_S {r : Value} (S : CallFix p m c cc nL s args Ts own) (hM : Met l y ws rm (va_Pc As (fun U => bx_I g ad σ τ w U)) (k2_QcV r) 0 0 (fun _ => False)) (cw : CallB R s args own index y bytes maxL ret ws rm 0 0 n ∧ (Cond.static y).before args s = true) (hK : bx_K g s) (hU : bx_U g ad σ τ w H)  (hn : As.length = n) (hsize : ls.size = nL) (hstack : st0 = As.reverse ++ rest) (hW : (rest.map fun v => v.category).sum ≤ 8) (hdg : decode cc pc = .ok (.invokestatic index, 3)) (hf : cells + 0 ≤ R.cells ∧ slots + 0 ≤ R.slots)
    (kk : W p l e R s m args below meth c H locs cells slots Q (F0 m (pc + 3) ls (r :: rest))) : W p l e R s m args below meth c H locs cells slots Q (F0 m pc ls st0) :=
  W.callV (W.runS S hM cw ⟨bx_blind, fun U hU1 hW1 => ⟨rfl, by rw [hU1]; exact hU, hK.moved hW1.alike⟩⟩ rfl hn hsize hstack (lv_room hW) hdg hf) kk
theorem bc_SB {P : Prop} (S : CallFix p m c cc nL s args Ts own) (hM : Met l y ws rm (va_Pc As (fun U => bx_I g ad σ τ w U)) (k2_QcV (.int (iI (zB P)))) 0 0 (fun _ => False)) (cw : CallB R s args own index y bytes maxL ret ws rm 0 0 n ∧ (Cond.static y).before args s = true) (hK : bx_K g s) (hU : bx_U g ad σ τ w H)  (hn : As.length = n) (hsize : ls.size = nL) (hstack : st0 = As.reverse ++ rest) (hW : (rest.map fun v => v.category).sum ≤ 8) (hdg : decode cc pc = .ok (.invokestatic index, 3)) (hf : cells + 0 ≤ R.cells ∧ slots + 0 ≤ R.slots)
    (kt : P → W p l e R s m args below meth c H locs cells slots Q (F0 m (pc + 3) ls (.int (iI 1) :: rest))) (kf : ¬ P → W p l e R s m args below meth c H locs cells slots Q (F0 m (pc + 3) ls (.int (iI 0) :: rest))) : W p l e R s m args below meth c H locs cells slots Q (F0 m pc ls st0) := by
  refine W.callV (W.runS S hM cw ⟨bx_blind, fun U hU1 hW1 => ⟨rfl, by rw [hU1]; exact hU, hK.moved hW1.alike⟩⟩ rfl hn hsize hstack (lv_room hW) hdg hf) ?_
  by_cases hq : P
  · rw [zB_t hq]; exact kt hq
  · rw [zB_f hq]; exact kf hq
theorem bc_SN (S : CallFix p m c cc nL s args Ts own) (hM : Met l y ws rm (va_Pc As (fun U => bx_I g ad σ τ w U)) bq_N 0 0 (fun _ => False)) (cw : CallB R s args own index y bytes maxL ret ws rm 0 0 n ∧ (Cond.static y).before args s = true) (hK : bx_K g s) (hU : bx_U g ad σ τ w H)  (hn : As.length = n) (hsize : ls.size = nL) (hstack : st0 = As.reverse ++ rest) (hW : (rest.map fun v => v.category).sum ≤ 8) (hdg : decode cc pc = .ok (.invokestatic index, 3)) (hf : cells + 0 ≤ R.cells ∧ slots + 0 ≤ R.slots)
    (kk : W p l e R s m args below meth c H locs cells slots Q (F0 m (pc + 3) ls rest)) : W p l e R s m args below meth c H locs cells slots Q (F0 m pc ls st0) := by
  have hr := W.runS S hM cw ⟨bx_blind, fun U hU1 hW1 => ⟨rfl, by rw [hU1]; exact hU, hK.moved hW1.alike⟩⟩ (g := F0 m pc ls st0) (H := H) (p := p) (e := e) (below := below) (meth := meth) (locs := locs) (cells := cells) (slots := slots) (rest := rest) rfl hn hsize hstack (lv_room hW) hdg hf
  intro T hT X
  obtain ⟨v, st₀, t, T', L, h0, X', hL, e1, ⟨hv, hh⟩, st⟩ := hr T hT X
  cases hv
  have hL0 : L = [] := List.eq_nil_iff_forall_not_mem.mpr (fun q hq => hL q hq)
  subst hL0
  rw [List.append_nil] at X'
  obtain ⟨t2, a1, b1⟩ := kk T' (by rw [e1, hh, h0]) X'
  exact ⟨t2, st t2 a1, b1⟩
theorem bc_V {r : Value} (S : CallFix p m c cc nL s args Ts own) (hM : Met l y ws rm (va_Pc (.ref (ad kd k) :: As) (fun U => bx_I g ad σ τ w U)) (k2_QcV r) 0 0 (fun _ => False)) (cw : CallW R s args own qc.1 index y bytes maxL ret ws rm 0 0 n) (hK : bx_K g s) (hU : bx_U g ad σ τ w H) (hl : bx_L σ kd k) (he : bx_E g ad σ τ w kd k = .inr (ci, fs)) (hc : vwCl[ci]? = some qc) (hn : As.length = n) (hsize : ls.size = nL) (hstack : st0 = As.reverse ++ .ref (ad kd k) :: rest) (hW : (rest.map fun v => v.category).sum ≤ 8) (hdg : decode cc pc = .ok (.invokevirtual index, 3)) (hf : cells + 0 ≤ R.cells ∧ slots + 0 ≤ R.slots)
    (kk : W p l e R s m args below meth c H locs cells slots Q (F0 m (pc + 3) ls (r :: rest))) : W p l e R s m args below meth c H locs cells slots Q (F0 m pc ls st0) :=
  W.callV (W.runV S hM cw ⟨bx_blind, va_recv hK (bx_P hU hl he) hc (q0 := 0) rfl, fun U hU1 hW1 => ⟨rfl, by rw [hU1]; exact hU, hK.moved hW1.alike⟩⟩ rfl hn hsize hstack (lv_room hW) hdg hf) kk
theorem bc_VB {P : Prop} (S : CallFix p m c cc nL s args Ts own) (hM : Met l y ws rm (va_Pc (.ref (ad kd k) :: As) (fun U => bx_I g ad σ τ w U)) (k2_QcV (.int (iI (zB P)))) 0 0 (fun _ => False)) (cw : CallW R s args own qc.1 index y bytes maxL ret ws rm 0 0 n) (hK : bx_K g s) (hU : bx_U g ad σ τ w H) (hl : bx_L σ kd k) (he : bx_E g ad σ τ w kd k = .inr (ci, fs)) (hc : vwCl[ci]? = some qc) (hn : As.length = n) (hsize : ls.size = nL) (hstack : st0 = As.reverse ++ .ref (ad kd k) :: rest) (hW : (rest.map fun v => v.category).sum ≤ 8) (hdg : decode cc pc = .ok (.invokevirtual index, 3)) (hf : cells + 0 ≤ R.cells ∧ slots + 0 ≤ R.slots)
    (kt : P → W p l e R s m args below meth c H locs cells slots Q (F0 m (pc + 3) ls (.int (iI 1) :: rest))) (kf : ¬ P → W p l e R s m args below meth c H locs cells slots Q (F0 m (pc + 3) ls (.int (iI 0) :: rest))) : W p l e R s m args below meth c H locs cells slots Q (F0 m pc ls st0) := by
  refine W.callV (W.runV S hM cw ⟨bx_blind, va_recv hK (bx_P hU hl he) hc (q0 := 0) rfl, fun U hU1 hW1 => ⟨rfl, by rw [hU1]; exact hU, hK.moved hW1.alike⟩⟩ rfl hn hsize hstack (lv_room hW) hdg hf) ?_
  by_cases hq : P
  · rw [zB_t hq]; exact kt hq
  · rw [zB_f hq]; exact kf hq
theorem bc_VN (S : CallFix p m c cc nL s args Ts own) (hM : Met l y ws rm (va_Pc (.ref (ad kd k) :: As) (fun U => bx_I g ad σ τ w U)) bq_N 0 0 (fun _ => False)) (cw : CallW R s args own qc.1 index y bytes maxL ret ws rm 0 0 n) (hK : bx_K g s) (hU : bx_U g ad σ τ w H) (hl : bx_L σ kd k) (he : bx_E g ad σ τ w kd k = .inr (ci, fs)) (hc : vwCl[ci]? = some qc) (hn : As.length = n) (hsize : ls.size = nL) (hstack : st0 = As.reverse ++ .ref (ad kd k) :: rest) (hW : (rest.map fun v => v.category).sum ≤ 8) (hdg : decode cc pc = .ok (.invokevirtual index, 3)) (hf : cells + 0 ≤ R.cells ∧ slots + 0 ≤ R.slots)
    (kk : W p l e R s m args below meth c H locs cells slots Q (F0 m (pc + 3) ls rest)) : W p l e R s m args below meth c H locs cells slots Q (F0 m pc ls st0) := by
  have hr := W.runV S hM cw ⟨bx_blind, va_recv hK (bx_P hU hl he) hc (q0 := 0) rfl, fun U hU1 hW1 => ⟨rfl, by rw [hU1]; exact hU, hK.moved hW1.alike⟩⟩ (g := F0 m pc ls st0) (H := H) (p := p) (e := e) (below := below) (meth := meth) (locs := locs) (cells := cells) (slots := slots) (rest := rest) rfl hn hsize hstack (lv_room hW) hdg hf
  intro T hT X
  obtain ⟨v, st₀, t, T', L, h0, X', hL, e1, ⟨hv, hh⟩, st⟩ := hr T hT X
  cases hv
  have hL0 : L = [] := List.eq_nil_iff_forall_not_mem.mpr (fun q hq => hL q hq)
  subst hL0
  rw [List.append_nil] at X'
  obtain ⟨t2, a1, b1⟩ := kk T' (by rw [e1, hh, h0]) X'
  exact ⟨t2, st t2 a1, b1⟩
theorem bc_SW {v : Option Value} (S : CallFix p m c cc nL s args Ts own) (hM : Met l y ws rm (va_Pc As (fun U => bx_I g ad σ τ w U)) (bq_W v g ad σ' τ' w') mc ms (bq_fr g)) (cw : CallB R s args own index y bytes maxL ret ws rm mc ms n ∧ (Cond.static y).before args s = true) (hK : bx_K g s) (hU : bx_U g ad σ τ w H) (hlc : bx_Lc g locs)  (hn : As.length = n) (hsize : ls.size = nL) (hstack : st0 = As.reverse ++ rest) (hW : (rest.map fun v => v.category).sum ≤ 8) (hdg : decode cc pc = .ok (.invokestatic index, 3)) (hf : cells + mc ≤ R.cells ∧ slots + ms ≤ R.slots)
    (kk : ∀ (H1 : Heap) (locs1 : List Loc), bx_U g ad σ' τ' w' H1 → bx_F g H H1 → bx_Lc g locs1 → W p l e R s m args below meth c H1 locs1 (cells + mc) (slots + ms) Q (F0 m (pc + 3) ls (v.toList ++ rest))) : W p l e R s m args below meth c H locs cells slots Q (F0 m pc ls st0) := by
  have hr := va_runS S hM cw ⟨bx_blind, fun U hU1 hW1 => ⟨rfl, by rw [hU1]; exact hU, hK.moved hW1.alike⟩⟩ (g := F0 m pc ls st0) (H := H) (p := p) (e := e) (below := below) (meth := meth) (locs := locs) (cells := cells) (slots := slots) (rest := rest) rfl hn hsize hstack (lv_room hW) hdg hf
  intro T hT X
  obtain ⟨v2, st₀, t, T', L, h0, X', hL, e1, e2, ⟨hv, hu, hF⟩, st⟩ := hr T hT X
  cases hv
  rw [h0] at hF
  rw [← e1] at hu hF
  obtain ⟨t2, a1, b1⟩ := kk T'.heap (locs ++ L) hu hF (hlc.app (fun q hq => hL q hq)) T' rfl X'
  exact ⟨t2, st t2 a1, b1⟩
theorem bc_VW {v : Option Value} (S : CallFix p m c cc nL s args Ts own) (hM : Met l y ws rm (va_Pc (.ref (ad kd k) :: As) (fun U => bx_I g ad σ τ w U)) (bq_W v g ad σ' τ' w') mc ms (bq_fr g)) (cw : CallW R s args own qc.1 index y bytes maxL ret ws rm mc ms n) (hK : bx_K g s) (hU : bx_U g ad σ τ w H) (hlc : bx_Lc g locs) (hl : bx_L σ kd k) (he : bx_E g ad σ τ w kd k = .inr (ci, fs)) (hc : vwCl[ci]? = some qc) (hn : As.length = n) (hsize : ls.size = nL) (hstack : st0 = As.reverse ++ .ref (ad kd k) :: rest) (hW : (rest.map fun v => v.category).sum ≤ 8) (hdg : decode cc pc = .ok (.invokevirtual index, 3)) (hf : cells + mc ≤ R.cells ∧ slots + ms ≤ R.slots)
    (kk : ∀ (H1 : Heap) (locs1 : List Loc), bx_U g ad σ' τ' w' H1 → bx_F g H H1 → bx_Lc g locs1 → W p l e R s m args below meth c H1 locs1 (cells + mc) (slots + ms) Q (F0 m (pc + 3) ls (v.toList ++ rest))) : W p l e R s m args below meth c H locs cells slots Q (F0 m pc ls st0) := by
  have hr := va_runV S hM cw ⟨bx_blind, va_recv hK (bx_P hU hl he) hc (q0 := 0) rfl, fun U hU1 hW1 => ⟨rfl, by rw [hU1]; exact hU, hK.moved hW1.alike⟩⟩ (g := F0 m pc ls st0) (H := H) (p := p) (e := e) (below := below) (meth := meth) (locs := locs) (cells := cells) (slots := slots) (rest := rest) rfl hn hsize hstack (lv_room hW) hdg hf
  intro T hT X
  obtain ⟨v2, st₀, t, T', L, h0, X', hL, e1, e2, ⟨hv, hu, hF⟩, st⟩ := hr T hT X
  cases hv
  rw [h0] at hF
  rw [← e1] at hu hF
  obtain ⟨t2, a1, b1⟩ := kk T'.heap (locs ++ L) hu hF (hlc.app (fun q hq => hL q hq)) T' rfl X'
  exact ⟨t2, st t2 a1, b1⟩
theorem li_mmax (hx : p.tables.exec = Jvm.exec) (hb : c.code = cc) (hml : c.maxLocals = ls.size) {own : String} {index : Nat} (hown : s.vm.findClass own = some m.cls) (hlink : (Cond.methodLink own index Lib.Math.max.name).before args s = true) (hstat : (Cond.static Lib.Math.max.name).before args s = true) (hini : (Cond.initialized "java/lang/Math").before args s = true) (hcode : (Cond.code Lib.Math.max.name Lib.Math.max.code 2 (some .int)).before args s = true) (hframes : 1 ≤ R.frames) (hlocals : (rest.map fun v => v.category).sum + 13 ≤ R.locals) (hc : cells ≤ R.cells) (hs : slots ≤ R.slots) {a b : Int} (ha : iR a) (hb2 : iR b) (hdg : decode cc pc = .ok (.invokestatic index, 3))
    (kk : W p l e R s m args below meth c H locs cells slots Q (F0 m (pc + 3) ls (.int (iI (max a b)) :: rest))) : W p l e R s m args below meth c H locs cells slots Q (F0 m pc ls (.int (iI b) :: .int (iI a) :: rest)) := by
  refine va_mmax hx hb hml hown hlink hstat hini hcode hframes hlocals hc hs hdg ?_
  have h : (if iI a < iI b then iI b else iI a) = iI (max a b) := by
    by_cases h : a < b
    · rw [if_pos ((iI_lt ha hb2).mpr h)]; congr 1; omega
    · rw [if_neg (fun q => h ((iI_lt ha hb2).mp q))]; congr 1; omega
  rw [h]
  exact kk
theorem li_mmin (hx : p.tables.exec = Jvm.exec) (hb : c.code = cc) (hml : c.maxLocals = ls.size) {own : String} {index : Nat} (hown : s.vm.findClass own = some m.cls) (hlink : (Cond.methodLink own index Lib.Math.min.name).before args s = true) (hstat : (Cond.static Lib.Math.min.name).before args s = true) (hini : (Cond.initialized "java/lang/Math").before args s = true) (hcode : (Cond.code Lib.Math.min.name Lib.Math.min.code 2 (some .int)).before args s = true) (hframes : 1 ≤ R.frames) (hlocals : (rest.map fun v => v.category).sum + 13 ≤ R.locals) (hc : cells ≤ R.cells) (hs : slots ≤ R.slots) {a b : Int} (ha : iR a) (hb2 : iR b) (hdg : decode cc pc = .ok (.invokestatic index, 3))
    (kk : W p l e R s m args below meth c H locs cells slots Q (F0 m (pc + 3) ls (.int (iI (min a b)) :: rest))) : W p l e R s m args below meth c H locs cells slots Q (F0 m pc ls (.int (iI b) :: .int (iI a) :: rest)) := by
  refine va_mmin hx hb hml hown hlink hstat hini hcode hframes hlocals hc hs hdg ?_
  have h : (if iI b < iI a then iI b else iI a) = iI (min a b) := by
    by_cases h : b < a
    · rw [if_pos ((iI_lt hb2 ha).mpr h)]; congr 1; omega
    · rw [if_neg (fun q => h ((iI_lt hb2 ha).mp q))]; congr 1; omega
  rw [h]
  exact kk
theorem W.cut {g2 g3 : JFrame} (k : W p l e R s m args below meth c H locs cells slots Q g2) (h : W p l e R s m args below meth c H locs cells slots Q g2 → W p l e R s m args below meth c H locs cells slots Q g3) : W p l e R s m args below meth c H locs cells slots Q g3 := h k
/-! loops: the state v, its locals I v, its invariant, a measure that falls -/
theorem bl_loop {V : Type} {nL head : Nat} {st9 : List Value} (I : V → List (Nat × Value)) (Inv : V → Prop) (μ : V → Int)
    (step : ∀ v, Inv v → (∀ v', Inv v' → 0 ≤ μ v' → μ v' < μ v → ∀ ls : Array Slot, lv_has ls nL (I v') → W p l e R s m args below meth c H locs cells slots Q (F0 m head ls st9)) → ∀ ls : Array Slot, lv_has ls nL (I v) → W p l e R s m args below meth c H locs cells slots Q (F0 m head ls st9)) :
    ∀ v, Inv v → ∀ ls : Array Slot, lv_has ls nL (I v) → W p l e R s m args below meth c H locs cells slots Q (F0 m head ls st9) := by
  have key : ∀ (n : Nat) (v : V), (μ v).toNat ≤ n → Inv v → ∀ ls : Array Slot, lv_has ls nL (I v) → W p l e R s m args below meth c H locs cells slots Q (F0 m head ls st9) := by
    intro n
    induction n with
    | zero => exact fun v hn hI => step v hI (fun v' _ h0 h1 => by omega)
    | succ n ih => exact fun v hn hI => step v hI (fun v' hI' h0 h1 => ih v' (by omega) hI')
  exact fun v => key _ v (Nat.le_refl _)
theorem bl_loopW {V : Type} {nL head : Nat} {st9 : List Value} {H0 : Heap} (S T : V → bxS) (I : V → List (Nat × Value)) (Inv : V → Prop) (μ : V → Int)
    (step : ∀ v H locs, Inv v → bx_U g ad (S v) (T v) w H → bx_F g H0 H → bx_Lc g locs → (∀ v' H' locs', Inv v' → bx_U g ad (S v') (T v') w H' → bx_F g H0 H' → bx_Lc g locs' → 0 ≤ μ v' → μ v' < μ v → ∀ ls : Array Slot, lv_has ls nL (I v') → W p l e R s m args below meth c H' locs' cells slots Q (F0 m head ls st9)) → ∀ ls : Array Slot, lv_has ls nL (I v) → W p l e R s m args below meth c H locs cells slots Q (F0 m head ls st9)) :
    ∀ v H locs, Inv v → bx_U g ad (S v) (T v) w H → bx_F g H0 H → bx_Lc g locs → ∀ ls : Array Slot, lv_has ls nL (I v) → W p l e R s m args below meth c H locs cells slots Q (F0 m head ls st9) := by
  have key : ∀ (n : Nat) (v : V) (H : Heap) (locs : List Loc), (μ v).toNat ≤ n → Inv v → bx_U g ad (S v) (T v) w H → bx_F g H0 H → bx_Lc g locs → ∀ ls : Array Slot, lv_has ls nL (I v) → W p l e R s m args below meth c H locs cells slots Q (F0 m head ls st9) := by
    intro n
    induction n with
    | zero => exact fun v H locs hn hI hU hF hlc => step v H locs hI hU hF hlc (fun v' _ _ _ _ _ _ h0 h1 => by omega)
    | succ n ih => exact fun v H locs hn hI hU hF hlc => step v H locs hI hU hF hlc (fun v' H' locs' hI' hU' hF' hlc' h0 h1 => ih v' H' locs' (by omega) hI' hU' hF' hlc')
  exact fun v H locs => key _ v H locs (Nat.le_refl _)
/-! ends -/
theorem be_i (hx : p.tables.exec = Jvm.exec) (hb : c.code = cc) (hr : meth.sig.returnType = some .int) (hlocks : meth.locks = false) {z z' : Int} (hz : z = z') (hdg : decode cc pc = .ok (.ireturn, 1)) : W p l e R s m args below meth c s.heap [] 0 0 (MQ below (k2_QcV (.int (iI z'))) args s 0 0 (fun _ => False)) (F0 m pc ls [.int (iI z)]) :=
  W.iret hx hb hr (fun t ht _ => ⟨by rw [hz], ht⟩) (fun q h => by cases h) hdg hlocks
theorem be_t (hx : p.tables.exec = Jvm.exec) (hb : c.code = cc) (hr : meth.sig.returnType = some .boolean) (hlocks : meth.locks = false) {P : Prop} (hP : P) (hdg : decode cc pc = .ok (.ireturn, 1)) : W p l e R s m args below meth c s.heap [] 0 0 (MQ below (k2_QcV (.int (iI (zB P)))) args s 0 0 (fun _ => False)) (F0 m pc ls [.int (iI 1)]) :=
  W.zret hx hb hr rfl (fun t ht _ => ⟨by rw [zB_t hP], ht⟩) (fun q h => by cases h) hdg hlocks
theorem be_f (hx : p.tables.exec = Jvm.exec) (hb : c.code = cc) (hr : meth.sig.returnType = some .boolean) (hlocks : meth.locks = false) {P : Prop} (hP : ¬ P) (hdg : decode cc pc = .ok (.ireturn, 1)) : W p l e R s m args below meth c s.heap [] 0 0 (MQ below (k2_QcV (.int (iI (zB P)))) args s 0 0 (fun _ => False)) (F0 m pc ls [.int (iI 0)]) :=
  W.zret hx hb hr rfl (fun t ht _ => ⟨by rw [zB_f hP], ht⟩) (fun q h => by cases h) hdg hlocks
theorem be_zz (hx : p.tables.exec = Jvm.exec) (hb : c.code = cc) (hr : meth.sig.returnType = some .boolean) (hlocks : meth.locks = false) {P : Prop} {z : Int} (hP : (z = 0 ∧ ¬ P) ∨ (z = 1 ∧ P)) (hdg : decode cc pc = .ok (.ireturn, 1)) : W p l e R s m args below meth c s.heap [] 0 0 (MQ below (k2_QcV (.int (iI (zB P)))) args s 0 0 (fun _ => False)) (F0 m pc ls [.int (iI z)]) := by
  rcases hP with ⟨rfl, h⟩ | ⟨rfl, h⟩
  · exact be_f hx hb hr hlocks h hdg
  · exact be_t hx hb hr hlocks h hdg
theorem be_n (hx : p.tables.exec = Jvm.exec) (hb : c.code = cc) (hr : meth.sig.returnType = none) (hlocks : meth.locks = false) (hdg : decode cc pc = .ok (.return_, 1)) : W p l e R s m args below meth c s.heap [] 0 0 (MQ below bq_N args s 0 0 (fun _ => False)) (F0 m pc ls []) :=
  W.vret hx hb hr (fun t ht _ => ⟨rfl, ht⟩) (fun q h => by cases h) hdg hlocks
theorem be_l (hx : p.tables.exec = Jvm.exec) (hb : c.code = cc) (hr : meth.sig.returnType = some .long) (hlocks : meth.locks = false) {z z' : Int64} (hz : z = z') (hdg : decode cc pc = .ok (.lreturn, 1)) : W p l e R s m args below meth c s.heap [] 0 0 (MQ below (k2_QcV (.long z')) args s 0 0 (fun _ => False)) (F0 m pc ls [.long z]) :=
  W.lret hx hb hr (fun t ht _ => ⟨by rw [hz], ht⟩) (fun q h => by cases h) hdg hlocks
theorem bw_i (hx : p.tables.exec = Jvm.exec) (hb : c.code = cc) (hr : meth.sig.returnType = some .int) (hlocks : meth.locks = false) (hU : bx_U g ad σ' τ' w' H) (hF : bx_F g s.heap H) (hlc : bx_Lc g locs) {z z' : Int} (hz : z = z') (hdg : decode cc pc = .ok (.ireturn, 1)) : W p l e R s m args below meth c H locs cells slots (MQ below (bq_W (some (.int (iI z'))) g ad σ' τ' w') args s cells slots (bq_fr g)) (F0 m pc ls [.int (iI z)]) :=
  W.iret hx hb hr (fun t ht _ => ⟨by rw [hz], by rw [ht]; exact hU, by rw [ht]; exact hF⟩) hlc hdg hlocks
theorem bw_z (hx : p.tables.exec = Jvm.exec) (hb : c.code = cc) (hr : meth.sig.returnType = some .boolean) (hlocks : meth.locks = false) (hU : bx_U g ad σ' τ' w' H) (hF : bx_F g s.heap H) (hlc : bx_Lc g locs) {z z' : Int} (h01 : z = 0 ∨ z = 1) (hz : z = z') (hdg : decode cc pc = .ok (.ireturn, 1)) : W p l e R s m args below meth c H locs cells slots (MQ below (bq_W (some (.int (iI z'))) g ad σ' τ' w') args s cells slots (bq_fr g)) (F0 m pc ls [.int (iI z)]) :=
  W.zret hx hb hr (by rcases h01 with rfl | rfl <;> rfl) (fun t ht _ => ⟨by rw [hz], by rw [ht]; exact hU, by rw [ht]; exact hF⟩) hlc hdg hlocks
theorem bw_n (hx : p.tables.exec = Jvm.exec) (hb : c.code = cc) (hr : meth.sig.returnType = none) (hlocks : meth.locks = false) (hU : bx_U g ad σ' τ' w' H) (hF : bx_F g s.heap H) (hlc : bx_Lc g locs) (hdg : decode cc pc = .ok (.return_, 1)) : W p l e R s m args below meth c H locs cells slots (MQ below (bq_W none g ad σ' τ' w') args s cells slots (bq_fr g)) (F0 m pc ls []) :=
  W.vret hx hb hr (fun t ht _ => ⟨rfl, by rw [ht]; exact hU, by rw [ht]; exact hF⟩) hlc hdg hlocks
theorem bw_l (hx : p.tables.exec = Jvm.exec) (hb : c.code = cc) (hr : meth.sig.returnType = some .long) (hlocks : meth.locks = false) (hU : bx_U g ad σ' τ' w' H) (hF : bx_F g s.heap H) (hlc : bx_Lc g locs) {z z' : Int64} (hz : z = z') (hdg : decode cc pc = .ok (.lreturn, 1)) : W p l e R s m args below meth c H locs cells slots (MQ below (bq_W (some (.long z')) g ad σ' τ' w') args s cells slots (bq_fr g)) (F0 m pc ls [.long z]) :=
  W.lret hx hb hr (fun t ht _ => ⟨by rw [hz], by rw [ht]; exact hU, by rw [ht]; exact hF⟩) hlc hdg hlocks
end BXC
