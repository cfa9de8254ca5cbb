/-! what is thrown: the tables' words and the constants that a throw needs, and contracts of calls that throw -/
def bt_iae : String := "java/lang/IllegalArgumentException"
def bt_ise : String := "java/lang/IllegalStateException"
def bt_nm : List String := ["java/lang/RuntimeException", "java/lang/Exception"]
def bt_N : List Cond := [.castable "java/lang/IllegalArgumentException" "java/lang/IllegalArgumentException", .castable "java/lang/IllegalStateException" "java/lang/IllegalStateException", .declares ⟨"java/lang/RuntimeException", "<init>", "(Ljava/lang/String;)V"⟩, .declares ⟨"java/lang/Exception", "<init>", "(Ljava/lang/String;)V"⟩, .declares ⟨"java/lang/Throwable", "<init>", "(Ljava/lang/String;)V"⟩]
theorem bt_in1 : ∀ w ∈ (vx_atS RX1 142 "java/lang/IllegalArgumentException" ["java/lang/RuntimeException", "java/lang/Exception"]).filter (fun w => !goodWord w), w ∈ bt_N := by decide +kernel
theorem bt_in2 : ∀ w ∈ (vx_atS RX1 149 "java/lang/IllegalStateException" ["java/lang/RuntimeException", "java/lang/Exception"]).filter (fun w => !goodWord w), w ∈ bt_N := by decide +kernel
theorem bt_ot : ∀ w ∈ bt_N, w.onTables = true := by decide +kernel
theorem bt_gd1 : ∀ w ∈ Cond.classLink RX1 138 "java/lang/IllegalArgumentException" :: Cond.initialized "java/lang/IllegalArgumentException" :: vx_atS RX1 142 "java/lang/IllegalArgumentException" ["java/lang/RuntimeException", "java/lang/Exception"], vx_ot w = true := by decide +kernel
theorem bt_gd2 : ∀ w ∈ Cond.classLink RX1 145 "java/lang/IllegalStateException" :: Cond.initialized "java/lang/IllegalStateException" :: vx_atS RX1 149 "java/lang/IllegalStateException" ["java/lang/RuntimeException", "java/lang/Exception"], vx_ot w = true := by decide +kernel
def bt_K (g : bxG) (sa : Nat → Nat) (U : State) (H : Heap) : Prop :=
  (∀ w ∈ bt_N, w.before #[] U = true) ∧ vx_Zq Bundle.tN "UNASSIGNED_STACK" Bundle.steD (bq_fr g) U H ∧ vx_Zq Bundle.tN "SUPPRESSED_SENTINEL" Bundle.listD (bq_fr g) U H ∧ vk_R RX1 140 "a number is out of its bounds, or no such part" (sa 0) U ∧ vk_R RX1 150 "no such part" (sa 1) U ∧ vk_R RX1 147 "there were 60 parts" (sa 2) U
theorem bt_word {c : Cond} (hc : c.onTables = true) {u U : State} (h : c.before #[] (u.setVm U.vm) = true) : c.before #[] U = true := by
  have e := Cond.onTables_vm (A := #[]) (A' := #[]) (U := u) (U' := U) U.vm c hc
  have hU : U.setVm U.vm = U := rfl
  rw [hU] at e
  rw [← e]
  exact h
theorem bt_K.warm {g : bxG} {sa : Nat → Nat} {s U : State} {H : Heap} (hW : s.WarmedH U.vm) (h : bt_K g sa s H) : bt_K g sa U H := by
  obtain ⟨h1, h2, h3, h4, h5, h6⟩ := h
  refine ⟨fun w hw => ?_, vx_Zq.moved hW.alike h2, vx_Zq.moved hW.alike h3, vk_R.warm hW h4, vk_R.warm hW h5, vk_R.warm hW h6⟩
  refine bt_word (u := s) (bt_ot w hw) ?_
  have hb := h1 w hw
  simp only [bt_N, List.mem_cons, List.not_mem_nil, or_false] at hw
  rcases hw with rfl | rfl | rfl | rfl | rfl
  · rw [Cond.castable_setVm hW.alike]; exact hb
  · rw [Cond.castable_setVm hW.alike]; exact hb
  · rw [Cond.declares_setVm hW.alike]; exact hb
  · rw [Cond.declares_setVm hW.alike]; exact hb
  · rw [Cond.declares_setVm hW.alike]; exact hb
theorem bt_K.kept {g : bxG} {sa : Nat → Nat} {U : State} {H H1 : Heap} (h : bt_K g sa U H) (hF : bx_F g H H1) : bt_K g sa U H1 :=
  ⟨h.1, h.2.1.kept (fun a _ hn => hF.2 a (Nat.not_le.mp hn)), h.2.2.1.kept (fun a _ hn => hF.2 a (Nat.not_le.mp hn)), h.2.2.2⟩
theorem bt_K.args {g : bxG} {sa : Nat → Nat} {U : State} {H : Heap} {args : Array Value} (h : bt_K g sa U H) : ∀ w ∈ bt_N, w.before args U = true := fun w hw => va_tabs (bt_ot w hw) rfl (h.1 w hw)
def bt_I (g : bxG) (ad : bxA) (σ τ : bxS) (w : bxW) (sa : Nat → Nat) (U : State) : Prop := bx_I g ad σ τ w U ∧ bt_K g sa U U.heap
theorem bt_calling {g : bxG} {sa : Nat → Nat} {U : State} {fr : JFrame} {mk : MethodId} {a : Array Value} (h : bt_K g sa U U.heap) : bt_K g sa (U.calling fr mk a) (U.calling fr mk a).heap := by
  have hW : U.WarmedH (U.calling fr mk a).vm := State.WarmedH.refl U
  exact bt_K.warm hW h
theorem bt_blind {g : bxG} {ad : bxA} {σ τ : bxS} {w : bxW} {sa : Nat → Nat} {As : List Value} : FrameBlind (va_Pc As (fun U => bt_I g ad σ τ w sa U)) := fun a U fr mk q => ⟨q.1, ⟨q.2.1.1, va_K.moved (u := U) (U := U.calling fr mk a) (Vm.Alike.refl U.vm) q.2.1.2⟩, bt_calling q.2.2⟩
/-- it threw an E with 'bad E'; the universe is as it was -/
def bq_X (g : bxG) (ad : bxA) (σ τ : bxS) (w : bxW) (bad : String → Prop) : String → State → State → Prop := fun E st t => bad E ∧ bx_U g ad σ τ w t.heap ∧ bx_F g st.heap t.heap
def bq_no : Array Value → State → Outcome → State → Prop := fun _ _ _ _ => False
theorem bx_U.grow {g : bxG} {ad : bxA} {σ τ : bxS} {w : bxW} {H H1 : Heap} (h : bx_U g ad σ τ w H) (hq : ∀ q : Nat, q < H.size → H1[q]? = H[q]?) : bx_U g ad σ τ w H1 :=
  ⟨fun kd k hl => (h.1 kd k hl).kept (hq _ (h.1 kd k hl).lt), h.2⟩
section BT
variable {p : Program} {l : Launch} {e : Env} {R : Room} {s : State} {m : MethodId} {args : Array Value} {below : List Frame} {meth : Method} {c : Code} {H : Heap} {locs : List Loc} {cells slots : Nat} {Q : State → Prop}
variable {cc : ByteArray} {pc : Nat} {ls : Array Slot} {rest st0 As : List Value} {g : bxG} {ad : bxA} {σ τ σ' τ' : bxS} {w w' : bxW} {kd : Nat} {k : Int} {sa : Nat → Nat}
variable {y : MethodName} {bytes : ByteArray} {maxL nL mc ms mc' ms' n index : Nat} {ret : Option FieldType} {ws Ts : List Cond} {rm : Room} {own C : String} {fs : List Value} {ci : Nat} {qc : vw_C} {bad : String → Prop} {Qc : Array Value → State → Outcome → State → Prop}
/-- a callee that throws, and nothing here catches it -/
theorem bt_out (hr : vx_Run p l e R s m args below meth c H locs cells slots mc ms (F0 m pc ls st0) rest (bq_no As.toArray) (bq_X g ad σ τ w bad) (bq_fr g)) (hF : bx_F g s.heap H) (hlc : bx_Lc g locs) (hout : ∀ x ∈ c.exceptionTable.toList, False) (hlocks : meth.locks = false) (hc : cells + mc ≤ mc') (hs : slots + ms ≤ ms') :
    W p l e R s m args below meth c H locs cells slots (vx_MQ below Qc (bq_X g ad σ τ w bad) args s mc' ms' (bq_fr g)) (F0 m pc ls st0) := by
  intro T hT X
  rcases hr T hT X with ⟨v, st₀, t, T', L, h0, X', hL, e1, e2, hno, st⟩ | ⟨q, st₀, t, T', L, E, ce, h0, X', hL, e1, e2, ⟨hb, hu, hf⟩, hce, hcv, hcl, st⟩
  · exact hno.elim
  · rw [h0] at hf
    obtain ⟨t2, a1, b1⟩ := vx_out (E := E) (ce := ce) (q := q) (H := T'.heap) (locs := locs ++ L) (pc := pc) (ls := ls) (rest := rest) (Qc := Qc) (XC := bq_X g ad σ τ w bad) (free := bq_fr g) (mc := mc') (ms := ms') (fun x hx => (hout x hx).elim) hlocks (by rw [e1]; exact hce) hcv hcl
      (fun t9 ht9 _ => ⟨hb, by rw [ht9, e1]; exact hu, by rw [ht9, e1]; exact hF.tr hf⟩) (hlc.app (fun z hz => hL z hz)) hc hs T' rfl X'
    exact ⟨t2, st.trans a1, b1⟩
theorem bt_S (S : CallFix p m c cc nL s args Ts own) (hM : vx_Met l y ws rm (va_Pc As (fun U => bt_I g ad σ τ w sa U)) bq_no (bq_X g ad σ τ w bad) mc ms (bq_fr g)) (cw : CallB R s args own index y bytes maxL ret ws rm mc ms n ∧ (Cond.static y).before args s = true) (hK : bx_K g s) (hU : bx_U g ad σ τ w H) (hT : bt_K g sa s s.heap) (hF : bx_F g s.heap H) (hlc : bx_Lc g locs)
    (hn : As.length = n) (hsize : ls.size = nL) (hstack : st0 = As.reverse ++ rest) (hW : (rest.map fun v => v.category).sum ≤ 8) (hdg : decode cc pc = .ok (.invokestatic index, 3)) (hf : cells + mc ≤ R.cells ∧ slots + ms ≤ R.slots) (hout : ∀ x ∈ c.exceptionTable.toList, False) (hlocks : meth.locks = false) (hc : cells + mc ≤ mc') (hs : slots + ms ≤ ms') :
    W p l e R s m args below meth c H locs cells slots (vx_MQ below Qc (bq_X g ad σ τ w bad) args s mc' ms' (bq_fr g)) (F0 m pc ls st0) :=
  bt_out (As := As) (vx_runS S hM cw ⟨bt_blind, fun U hU1 hW1 => ⟨rfl, ⟨by rw [hU1]; exact hU, hK.moved hW1.alike⟩, by rw [hU1]; exact (hT.kept hF).warm hW1⟩⟩ rfl hn hsize hstack (lv_room hW) hdg hf) hF hlc hout hlocks hc hs
theorem bt_V (S : CallFix p m c cc nL s args Ts own) (hM : vx_Met l y ws rm (va_Pc (.ref (ad kd k) :: As) (fun U => bt_I g ad σ τ w sa U)) bq_no (bq_X g ad σ τ w bad) mc ms (bq_fr g)) (cw : CallW R s args own qc.1 index y bytes maxL ret ws rm mc ms n) (hK : bx_K g s) (hU : bx_U g ad σ τ w H) (hT : bt_K g sa s s.heap) (hF : bx_F g s.heap H) (hlc : bx_Lc g locs)
    (hl : bx_L σ kd k) (he : bx_E g ad σ τ w kd k = .inr (ci, fs)) (hqc : vwCl[ci]? = some qc)
    (hn : As.length = n) (hsize : ls.size = nL) (hstack : st0 = As.reverse ++ .ref (ad kd k) :: rest) (hW : (rest.map fun v => v.category).sum ≤ 8) (hdg : decode cc pc = .ok (.invokevirtual index, 3)) (hf : cells + mc ≤ R.cells ∧ slots + ms ≤ R.slots) (hout : ∀ x ∈ c.exceptionTable.toList, False) (hlocks : meth.locks = false) (hc : cells + mc ≤ mc') (hs : slots + ms ≤ ms') :
    W p l e R s m args below meth c H locs cells slots (vx_MQ below Qc (bq_X g ad σ τ w bad) args s mc' ms' (bq_fr g)) (F0 m pc ls st0) :=
  bt_out (As := .ref (ad kd k) :: As) (vx_runV S hM cw ⟨bt_blind, va_recv hK (bx_P hU hl he) hqc (q0 := 0) rfl, fun U hU1 hW1 => ⟨rfl, ⟨by rw [hU1]; exact hU, hK.moved hW1.alike⟩, by rw [hU1]; exact (hT.kept hF).warm hW1⟩⟩ rfl hn hsize hstack (lv_room hW) hdg hf) hF hlc hout hlocks hc hs
end BT
