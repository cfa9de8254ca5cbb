/-! the law's own row of one long; calls of its helpers -/
section BLW
variable {p : Program} {l : Launch} {e : Env} {R : Room} {s : State} {m : MethodId} {args : Array Value} {below : List Frame} {meth : Method} {c : Code} {H : Heap} {locs : List Loc} {cells slots : Nat} {Q : State → Prop}
variable {cc : ByteArray} {pc : Nat} {ls : Array Slot} {rest st0 As : List Value} {g : bxG} {ad : bxA} {σ τ σ' τ' : bxS} {w w' : bxW} {kd : Nat} {k : Int} {sa : Nat → Nat}
variable {y : MethodName} {bytes : ByteArray} {maxL nL mc ms n index : Nat} {ret : Option FieldType} {ws Ts : List Cond} {rm : Room} {own C : String} {fs : List Value} {ci : Nat} {qc : vw_C}
theorem bx_lst (hx : p.tables.exec = Jvm.exec) (hb : c.code = cc) (hK : bx_K g s) (hU : bx_U g ad σ τ w H) (hlc : bx_Lc g locs) (hl : bx_L σ kd k) {n : Nat} {f f' : Nat → Int64} (he : bx_E g ad σ τ w kd k = .inl (g.2.1 3, n, .inr (.inl f))) {i : Int} {z : Int64} (h0 : 0 ≤ i) (h1 : i < n) (hn : n < 2147483648)
    (hF : bx_Fr g ad σ τ w σ' τ' w' kd k) (he' : bx_E g ad σ' τ' w' kd k = .inl (g.2.1 3, n, .inr (.inl f'))) (hf : ∀ j, j < n → (if j = i.toNat then z else f j) = f' j) (hdg : decode cc pc = .ok (.lastore, 1))
    (kk : ∀ (H1 : Heap) (locs1 : List Loc), bx_U g ad σ' τ' w' H1 → bx_F g H H1 → bx_Lc g locs1 → W p l e R s m args below meth c H1 locs1 cells slots Q (F0 m (pc + 1) ls rest)) : W p l e R s m args below meth c H locs cells slots Q (F0 m pc ls (.long z :: .int (iI i) :: .ref (ad kd k) :: rest)) := by
  have hin := iI_in h0 h1 hn
  refine W.last hx hb (bx_P hU hl he 0 _ rfl) ((hK.2 3 _ rfl).1 n (fun j => .long (f j))) (fun q => by cases q) (by show ¬ (_ < 0 ∨ (arrV _ _ _).slots.size ≤ _); rw [arrV_size]; exact hin) rfl rfl hdg fun H1 e2 z2 oq => ?_
  refine kk H1 _ (hU.set hl hF he' ?_ oq) (bx_F.put hU hl z2 oq) (hlc.add (hU.2.2 kd k hl))
  show H1[ad kd k]? = some (vp_cell _ _)
  rw [e2, vp_cell_l, vp_cell_l, arrV_store, iI_clamp h0 (by omega)]
  congr 1
  refine arrV_ext _ (fun j hj => ?_)
  rw [← hf j hj]
  by_cases hq : j = i.toNat
  · simp [updV, hq]
  · simp [updV, hq]
theorem bs_17 (hx : p.tables.exec = Jvm.exec) (hb : c.code = cc) (hK : bx_K g s) (hU : bx_U g ad σ τ w H) (hlc : bx_Lc g locs) {z : Int64} (hdg : decode cc pc = .ok (.lastore, 1))
    (kk : ∀ (H1 : Heap) (locs1 : List Loc), bx_U g ad σ τ (z, w.2) H1 → bx_F g H H1 → bx_Lc g locs1 → W p l e R s m args below meth c H1 locs1 cells slots Q (F0 m (pc + 1) ls rest)) : W p l e R s m args below meth c H locs cells slots Q (F0 m pc ls (.long z :: .int (iI 0) :: .ref (ad 17 0) :: rest)) :=
  bx_lst (n := 1) (f := fun _ => w.1) (f' := fun _ => z) hx hb hK hU hlc (bx_L0 (by omega)) rfl (Int.le_refl _) (by omega) (by omega) (bf_out g ad σ τ w z) rfl (fun j hj => by rw [if_pos (by omega)]) hdg kk
theorem bx_lld (hx : p.tables.exec = Jvm.exec) (hb : c.code = cc) (hK : bx_K g s) (hU : bx_U g ad σ τ w H) (hl : bx_L σ kd k) {n : Nat} {f : Nat → Int64} (he : bx_E g ad σ τ w kd k = .inl (g.2.1 3, n, .inr (.inl f))) {i : Int} {z : Int64} (h0 : 0 ≤ i) (h1 : i < n) (hn : n < 2147483648) (hz : f i.toNat = z) (hdg : decode cc pc = .ok (.laload, 1))
    (kk : W p l e R s m args below meth c H locs cells slots Q (F0 m (pc + 1) ls (.long z :: rest))) : W p l e R s m args below meth c H locs cells slots Q (F0 m pc ls (.int (iI i) :: .ref (ad kd k) :: rest)) := by
  refine va_lald (D := g.1) (cl := vwCl) (tys := bx_T g) hx hb hK (bx_P hU hl he) 0 3 rfl rfl (iI_in h0 h1 hn) hdg ?_
  rw [iI_clamp h0 (by omega), hz]
  exact kk
theorem bl_17 (hx : p.tables.exec = Jvm.exec) (hb : c.code = cc) (hK : bx_K g s) (hU : bx_U g ad σ τ w H) (hdg : decode cc pc = .ok (.laload, 1))
    (kk : W p l e R s m args below meth c H locs cells slots Q (F0 m (pc + 1) ls (.long w.1 :: rest))) : W p l e R s m args below meth c H locs cells slots Q (F0 m pc ls (.int (iI 0) :: .ref (ad 17 0) :: rest)) :=
  bx_lld (n := 1) (f := fun _ => w.1) hx hb hK hU (bx_L0 (by omega)) rfl (Int.le_refl _) (by omega) (by omega) rfl hdg kk
/-- a call whose end says something of the heap -/
theorem bc_VH {v : Option Value} {P : Heap → Prop} (S : CallFix p m c cc nL s args Ts own) (hM : Met l y ws rm (va_Pc (.ref (ad kd k) :: As) (fun U => bx_I g ad σ τ w U)) (bq_H v g P) mc ms (bq_fr g)) (cw : CallW R s args own qc.1 index y bytes maxL ret ws rm mc ms n) (hK : bx_K g s) (hU : bx_U g ad σ τ w H) (hlc : bx_Lc g locs) (hl : bx_L σ kd k) (he : bx_E g ad σ τ w kd k = .inr (ci, fs)) (hc : vwCl[ci]? = some qc) (hn : As.length = n) (hsize : ls.size = nL) (hstack : st0 = As.reverse ++ .ref (ad kd k) :: rest) (hW : (rest.map fun v => v.category).sum ≤ 8) (hdg : decode cc pc = .ok (.invokevirtual index, 3)) (hf : cells + mc ≤ R.cells ∧ slots + ms ≤ R.slots)
    (kk : ∀ (H1 : Heap) (locs1 : List Loc), P H1 → bx_F g H H1 → bx_Lc g locs1 → W p l e R s m args below meth c H1 locs1 (cells + mc) (slots + ms) Q (F0 m (pc + 3) ls (v.toList ++ rest))) : W p l e R s m args below meth c H locs cells slots Q (F0 m pc ls st0) := by
  have hr := va_runV S hM cw ⟨bx_blind, va_recv hK (bx_P hU hl he) hc (q0 := 0) rfl, fun U hU1 hW1 => ⟨rfl, by rw [hU1]; exact hU, hK.moved hW1.alike⟩⟩ (g := F0 m pc ls st0) (H := H) (p := p) (e := e) (below := below) (meth := meth) (locs := locs) (cells := cells) (slots := slots) (rest := rest) rfl hn hsize hstack (lv_room hW) hdg hf
  intro T hT X
  obtain ⟨v2, st₀, t, T', L, h0, X', hL, e1, e2, ⟨hv, hu, hF⟩, st⟩ := hr T hT X
  cases hv
  rw [h0] at hF
  rw [← e1] at hu hF
  obtain ⟨t2, a1, b1⟩ := kk T'.heap (locs ++ L) hu hF (hlc.app (fun q hq => hL q hq)) T' rfl X'
  exact ⟨t2, st t2 a1, b1⟩
/-- what a helper of the law asks: the universe, what a throw needs, and that the one exception isn't the other -/
def bt_J (g : bxG) (ad : bxA) (σ τ : bxS) (w : bxW) (sa : Nat → Nat) (U : State) : Prop := bt_I g ad σ τ w sa U ∧ va_Nc bt_ise bt_iae U
theorem bt_jblind : FrameBlind (va_Pc As (fun U => bt_J g ad σ τ w sa U)) := fun a U fr mk q => ⟨q.1, ⟨⟨q.2.1.1.1, va_K.moved (u := U) (U := U.calling fr mk a) (Vm.Alike.refl U.vm) q.2.1.1.2⟩, bt_calling q.2.1.2⟩, va_Nc.moved (u := U) (U := U.calling fr mk a) (Vm.Alike.refl U.vm) q.2.2⟩
/-- a callee that throws E0, caught here at h -/
theorem bk_V {E0 : String} {h : Nat} (S : CallFix p m c cc nL s args Ts own) (hM : vx_Met l y ws rm (va_Pc (.ref (ad kd k) :: As) (fun U => bt_I g ad σ τ w sa U)) bq_no (bq_X g ad σ τ w (fun E => E = E0)) mc ms (bq_fr g)) (cw : CallW R s args own qc.1 index y bytes maxL ret ws rm mc ms n) (hK : bx_K g s) (hU : bx_U g ad σ τ w H) (hT : bt_K g sa s s.heap) (hF : bx_F g s.heap H) (hlc : bx_Lc g locs)
    (hl : bx_L σ kd k) (he : bx_E g ad σ τ w kd k = .inr (ci, fs)) (hqc : vwCl[ci]? = some qc)
    (hn : As.length = n) (hsize : ls.size = nL) (hstack : st0 = As.reverse ++ .ref (ad kd k) :: rest) (hW : (rest.map fun v => v.category).sum ≤ 8) (hdg : decode cc pc = .ok (.invokevirtual index, 3)) (hf : cells + mc ≤ R.cells ∧ slots + ms ≤ R.slots)
    (hfind : ∀ thrown : ClassId, s.vm.findClass E0 = some thrown → ∀ pl : Platform, pl.magicAccessors = ({} : Platform).magicAccessors → bk_F pl s m.cls pc thrown h c.exceptionTable.toList)
    (kk : ∀ (q : Nat) (H1 : Heap) (locs1 : List Loc), bx_U g ad σ τ w H1 → bx_F g H H1 → bx_Lc g locs1 → W p l e R s m args below meth c H1 locs1 (cells + mc) (slots + ms) Q (F0 m h ls [.ref q])) : W p l e R s m args below meth c H locs cells slots Q (F0 m pc ls st0) := by
  have hr := vx_runV (H := H) (g := F0 m pc ls st0) (below := below) (meth := meth) (locs := locs) (cells := cells) (slots := slots) (e := e) (p := p) (rest := rest) S hM cw ⟨bt_blind, va_recv hK (bx_P hU hl he) hqc (q0 := 0) rfl, fun U hU1 hW1 => ⟨rfl, ⟨by rw [hU1]; exact hU, hK.moved hW1.alike⟩, by rw [hU1]; exact (hT.kept hF).warm hW1⟩⟩ rfl hn hsize hstack (lv_room hW) hdg hf
  intro T hT2 X
  rcases hr T hT2 X with ⟨v, st₀, t, T', L, h0, X', hL, e1, e2, hno, st⟩ | ⟨q, st₀, t, T', L, E, ce, h0, X', hL, e1, e2, ⟨hb, hu, hf2⟩, hce, hcv, hcl, st⟩
  · exact hno.elim
  · rw [h0] at hf2
    subst hb
    obtain ⟨t2, a1, b1⟩ := bk_catch (E := E) (ce := ce) (q := q) (h := h) (H := T'.heap) (locs := locs ++ L) (pc := pc) (ls := ls) (rest := rest) (Q := Q) (by rw [e1]; exact hce) hcv hcl (fun pl hpl => hfind _ hcl pl hpl) (kk q T'.heap (locs ++ L) (by rw [e1]; exact hu) (by rw [e1]; exact hf2) (hlc.app (fun z hz => hL z hz))) T' rfl X'
    exact ⟨t2, st.trans a1, b1⟩
def bq_nx : String → State → State → Prop := fun _ _ _ => False
/-- a call of one of the law's helpers -/
theorem bk_S {v : Option Value} {P : Heap → Prop} {hh : List (Nat × Nat × Nat × Nat)} {Pq : State → Prop} (S : CallFix p m c cc nL s args Ts own) (hM : vx_Met l y ws rm (va_Pc As Pq) (bq_H v g P) bq_nx mc ms (bq_fr g)) (cw : vx_CSW R s args own index y bytes maxL ret hh ws rm mc ms n) (hp : PreS s H (va_Pc As Pq) As) (hlc : bx_Lc g locs)
    (hn : As.length = n) (hsize : ls.size = nL) (hstack : st0 = As.reverse ++ rest) (hW : (rest.map fun v => v.category).sum ≤ 8) (hdg : decode cc pc = .ok (.invokestatic index, 3)) (hf : cells + mc ≤ R.cells ∧ slots + ms ≤ R.slots)
    (kk : ∀ (H1 : Heap) (locs1 : List Loc), P H1 → bx_F g H H1 → bx_Lc g locs1 → W p l e R s m args below meth c H1 locs1 (cells + mc) (slots + ms) Q (F0 m (pc + 3) ls (v.toList ++ rest))) : W p l e R s m args below meth c H locs cells slots Q (F0 m pc ls st0) := by
  have hr := vx_runSX (H := H) (g := F0 m pc ls st0) (below := below) (meth := meth) (locs := locs) (cells := cells) (slots := slots) (e := e) (p := p) (rest := rest) S hM cw hp rfl hn hsize hstack (lv_room hW) hdg hf
  intro T hT2 X
  rcases hr T hT2 X with ⟨v2, st₀, t, T', L, h0, X', hL, e1, e2, ⟨hv, hu, hF⟩, st⟩ | ⟨q, st₀, t, T', L, E, ce, h0, X', hL, e1, e2, hno, -⟩
  · cases hv
    rw [h0] at hF
    rw [← e1] at hu hF
    obtain ⟨t2, a1, b1⟩ := kk T'.heap (locs ++ L) hu hF (hlc.app (fun q hq => hL q hq)) T' rfl X'
    exact ⟨t2, st t2 a1, b1⟩
  · exact hno.elim
end BLW
