set_option maxHeartbeats 4000000 in
set_option maxRecDepth 100000 in
theorem c_X0_init (l : Launch) (g : bxG) (h0 sz : Nat) (k ax r : Int) : Met l yX0_init wsX0_init ({ frames := 1, cells := 2, slots := 6, locals := 12 }) (va_Pc [.ref h0, .int (iI k), .int (iI ax), .int (iI r)] (fun U => U.heap.size = sz ∧ va_P g.1 vwCl [(h0, .inr (0, [.int 0, .int 0, .int 0, .null, .null, .int 0]))] U.heap ∧ va_K g.1 vwCl (bx_T g) U ∧ va_D (fun _ => True) [(h0, .inr (0, [.int 0, .int 0, .int 0, .null, .null, .int 0]))])) (va_Qv (fun _ : Nat → Nat => True) (fun u t => va_P g.1 vwCl [(h0, .inr (0, [.int (iI k), .int (iI ax), .int (iI r), .ref (u 1), .ref (u 2), .int (iI 0)])), ((u 1), .inl (g.2.1 0, 3, .inl (fun _ => 0))), ((u 2), .inl (g.2.1 0, 3, .inl (fun _ => 0)))] t.heap ∧ va_D (va_A [(h0, .inr (0, [.int 0, .int 0, .int 0, .null, .null, .int 0]))] sz) [(h0, .inr (0, [.int (iI k), .int (iI ax), .int (iI r), .ref (u 1), .ref (u 2), .int (iI 0)])), ((u 1), .inl (g.2.1 0, 3, .inl (fun _ => 0))), ((u 2), .inl (g.2.1 0, 3, .inl (fun _ => 0)))]) (va_A [(h0, .inr (0, [.int 0, .int 0, .int 0, .null, .null, .int 0]))] sz)) 2 6 (va_A [(h0, .inr (0, [.int 0, .int 0, .int 0, .null, .null, .int 0]))] sz) := by
  refine Met.ofW (cc := cX0_init) (maxL := 4) (ret := none) (by decide) rfl ?_
  intro Pg Ev s mI args below meth cd s₁ B hml hv
  obtain ⟨rfl, hsz, hP, hK, hD0⟩ := hv
  have hx := B.exec
  have hb := B.bytes
  have hr := B.returns
  have hts := atoms_spec (ws := wsX0_init) B.pre
  have hown : s.vm.findClass RX0 = some mI.cls := findClass_of_methodNamed B.named
  have hlocks := B.notSynchronized
  have hin : meth.name = "<init>" := (name_of_methodNamed B.named B.method).1
  have hinX0 : ∀ w ∈ wsX00, w ∈ wsX0_init := by decide +kernel
  subst hsz
  have hD := hD0.self (sz := s.heap.size)
  generalize hAe : va_A [(h0, .inr (0, [.int 0, .int 0, .int 0, .null, .null, .int 0]))] s.heap.size = A at hD ⊢
  have hA : ∀ q : Nat, s.heap.size ≤ q → A q := fun q h => by rw [← hAe]; exact Or.inr h
  have hS : va_S A s.heap s.heap [] := va_S.rf
  have hP : va_P g.1 vwCl [(h0, .inr (0, [.int 0, .int 0, .int 0, .null, .null, .int 0]))] s.heap := hP
  have hl := lv_entry ([.ref h0, .int (iI k), .int (iI ax), .int (iI r)]) (n := 4) (Nat.le_of_ble_eq_true rfl)
  rw [lg_entry_eq]
  generalize (lg_sl ([.ref h0, .int (iI k), .int (iI ax), .int (iI r)]) ++ List.replicate (4 - (lg_sl ([.ref h0, .int (iI k), .int (iI ax), .int (iI r)])).length) Slot.unset).toArray = ls at hl ⊢
  have hl : lv_has ls 4 [(0, .ref h0), (1, .int (iI k)), (2, .int (iI ax)), (3, .int (iI r))] := hl
  refine lv_aload_n hx hb dX0_init_0 rfl (lv_at hl 0 rfl) ?_
  refine W.objInit hx hb hown (hts (.methodLink RX0 3 objectInit) (by decide +kernel)) (hts (.instanceMethod objectInit) (by decide +kernel)) (hts _ (List.mem_cons_of_mem _ (List.mem_append_left _ (List.mem_of_getElem? (i := 2) rfl)))) rfl (by rw [hml]; exact hl.1) rfl dX0_init_1 (Nat.le_of_ble_eq_true rfl) (Nat.le_of_ble_eq_true rfl) ?_
  refine W.eq (g2 := F0 mI 4 ls []) rfl ?_
  refine lv_aload_n hx hb dX0_init_4 rfl (lv_at hl 0 rfl) ?_
  refine li_iconst hx hb dX0_init_5 ?_
  refine va_newa (atype := .int) (a0 := (3, .inl (fun _ => 0))) hx hb (hts (.arrayClass .int) (by decide +kernel)) rfl hK hP hD hS hA (fun _ => rfl) (by decide) (by decide) (by decide) (Nat.le_of_ble_eq_true rfl) (Nat.le_of_ble_eq_true rfl) dX0_init_6 (fun q6 cA H hK9 hP hD hS => ?_)
  have e9 : cA = g.2.1 0 := Option.some.inj ((hK9.2 4 (cA, .int) rfl).2.symm.trans (hK.2 0 (g.2.1 0, .int) rfl).2)
  subst e9
  have hP : va_P g.1 vwCl [(h0, .inr (0, [.int 0, .int 0, .int 0, .null, .null, .int 0])), (q6, .inl (g.2.1 0, 3, .inl (fun _ => 0)))] H := hP
  have hD : va_D A [(h0, .inr (0, [.int 0, .int 0, .int 0, .null, .null, .int 0])), (q6, .inl (g.2.1 0, 3, .inl (fun _ => 0)))] := hD
  refine W.widen (k := 1) (n := 3) (by omega) (by omega) ?_
  refine va_putF (D := g.1) (ci := 0) (v := .ref q6) (ty := .array .int) (C := RX0) (T := TX0) (N := 6) hx hb hts hinX0 tyX0 tyX0_ok nmX0 hown hK hP hD hS 0 rfl rfl 3 (by decide) (hts (.fieldLink RX0 9 "ClashBoxes$Part" "least" "[I") (by decide +kernel)) (fun _ h9 => h9) rfl hin rfl (by decide +kernel) rfl rfl (Nat.le_of_ble_eq_true rfl) dX0_init_8 (fun H locs hP hD hS => ?_)
  have hP : va_P g.1 vwCl [(h0, .inr (0, [.int 0, .int 0, .int 0, .ref q6, .null, .int 0])), (q6, .inl (g.2.1 0, 3, .inl (fun _ => 0)))] H := hP
  have hD : va_D A [(h0, .inr (0, [.int 0, .int 0, .int 0, .ref q6, .null, .int 0])), (q6, .inl (g.2.1 0, 3, .inl (fun _ => 0)))] := hD
  refine lv_aload_n hx hb dX0_init_11 rfl (lv_at hl 0 rfl) ?_
  refine li_iconst hx hb dX0_init_12 ?_
  refine va_newa (atype := .int) (a0 := (3, .inl (fun _ => 0))) hx hb (hts (.arrayClass .int) (by decide +kernel)) rfl hK hP hD hS hA (fun _ => rfl) (by decide) (by decide) (by decide) (Nat.le_of_ble_eq_true rfl) (Nat.le_of_ble_eq_true rfl) dX0_init_13 (fun q13 cA H hK9 hP hD hS => ?_)
  have e9 : cA = g.2.1 0 := Option.some.inj ((hK9.2 4 (cA, .int) rfl).2.symm.trans (hK.2 0 (g.2.1 0, .int) rfl).2)
  subst e9
  have hP : va_P g.1 vwCl [(h0, .inr (0, [.int 0, .int 0, .int 0, .ref q6, .null, .int 0])), (q6, .inl (g.2.1 0, 3, .inl (fun _ => 0))), (q13, .inl (g.2.1 0, 3, .inl (fun _ => 0)))] H := hP
  have hD : va_D A [(h0, .inr (0, [.int 0, .int 0, .int 0, .ref q6, .null, .int 0])), (q6, .inl (g.2.1 0, 3, .inl (fun _ => 0))), (q13, .inl (g.2.1 0, 3, .inl (fun _ => 0)))] := hD
  refine W.widen (k := 2) (n := 6) (by omega) (by omega) ?_
  refine va_putF (D := g.1) (ci := 0) (v := .ref q13) (ty := .array .int) (C := RX0) (T := TX0) (N := 6) hx hb hts hinX0 tyX0 tyX0_ok nmX0 hown hK hP hD hS 0 rfl rfl 4 (by decide) (hts (.fieldLink RX0 15 "ClashBoxes$Part" "greatest" "[I") (by decide +kernel)) (fun _ h9 => h9) rfl hin rfl (by decide +kernel) rfl rfl (Nat.le_of_ble_eq_true rfl) dX0_init_15 (fun H locs hP hD hS => ?_)
  have hP : va_P g.1 vwCl [(h0, .inr (0, [.int 0, .int 0, .int 0, .ref q6, .ref q13, .int 0])), (q6, .inl (g.2.1 0, 3, .inl (fun _ => 0))), (q13, .inl (g.2.1 0, 3, .inl (fun _ => 0)))] H := hP
  have hD : va_D A [(h0, .inr (0, [.int 0, .int 0, .int 0, .ref q6, .ref q13, .int 0])), (q6, .inl (g.2.1 0, 3, .inl (fun _ => 0))), (q13, .inl (g.2.1 0, 3, .inl (fun _ => 0)))] := hD
  refine lv_aload_n hx hb dX0_init_18 rfl (lv_at hl 0 rfl) ?_
  refine li_iconst hx hb dX0_init_19 ?_
  refine va_put (D := g.1) (ci := 0) (v := .int (iI 0)) (ty := .int) (C := RX0) (T := TX0) (N := 6) hx hb hts hinX0 tyX0 tyX0_ok nmX0 hown hK hP hD hS 0 rfl rfl 5 (by decide) (hts (.fieldLink RX0 18 "ClashBoxes$Part" "softSpace" "I") (by decide +kernel)) (fun _ h9 => h9) rfl (by decide +kernel) rfl rfl (Nat.le_of_ble_eq_true rfl) dX0_init_20 (fun H locs hP hD hS => ?_)
  have hP : va_P g.1 vwCl [(h0, .inr (0, [.int 0, .int 0, .int 0, .ref q6, .ref q13, .int (iI 0)])), (q6, .inl (g.2.1 0, 3, .inl (fun _ => 0))), (q13, .inl (g.2.1 0, 3, .inl (fun _ => 0)))] H := hP
  have hD : va_D A [(h0, .inr (0, [.int 0, .int 0, .int 0, .ref q6, .ref q13, .int (iI 0)])), (q6, .inl (g.2.1 0, 3, .inl (fun _ => 0))), (q13, .inl (g.2.1 0, 3, .inl (fun _ => 0)))] := hD
  refine lv_aload_n hx hb dX0_init_23 rfl (lv_at hl 0 rfl) ?_
  refine lv_iload_n hx hb dX0_init_24 rfl (lv_at hl 1 rfl) ?_
  refine va_putF (D := g.1) (ci := 0) (v := .int (iI k)) (ty := .int) (C := RX0) (T := TX0) (N := 6) hx hb hts hinX0 tyX0 tyX0_ok nmX0 hown hK hP hD hS 0 rfl rfl 0 (by decide) (hts (.fieldLink RX0 22 "ClashBoxes$Part" "kind" "I") (by decide +kernel)) (fun _ h9 => h9) rfl hin rfl (by decide +kernel) rfl rfl (Nat.le_of_ble_eq_true rfl) dX0_init_25 (fun H locs hP hD hS => ?_)
  have hP : va_P g.1 vwCl [(h0, .inr (0, [.int (iI k), .int 0, .int 0, .ref q6, .ref q13, .int (iI 0)])), (q6, .inl (g.2.1 0, 3, .inl (fun _ => 0))), (q13, .inl (g.2.1 0, 3, .inl (fun _ => 0)))] H := hP
  have hD : va_D A [(h0, .inr (0, [.int (iI k), .int 0, .int 0, .ref q6, .ref q13, .int (iI 0)])), (q6, .inl (g.2.1 0, 3, .inl (fun _ => 0))), (q13, .inl (g.2.1 0, 3, .inl (fun _ => 0)))] := hD
  refine lv_aload_n hx hb dX0_init_28 rfl (lv_at hl 0 rfl) ?_
  refine lv_iload_n hx hb dX0_init_29 rfl (lv_at hl 2 rfl) ?_
  refine va_putF (D := g.1) (ci := 0) (v := .int (iI ax)) (ty := .int) (C := RX0) (T := TX0) (N := 6) hx hb hts hinX0 tyX0 tyX0_ok nmX0 hown hK hP hD hS 0 rfl rfl 1 (by decide) (hts (.fieldLink RX0 25 "ClashBoxes$Part" "tubeAxis" "I") (by decide +kernel)) (fun _ h9 => h9) rfl hin rfl (by decide +kernel) rfl rfl (Nat.le_of_ble_eq_true rfl) dX0_init_30 (fun H locs hP hD hS => ?_)
  have hP : va_P g.1 vwCl [(h0, .inr (0, [.int (iI k), .int (iI ax), .int 0, .ref q6, .ref q13, .int (iI 0)])), (q6, .inl (g.2.1 0, 3, .inl (fun _ => 0))), (q13, .inl (g.2.1 0, 3, .inl (fun _ => 0)))] H := hP
  have hD : va_D A [(h0, .inr (0, [.int (iI k), .int (iI ax), .int 0, .ref q6, .ref q13, .int (iI 0)])), (q6, .inl (g.2.1 0, 3, .inl (fun _ => 0))), (q13, .inl (g.2.1 0, 3, .inl (fun _ => 0)))] := hD
  refine lv_aload_n hx hb dX0_init_33 rfl (lv_at hl 0 rfl) ?_
  refine lv_iload_n hx hb dX0_init_34 rfl (lv_at hl 3 rfl) ?_
  refine va_putF (D := g.1) (ci := 0) (v := .int (iI r)) (ty := .int) (C := RX0) (T := TX0) (N := 6) hx hb hts hinX0 tyX0 tyX0_ok nmX0 hown hK hP hD hS 0 rfl rfl 2 (by decide) (hts (.fieldLink RX0 28 "ClashBoxes$Part" "radius" "I") (by decide +kernel)) (fun _ h9 => h9) rfl hin rfl (by decide +kernel) rfl rfl (Nat.le_of_ble_eq_true rfl) dX0_init_35 (fun H locs hP hD hS => ?_)
  have hP : va_P g.1 vwCl [(h0, .inr (0, [.int (iI k), .int (iI ax), .int (iI r), .ref q6, .ref q13, .int (iI 0)])), (q6, .inl (g.2.1 0, 3, .inl (fun _ => 0))), (q13, .inl (g.2.1 0, 3, .inl (fun _ => 0)))] H := hP
  have hD : va_D A [(h0, .inr (0, [.int (iI k), .int (iI ax), .int (iI r), .ref q6, .ref q13, .int (iI 0)])), (q6, .inl (g.2.1 0, 3, .inl (fun _ => 0))), (q13, .inl (g.2.1 0, 3, .inl (fun _ => 0)))] := hD
  exact W.vret hx hb hr (fun t ht hW => ⟨⟨(fun i => if i = 1 then q6 else if i = 2 then q13 else 0), rfl, trivial, by rw [ht]; exact hP, hD⟩, hS.F ht⟩) hS.2.2 dX0_init_38 hlocks

set_option maxHeartbeats 4000000 in
set_option maxRecDepth 100000 in
theorem c_X1_init (l : Launch) (g : bxG) (h0 sz : Nat) : Met l yX1_init wsX1_init ({ frames := 1, cells := 6, slots := 364, locals := 12 }) (va_Pc [.ref h0] (fun U => U.heap.size = sz ∧ va_P g.1 vwCl [(h0, .inr (1, [.null, .null, .int 0, .int 0, .null, .null, .null, .null]))] U.heap ∧ va_K g.1 vwCl (bx_T g) U ∧ va_D (fun _ => True) [(h0, .inr (1, [.null, .null, .int 0, .int 0, .null, .null, .null, .null]))] ∧ va_AO RX0 U)) (va_Qv (fun _ : Nat → Nat => True) (fun u t => va_P g.1 vwCl [(h0, .inr (1, [.ref (u 1), .ref (u 2), .int (iI 0), .int (iI 0), .ref (u 3), .ref (u 4), .ref (u 5), .ref (u 6)])), ((u 1), .inl (g.2.1 2, 60, .inr (.inr (.inr (.inr (fun _ => none)))))), ((u 2), .inl (g.2.1 1, 64, .inl (fun _ => 0))), ((u 3), .inl (g.2.1 0, 60, .inl (fun _ => 0))), ((u 4), .inl (g.2.1 0, 60, .inl (fun _ => 0))), ((u 5), .inl (g.2.1 0, 60, .inl (fun _ => 0))), ((u 6), .inl (g.2.1 0, 60, .inl (fun _ => 0)))] t.heap ∧ va_D (va_A [(h0, .inr (1, [.null, .null, .int 0, .int 0, .null, .null, .null, .null]))] sz) [(h0, .inr (1, [.ref (u 1), .ref (u 2), .int (iI 0), .int (iI 0), .ref (u 3), .ref (u 4), .ref (u 5), .ref (u 6)])), ((u 1), .inl (g.2.1 2, 60, .inr (.inr (.inr (.inr (fun _ => none)))))), ((u 2), .inl (g.2.1 1, 64, .inl (fun _ => 0))), ((u 3), .inl (g.2.1 0, 60, .inl (fun _ => 0))), ((u 4), .inl (g.2.1 0, 60, .inl (fun _ => 0))), ((u 5), .inl (g.2.1 0, 60, .inl (fun _ => 0))), ((u 6), .inl (g.2.1 0, 60, .inl (fun _ => 0)))]) (va_A [(h0, .inr (1, [.null, .null, .int 0, .int 0, .null, .null, .null, .null]))] sz)) 6 364 (va_A [(h0, .inr (1, [.null, .null, .int 0, .int 0, .null, .null, .null, .null]))] sz) := by
  refine Met.ofW (cc := cX1_init) (maxL := 1) (ret := none) (by decide) rfl ?_
  intro Pg Ev s mI args below meth cd s₁ B hml hv
  obtain ⟨rfl, hsz, hP, hK, hD0, hAO⟩ := hv
  have hx := B.exec
  have hb := B.bytes
  have hr := B.returns
  have hts := atoms_spec (ws := wsX1_init) B.pre
  have hown : s.vm.findClass RX1 = some mI.cls := findClass_of_methodNamed B.named
  have hlocks := B.notSynchronized
  have hin : meth.name = "<init>" := (name_of_methodNamed B.named B.method).1
  have hinX1 : ∀ w ∈ wsX10, w ∈ wsX1_init := by decide +kernel
  subst hsz
  have hD := hD0.self (sz := s.heap.size)
  generalize hAe : va_A [(h0, .inr (1, [.null, .null, .int 0, .int 0, .null, .null, .null, .null]))] s.heap.size = A at hD ⊢
  have hA : ∀ q : Nat, s.heap.size ≤ q → A q := fun q h => by rw [← hAe]; exact Or.inr h
  have hS : va_S A s.heap s.heap [] := va_S.rf
  have hP : va_P g.1 vwCl [(h0, .inr (1, [.null, .null, .int 0, .int 0, .null, .null, .null, .null]))] s.heap := hP
  have hl := lv_entry ([.ref h0]) (n := 1) (Nat.le_of_ble_eq_true rfl)
  rw [lg_entry_eq]
  generalize (lg_sl ([.ref h0]) ++ List.replicate (1 - (lg_sl ([.ref h0])).length) Slot.unset).toArray = ls at hl ⊢
  have hl : lv_has ls 1 [(0, .ref h0)] := hl
  refine lv_aload_n hx hb dX1_init_0 rfl (lv_at hl 0 rfl) ?_
  refine W.objInit hx hb hown (hts (.methodLink RX1 1 objectInit) (by decide +kernel)) (hts (.instanceMethod objectInit) (by decide +kernel)) (hts _ (List.mem_cons_of_mem _ (List.mem_append_left _ (List.mem_of_getElem? (i := 2) rfl)))) rfl (by rw [hml]; exact hl.1) rfl dX1_init_1 (Nat.le_of_ble_eq_true rfl) (Nat.le_of_ble_eq_true rfl) ?_
  refine W.eq (g2 := F0 mI 4 ls []) rfl ?_
  refine lv_aload_n hx hb dX1_init_4 rfl (lv_at hl 0 rfl) ?_
  refine li_bipush hx hb dX1_init_5 (by decide) ?_
  refine va_newq (C := RX0) hx hb hown (hts (.classLink RX1 9 RX0) (by decide +kernel)) hAO hK hP hD hS hA (N' := 60) (by decide) (by decide) (by decide) (Nat.le_of_ble_eq_true rfl) (Nat.le_of_ble_eq_true rfl) dX1_init_7 (fun q7 cA H hK9 hP hD hS => ?_)
  obtain ⟨kA9, comp9, -, -, -, e8⟩ := (hK9.2 4 (cA, .object RX0) rfl).2
  obtain ⟨kA8, comp8, -, -, -, e7⟩ := (hK.2 2 (g.2.1 2, .object RX0) rfl).2
  have e9 : cA = g.2.1 2 := Option.some.inj (e8.symm.trans e7)
  subst e9
  have hP : va_P g.1 vwCl [(h0, .inr (1, [.null, .null, .int 0, .int 0, .null, .null, .null, .null])), (q7, .inl (g.2.1 2, 60, .inr (.inr (.inr (.inr (fun _ => none))))))] H := hP
  have hD : va_D A [(h0, .inr (1, [.null, .null, .int 0, .int 0, .null, .null, .null, .null])), (q7, .inl (g.2.1 2, 60, .inr (.inr (.inr (.inr (fun _ => none))))))] := hD
  refine W.widen (k := 1) (n := 60) (by omega) (by omega) ?_
  refine va_putF (D := g.1) (ci := 1) (v := .ref q7) (ty := .array (.object "ClashBoxes$Part")) (C := RX1) (T := TX1) (N := 8) hx hb hts hinX1 tyX1 tyX1_ok nmX1 hown hK hP hD hS 0 rfl rfl 0 (by decide) (hts (.fieldLink RX1 11 "ClashBoxes" "row" "[LClashBoxes$Part;") (by decide +kernel)) (fun _ h9 => h9) rfl hin rfl (by decide +kernel) rfl rfl (Nat.le_of_ble_eq_true rfl) dX1_init_10 (fun H locs hP hD hS => ?_)
  have hP : va_P g.1 vwCl [(h0, .inr (1, [.ref q7, .null, .int 0, .int 0, .null, .null, .null, .null])), (q7, .inl (g.2.1 2, 60, .inr (.inr (.inr (.inr (fun _ => none))))))] H := hP
  have hD : va_D A [(h0, .inr (1, [.ref q7, .null, .int 0, .int 0, .null, .null, .null, .null])), (q7, .inl (g.2.1 2, 60, .inr (.inr (.inr (.inr (fun _ => none))))))] := hD
  refine lv_aload_n hx hb dX1_init_13 rfl (lv_at hl 0 rfl) ?_
  refine li_bipush hx hb dX1_init_14 (by decide) ?_
  refine va_newa (atype := .boolean) (a0 := (64, .inl (fun _ => 0))) hx hb (hts (.arrayClass .boolean) (by decide +kernel)) rfl hK hP hD hS hA (fun _ => rfl) (by decide) (by decide) (by decide) (Nat.le_of_ble_eq_true rfl) (Nat.le_of_ble_eq_true rfl) dX1_init_16 (fun q16 cA H hK9 hP hD hS => ?_)
  have e9 : cA = g.2.1 1 := Option.some.inj ((hK9.2 4 (cA, .boolean) rfl).2.symm.trans (hK.2 1 (g.2.1 1, .boolean) rfl).2)
  subst e9
  have hP : va_P g.1 vwCl [(h0, .inr (1, [.ref q7, .null, .int 0, .int 0, .null, .null, .null, .null])), (q7, .inl (g.2.1 2, 60, .inr (.inr (.inr (.inr (fun _ => none)))))), (q16, .inl (g.2.1 1, 64, .inl (fun _ => 0)))] H := hP
  have hD : va_D A [(h0, .inr (1, [.ref q7, .null, .int 0, .int 0, .null, .null, .null, .null])), (q7, .inl (g.2.1 2, 60, .inr (.inr (.inr (.inr (fun _ => none)))))), (q16, .inl (g.2.1 1, 64, .inl (fun _ => 0)))] := hD
  refine W.widen (k := 2) (n := 124) (by omega) (by omega) ?_
  refine va_putF (D := g.1) (ci := 1) (v := .ref q16) (ty := .array .boolean) (C := RX1) (T := TX1) (N := 8) hx hb hts hinX1 tyX1 tyX1_ok nmX1 hown hK hP hD hS 0 rfl rfl 1 (by decide) (hts (.fieldLink RX1 15 "ClashBoxes" "freeKinds" "[Z") (by decide +kernel)) (fun _ h9 => h9) rfl hin rfl (by decide +kernel) rfl rfl (Nat.le_of_ble_eq_true rfl) dX1_init_18 (fun H locs hP hD hS => ?_)
  have hP : va_P g.1 vwCl [(h0, .inr (1, [.ref q7, .ref q16, .int 0, .int 0, .null, .null, .null, .null])), (q7, .inl (g.2.1 2, 60, .inr (.inr (.inr (.inr (fun _ => none)))))), (q16, .inl (g.2.1 1, 64, .inl (fun _ => 0)))] H := hP
  have hD : va_D A [(h0, .inr (1, [.ref q7, .ref q16, .int 0, .int 0, .null, .null, .null, .null])), (q7, .inl (g.2.1 2, 60, .inr (.inr (.inr (.inr (fun _ => none)))))), (q16, .inl (g.2.1 1, 64, .inl (fun _ => 0)))] := hD
  refine lv_aload_n hx hb dX1_init_21 rfl (lv_at hl 0 rfl) ?_
  refine li_iconst hx hb dX1_init_22 ?_
  refine va_put (D := g.1) (ci := 1) (v := .int (iI 0)) (ty := .int) (C := RX1) (T := TX1) (N := 8) hx hb hts hinX1 tyX1 tyX1_ok nmX1 hown hK hP hD hS 0 rfl rfl 2 (by decide) (hts (.fieldLink RX1 19 "ClashBoxes" "made" "I") (by decide +kernel)) (fun _ h9 => h9) rfl (by decide +kernel) rfl rfl (Nat.le_of_ble_eq_true rfl) dX1_init_23 (fun H locs hP hD hS => ?_)
  have hP : va_P g.1 vwCl [(h0, .inr (1, [.ref q7, .ref q16, .int (iI 0), .int 0, .null, .null, .null, .null])), (q7, .inl (g.2.1 2, 60, .inr (.inr (.inr (.inr (fun _ => none)))))), (q16, .inl (g.2.1 1, 64, .inl (fun _ => 0)))] H := hP
  have hD : va_D A [(h0, .inr (1, [.ref q7, .ref q16, .int (iI 0), .int 0, .null, .null, .null, .null])), (q7, .inl (g.2.1 2, 60, .inr (.inr (.inr (.inr (fun _ => none)))))), (q16, .inl (g.2.1 1, 64, .inl (fun _ => 0)))] := hD
  refine lv_aload_n hx hb dX1_init_26 rfl (lv_at hl 0 rfl) ?_
  refine li_iconst hx hb dX1_init_27 ?_
  refine va_put (D := g.1) (ci := 1) (v := .int (iI 0)) (ty := .int) (C := RX1) (T := TX1) (N := 8) hx hb hts hinX1 tyX1 tyX1_ok nmX1 hown hK hP hD hS 0 rfl rfl 3 (by decide) (hts (.fieldLink RX1 23 "ClashBoxes" "left" "I") (by decide +kernel)) (fun _ h9 => h9) rfl (by decide +kernel) rfl rfl (Nat.le_of_ble_eq_true rfl) dX1_init_28 (fun H locs hP hD hS => ?_)
  have hP : va_P g.1 vwCl [(h0, .inr (1, [.ref q7, .ref q16, .int (iI 0), .int (iI 0), .null, .null, .null, .null])), (q7, .inl (g.2.1 2, 60, .inr (.inr (.inr (.inr (fun _ => none)))))), (q16, .inl (g.2.1 1, 64, .inl (fun _ => 0)))] H := hP
  have hD : va_D A [(h0, .inr (1, [.ref q7, .ref q16, .int (iI 0), .int (iI 0), .null, .null, .null, .null])), (q7, .inl (g.2.1 2, 60, .inr (.inr (.inr (.inr (fun _ => none)))))), (q16, .inl (g.2.1 1, 64, .inl (fun _ => 0)))] := hD
  refine lv_aload_n hx hb dX1_init_31 rfl (lv_at hl 0 rfl) ?_
  refine li_bipush hx hb dX1_init_32 (by decide) ?_
  refine va_newa (atype := .int) (a0 := (60, .inl (fun _ => 0))) hx hb (hts (.arrayClass .int) (by decide +kernel)) rfl hK hP hD hS hA (fun _ => rfl) (by decide) (by decide) (by decide) (Nat.le_of_ble_eq_true rfl) (Nat.le_of_ble_eq_true rfl) dX1_init_34 (fun q34 cA H hK9 hP hD hS => ?_)
  have e9 : cA = g.2.1 0 := Option.some.inj ((hK9.2 4 (cA, .int) rfl).2.symm.trans (hK.2 0 (g.2.1 0, .int) rfl).2)
  subst e9
  have hP : va_P g.1 vwCl [(h0, .inr (1, [.ref q7, .ref q16, .int (iI 0), .int (iI 0), .null, .null, .null, .null])), (q7, .inl (g.2.1 2, 60, .inr (.inr (.inr (.inr (fun _ => none)))))), (q16, .inl (g.2.1 1, 64, .inl (fun _ => 0))), (q34, .inl (g.2.1 0, 60, .inl (fun _ => 0)))] H := hP
  have hD : va_D A [(h0, .inr (1, [.ref q7, .ref q16, .int (iI 0), .int (iI 0), .null, .null, .null, .null])), (q7, .inl (g.2.1 2, 60, .inr (.inr (.inr (.inr (fun _ => none)))))), (q16, .inl (g.2.1 1, 64, .inl (fun _ => 0))), (q34, .inl (g.2.1 0, 60, .inl (fun _ => 0)))] := hD
  refine W.widen (k := 3) (n := 184) (by omega) (by omega) ?_
  refine va_putF (D := g.1) (ci := 1) (v := .ref q34) (ty := .array .int) (C := RX1) (T := TX1) (N := 8) hx hb hts hinX1 tyX1 tyX1_ok nmX1 hown hK hP hD hS 0 rfl rfl 4 (by decide) (hts (.fieldLink RX1 26 "ClashBoxes" "names" "[I") (by decide +kernel)) (fun _ h9 => h9) rfl hin rfl (by decide +kernel) rfl rfl (Nat.le_of_ble_eq_true rfl) dX1_init_36 (fun H locs hP hD hS => ?_)
  have hP : va_P g.1 vwCl [(h0, .inr (1, [.ref q7, .ref q16, .int (iI 0), .int (iI 0), .ref q34, .null, .null, .null])), (q7, .inl (g.2.1 2, 60, .inr (.inr (.inr (.inr (fun _ => none)))))), (q16, .inl (g.2.1 1, 64, .inl (fun _ => 0))), (q34, .inl (g.2.1 0, 60, .inl (fun _ => 0)))] H := hP
  have hD : va_D A [(h0, .inr (1, [.ref q7, .ref q16, .int (iI 0), .int (iI 0), .ref q34, .null, .null, .null])), (q7, .inl (g.2.1 2, 60, .inr (.inr (.inr (.inr (fun _ => none)))))), (q16, .inl (g.2.1 1, 64, .inl (fun _ => 0))), (q34, .inl (g.2.1 0, 60, .inl (fun _ => 0)))] := hD
  refine lv_aload_n hx hb dX1_init_39 rfl (lv_at hl 0 rfl) ?_
  refine li_bipush hx hb dX1_init_40 (by decide) ?_
  refine va_newa (atype := .int) (a0 := (60, .inl (fun _ => 0))) hx hb (hts (.arrayClass .int) (by decide +kernel)) rfl hK hP hD hS hA (fun _ => rfl) (by decide) (by decide) (by decide) (Nat.le_of_ble_eq_true rfl) (Nat.le_of_ble_eq_true rfl) dX1_init_42 (fun q42 cA H hK9 hP hD hS => ?_)
  have e9 : cA = g.2.1 0 := Option.some.inj ((hK9.2 4 (cA, .int) rfl).2.symm.trans (hK.2 0 (g.2.1 0, .int) rfl).2)
  subst e9
  have hP : va_P g.1 vwCl [(h0, .inr (1, [.ref q7, .ref q16, .int (iI 0), .int (iI 0), .ref q34, .null, .null, .null])), (q7, .inl (g.2.1 2, 60, .inr (.inr (.inr (.inr (fun _ => none)))))), (q16, .inl (g.2.1 1, 64, .inl (fun _ => 0))), (q34, .inl (g.2.1 0, 60, .inl (fun _ => 0))), (q42, .inl (g.2.1 0, 60, .inl (fun _ => 0)))] H := hP
  have hD : va_D A [(h0, .inr (1, [.ref q7, .ref q16, .int (iI 0), .int (iI 0), .ref q34, .null, .null, .null])), (q7, .inl (g.2.1 2, 60, .inr (.inr (.inr (.inr (fun _ => none)))))), (q16, .inl (g.2.1 1, 64, .inl (fun _ => 0))), (q34, .inl (g.2.1 0, 60, .inl (fun _ => 0))), (q42, .inl (g.2.1 0, 60, .inl (fun _ => 0)))] := hD
  refine W.widen (k := 4) (n := 244) (by omega) (by omega) ?_
  refine va_putF (D := g.1) (ci := 1) (v := .ref q42) (ty := .array .int) (C := RX1) (T := TX1) (N := 8) hx hb hts hinX1 tyX1 tyX1_ok nmX1 hown hK hP hD hS 0 rfl rfl 5 (by decide) (hts (.fieldLink RX1 30 "ClashBoxes" "sizes" "[I") (by decide +kernel)) (fun _ h9 => h9) rfl hin rfl (by decide +kernel) rfl rfl (Nat.le_of_ble_eq_true rfl) dX1_init_44 (fun H locs hP hD hS => ?_)
  have hP : va_P g.1 vwCl [(h0, .inr (1, [.ref q7, .ref q16, .int (iI 0), .int (iI 0), .ref q34, .ref q42, .null, .null])), (q7, .inl (g.2.1 2, 60, .inr (.inr (.inr (.inr (fun _ => none)))))), (q16, .inl (g.2.1 1, 64, .inl (fun _ => 0))), (q34, .inl (g.2.1 0, 60, .inl (fun _ => 0))), (q42, .inl (g.2.1 0, 60, .inl (fun _ => 0)))] H := hP
  have hD : va_D A [(h0, .inr (1, [.ref q7, .ref q16, .int (iI 0), .int (iI 0), .ref q34, .ref q42, .null, .null])), (q7, .inl (g.2.1 2, 60, .inr (.inr (.inr (.inr (fun _ => none)))))), (q16, .inl (g.2.1 1, 64, .inl (fun _ => 0))), (q34, .inl (g.2.1 0, 60, .inl (fun _ => 0))), (q42, .inl (g.2.1 0, 60, .inl (fun _ => 0)))] := hD
  refine lv_aload_n hx hb dX1_init_47 rfl (lv_at hl 0 rfl) ?_
  refine li_bipush hx hb dX1_init_48 (by decide) ?_
  refine va_newa (atype := .int) (a0 := (60, .inl (fun _ => 0))) hx hb (hts (.arrayClass .int) (by decide +kernel)) rfl hK hP hD hS hA (fun _ => rfl) (by decide) (by decide) (by decide) (Nat.le_of_ble_eq_true rfl) (Nat.le_of_ble_eq_true rfl) dX1_init_50 (fun q50 cA H hK9 hP hD hS => ?_)
  have e9 : cA = g.2.1 0 := Option.some.inj ((hK9.2 4 (cA, .int) rfl).2.symm.trans (hK.2 0 (g.2.1 0, .int) rfl).2)
  subst e9
  have hP : va_P g.1 vwCl [(h0, .inr (1, [.ref q7, .ref q16, .int (iI 0), .int (iI 0), .ref q34, .ref q42, .null, .null])), (q7, .inl (g.2.1 2, 60, .inr (.inr (.inr (.inr (fun _ => none)))))), (q16, .inl (g.2.1 1, 64, .inl (fun _ => 0))), (q34, .inl (g.2.1 0, 60, .inl (fun _ => 0))), (q42, .inl (g.2.1 0, 60, .inl (fun _ => 0))), (q50, .inl (g.2.1 0, 60, .inl (fun _ => 0)))] H := hP
  have hD : va_D A [(h0, .inr (1, [.ref q7, .ref q16, .int (iI 0), .int (iI 0), .ref q34, .ref q42, .null, .null])), (q7, .inl (g.2.1 2, 60, .inr (.inr (.inr (.inr (fun _ => none)))))), (q16, .inl (g.2.1 1, 64, .inl (fun _ => 0))), (q34, .inl (g.2.1 0, 60, .inl (fun _ => 0))), (q42, .inl (g.2.1 0, 60, .inl (fun _ => 0))), (q50, .inl (g.2.1 0, 60, .inl (fun _ => 0)))] := hD
  refine W.widen (k := 5) (n := 304) (by omega) (by omega) ?_
  refine va_putF (D := g.1) (ci := 1) (v := .ref q50) (ty := .array .int) (C := RX1) (T := TX1) (N := 8) hx hb hts hinX1 tyX1 tyX1_ok nmX1 hown hK hP hD hS 0 rfl rfl 6 (by decide) (hts (.fieldLink RX1 33 "ClashBoxes" "blockLeast" "[I") (by decide +kernel)) (fun _ h9 => h9) rfl hin rfl (by decide +kernel) rfl rfl (Nat.le_of_ble_eq_true rfl) dX1_init_52 (fun H locs hP hD hS => ?_)
  have hP : va_P g.1 vwCl [(h0, .inr (1, [.ref q7, .ref q16, .int (iI 0), .int (iI 0), .ref q34, .ref q42, .ref q50, .null])), (q7, .inl (g.2.1 2, 60, .inr (.inr (.inr (.inr (fun _ => none)))))), (q16, .inl (g.2.1 1, 64, .inl (fun _ => 0))), (q34, .inl (g.2.1 0, 60, .inl (fun _ => 0))), (q42, .inl (g.2.1 0, 60, .inl (fun _ => 0))), (q50, .inl (g.2.1 0, 60, .inl (fun _ => 0)))] H := hP
  have hD : va_D A [(h0, .inr (1, [.ref q7, .ref q16, .int (iI 0), .int (iI 0), .ref q34, .ref q42, .ref q50, .null])), (q7, .inl (g.2.1 2, 60, .inr (.inr (.inr (.inr (fun _ => none)))))), (q16, .inl (g.2.1 1, 64, .inl (fun _ => 0))), (q34, .inl (g.2.1 0, 60, .inl (fun _ => 0))), (q42, .inl (g.2.1 0, 60, .inl (fun _ => 0))), (q50, .inl (g.2.1 0, 60, .inl (fun _ => 0)))] := hD
  refine lv_aload_n hx hb dX1_init_55 rfl (lv_at hl 0 rfl) ?_
  refine li_bipush hx hb dX1_init_56 (by decide) ?_
  refine va_newa (atype := .int) (a0 := (60, .inl (fun _ => 0))) hx hb (hts (.arrayClass .int) (by decide +kernel)) rfl hK hP hD hS hA (fun _ => rfl) (by decide) (by decide) (by decide) (Nat.le_of_ble_eq_true rfl) (Nat.le_of_ble_eq_true rfl) dX1_init_58 (fun q58 cA H hK9 hP hD hS => ?_)
  have e9 : cA = g.2.1 0 := Option.some.inj ((hK9.2 4 (cA, .int) rfl).2.symm.trans (hK.2 0 (g.2.1 0, .int) rfl).2)
  subst e9
  have hP : va_P g.1 vwCl [(h0, .inr (1, [.ref q7, .ref q16, .int (iI 0), .int (iI 0), .ref q34, .ref q42, .ref q50, .null])), (q7, .inl (g.2.1 2, 60, .inr (.inr (.inr (.inr (fun _ => none)))))), (q16, .inl (g.2.1 1, 64, .inl (fun _ => 0))), (q34, .inl (g.2.1 0, 60, .inl (fun _ => 0))), (q42, .inl (g.2.1 0, 60, .inl (fun _ => 0))), (q50, .inl (g.2.1 0, 60, .inl (fun _ => 0))), (q58, .inl (g.2.1 0, 60, .inl (fun _ => 0)))] H := hP
  have hD : va_D A [(h0, .inr (1, [.ref q7, .ref q16, .int (iI 0), .int (iI 0), .ref q34, .ref q42, .ref q50, .null])), (q7, .inl (g.2.1 2, 60, .inr (.inr (.inr (.inr (fun _ => none)))))), (q16, .inl (g.2.1 1, 64, .inl (fun _ => 0))), (q34, .inl (g.2.1 0, 60, .inl (fun _ => 0))), (q42, .inl (g.2.1 0, 60, .inl (fun _ => 0))), (q50, .inl (g.2.1 0, 60, .inl (fun _ => 0))), (q58, .inl (g.2.1 0, 60, .inl (fun _ => 0)))] := hD
  refine W.widen (k := 6) (n := 364) (by omega) (by omega) ?_
  refine va_putF (D := g.1) (ci := 1) (v := .ref q58) (ty := .array .int) (C := RX1) (T := TX1) (N := 8) hx hb hts hinX1 tyX1 tyX1_ok nmX1 hown hK hP hD hS 0 rfl rfl 7 (by decide) (hts (.fieldLink RX1 36 "ClashBoxes" "blockGreatest" "[I") (by decide +kernel)) (fun _ h9 => h9) rfl hin rfl (by decide +kernel) rfl rfl (Nat.le_of_ble_eq_true rfl) dX1_init_60 (fun H locs hP hD hS => ?_)
  have hP : va_P g.1 vwCl [(h0, .inr (1, [.ref q7, .ref q16, .int (iI 0), .int (iI 0), .ref q34, .ref q42, .ref q50, .ref q58])), (q7, .inl (g.2.1 2, 60, .inr (.inr (.inr (.inr (fun _ => none)))))), (q16, .inl (g.2.1 1, 64, .inl (fun _ => 0))), (q34, .inl (g.2.1 0, 60, .inl (fun _ => 0))), (q42, .inl (g.2.1 0, 60, .inl (fun _ => 0))), (q50, .inl (g.2.1 0, 60, .inl (fun _ => 0))), (q58, .inl (g.2.1 0, 60, .inl (fun _ => 0)))] H := hP
  have hD : va_D A [(h0, .inr (1, [.ref q7, .ref q16, .int (iI 0), .int (iI 0), .ref q34, .ref q42, .ref q50, .ref q58])), (q7, .inl (g.2.1 2, 60, .inr (.inr (.inr (.inr (fun _ => none)))))), (q16, .inl (g.2.1 1, 64, .inl (fun _ => 0))), (q34, .inl (g.2.1 0, 60, .inl (fun _ => 0))), (q42, .inl (g.2.1 0, 60, .inl (fun _ => 0))), (q50, .inl (g.2.1 0, 60, .inl (fun _ => 0))), (q58, .inl (g.2.1 0, 60, .inl (fun _ => 0)))] := hD
  exact W.vret hx hb hr (fun t ht hW => ⟨⟨(fun i => if i = 1 then q7 else if i = 2 then q16 else if i = 3 then q34 else if i = 4 then q42 else if i = 5 then q50 else if i = 6 then q58 else 0), rfl, trivial, by rw [ht]; exact hP, hD⟩, hS.F ht⟩) hS.2.2 dX1_init_63 hlocks

set_option maxHeartbeats 4000000 in
set_option maxRecDepth 100000 in
theorem c_X2_init (l : Launch) (g : bxG) (h0 sz : Nat) : Met l yX2_init wsX2_init ({ frames := 1, cells := 9, slots := 784, locals := 12 }) (va_Pc [.ref h0] (fun U => U.heap.size = sz ∧ va_P g.1 vwCl [(h0, .inr (2, [.int 0, .int 0, .int 0, .null, .null, .null, .null, .null, .null, .null, .null, .null, .int 0, .int 0, .int 0]))] U.heap ∧ va_K g.1 vwCl (bx_T g) U ∧ va_D (fun _ => True) [(h0, .inr (2, [.int 0, .int 0, .int 0, .null, .null, .null, .null, .null, .null, .null, .null, .null, .int 0, .int 0, .int 0]))])) (va_Qv (fun _ : Nat → Nat => True) (fun u t => va_P g.1 vwCl [(h0, .inr (2, [.int 0, .int 0, .int 0, .ref (u 1), .ref (u 2), .ref (u 3), .ref (u 4), .ref (u 5), .ref (u 6), .ref (u 7), .ref (u 8), .ref (u 9), .int (iI (-1)), .int 0, .int 0])), ((u 1), .inl (g.2.1 1, 60, .inl (fun _ => 0))), ((u 2), .inl (g.2.1 0, 60, .inl (fun _ => 0))), ((u 3), .inl (g.2.1 0, 60, .inl (fun _ => 0))), ((u 4), .inl (g.2.1 0, 60, .inl (fun _ => 0))), ((u 5), .inl (g.2.1 0, 60, .inl (fun _ => 0))), ((u 6), .inl (g.2.1 0, 180, .inl (fun _ => 0))), ((u 7), .inl (g.2.1 0, 180, .inl (fun _ => 0))), ((u 8), .inl (g.2.1 1, 64, .inl (fun _ => 0))), ((u 9), .inl (g.2.1 0, 60, .inl (fun _ => 0)))] t.heap ∧ va_D (va_A [(h0, .inr (2, [.int 0, .int 0, .int 0, .null, .null, .null, .null, .null, .null, .null, .null, .null, .int 0, .int 0, .int 0]))] sz) [(h0, .inr (2, [.int 0, .int 0, .int 0, .ref (u 1), .ref (u 2), .ref (u 3), .ref (u 4), .ref (u 5), .ref (u 6), .ref (u 7), .ref (u 8), .ref (u 9), .int (iI (-1)), .int 0, .int 0])), ((u 1), .inl (g.2.1 1, 60, .inl (fun _ => 0))), ((u 2), .inl (g.2.1 0, 60, .inl (fun _ => 0))), ((u 3), .inl (g.2.1 0, 60, .inl (fun _ => 0))), ((u 4), .inl (g.2.1 0, 60, .inl (fun _ => 0))), ((u 5), .inl (g.2.1 0, 60, .inl (fun _ => 0))), ((u 6), .inl (g.2.1 0, 180, .inl (fun _ => 0))), ((u 7), .inl (g.2.1 0, 180, .inl (fun _ => 0))), ((u 8), .inl (g.2.1 1, 64, .inl (fun _ => 0))), ((u 9), .inl (g.2.1 0, 60, .inl (fun _ => 0)))]) (va_A [(h0, .inr (2, [.int 0, .int 0, .int 0, .null, .null, .null, .null, .null, .null, .null, .null, .null, .int 0, .int 0, .int 0]))] sz)) 9 784 (va_A [(h0, .inr (2, [.int 0, .int 0, .int 0, .null, .null, .null, .null, .null, .null, .null, .null, .null, .int 0, .int 0, .int 0]))] sz) := by
  refine Met.ofW (cc := cX2_init) (maxL := 1) (ret := none) (by decide) rfl ?_
  intro Pg Ev s mI args below meth cd s₁ B hml hv
  obtain ⟨rfl, hsz, hP, hK, hD0⟩ := hv
  have hx := B.exec
  have hb := B.bytes
  have hr := B.returns
  have hts := atoms_spec (ws := wsX2_init) B.pre
  have hown : s.vm.findClass RX2 = some mI.cls := findClass_of_methodNamed B.named
  have hlocks := B.notSynchronized
  have hin : meth.name = "<init>" := (name_of_methodNamed B.named B.method).1
  have hinX2 : ∀ w ∈ wsX20, w ∈ wsX2_init := by decide +kernel
  subst hsz
  have hD := hD0.self (sz := s.heap.size)
  generalize hAe : va_A [(h0, .inr (2, [.int 0, .int 0, .int 0, .null, .null, .null, .null, .null, .null, .null, .null, .null, .int 0, .int 0, .int 0]))] s.heap.size = A at hD ⊢
  have hA : ∀ q : Nat, s.heap.size ≤ q → A q := fun q h => by rw [← hAe]; exact Or.inr h
  have hS : va_S A s.heap s.heap [] := va_S.rf
  have hP : va_P g.1 vwCl [(h0, .inr (2, [.int 0, .int 0, .int 0, .null, .null, .null, .null, .null, .null, .null, .null, .null, .int 0, .int 0, .int 0]))] s.heap := hP
  have hl := lv_entry ([.ref h0]) (n := 1) (Nat.le_of_ble_eq_true rfl)
  rw [lg_entry_eq]
  generalize (lg_sl ([.ref h0]) ++ List.replicate (1 - (lg_sl ([.ref h0])).length) Slot.unset).toArray = ls at hl ⊢
  have hl : lv_has ls 1 [(0, .ref h0)] := hl
  refine lv_aload_n hx hb dX2_init_0 rfl (lv_at hl 0 rfl) ?_
  refine W.objInit hx hb hown (hts (.methodLink RX2 1 objectInit) (by decide +kernel)) (hts (.instanceMethod objectInit) (by decide +kernel)) (hts _ (List.mem_cons_of_mem _ (List.mem_append_left _ (List.mem_of_getElem? (i := 2) rfl)))) rfl (by rw [hml]; exact hl.1) rfl dX2_init_1 (Nat.le_of_ble_eq_true rfl) (Nat.le_of_ble_eq_true rfl) ?_
  refine W.eq (g2 := F0 mI 4 ls []) rfl ?_
  refine lv_aload_n hx hb dX2_init_4 rfl (lv_at hl 0 rfl) ?_
  refine li_bipush hx hb dX2_init_5 (by decide) ?_
  refine va_newa (atype := .boolean) (a0 := (60, .inl (fun _ => 0))) hx hb (hts (.arrayClass .boolean) (by decide +kernel)) rfl hK hP hD hS hA (fun _ => rfl) (by decide) (by decide) (by decide) (Nat.le_of_ble_eq_true rfl) (Nat.le_of_ble_eq_true rfl) dX2_init_7 (fun q7 cA H hK9 hP hD hS => ?_)
  have e9 : cA = g.2.1 1 := Option.some.inj ((hK9.2 4 (cA, .boolean) rfl).2.symm.trans (hK.2 1 (g.2.1 1, .boolean) rfl).2)
  subst e9
  have hP : va_P g.1 vwCl [(h0, .inr (2, [.int 0, .int 0, .int 0, .null, .null, .null, .null, .null, .null, .null, .null, .null, .int 0, .int 0, .int 0])), (q7, .inl (g.2.1 1, 60, .inl (fun _ => 0)))] H := hP
  have hD : va_D A [(h0, .inr (2, [.int 0, .int 0, .int 0, .null, .null, .null, .null, .null, .null, .null, .null, .null, .int 0, .int 0, .int 0])), (q7, .inl (g.2.1 1, 60, .inl (fun _ => 0)))] := hD
  refine W.widen (k := 1) (n := 60) (by omega) (by omega) ?_
  refine va_putF (D := g.1) (ci := 2) (v := .ref q7) (ty := .array .boolean) (C := RX2) (T := TX2) (N := 15) hx hb hts hinX2 tyX2 tyX2_ok nmX2 hown hK hP hD hS 0 rfl rfl 3 (by decide) (hts (.fieldLink RX2 7 "ClashBoxesModel" "isThere" "[Z") (by decide +kernel)) (fun _ h9 => h9) rfl hin rfl (by decide +kernel) rfl rfl (Nat.le_of_ble_eq_true rfl) dX2_init_9 (fun H locs hP hD hS => ?_)
  have hP : va_P g.1 vwCl [(h0, .inr (2, [.int 0, .int 0, .int 0, .ref q7, .null, .null, .null, .null, .null, .null, .null, .null, .int 0, .int 0, .int 0])), (q7, .inl (g.2.1 1, 60, .inl (fun _ => 0)))] H := hP
  have hD : va_D A [(h0, .inr (2, [.int 0, .int 0, .int 0, .ref q7, .null, .null, .null, .null, .null, .null, .null, .null, .int 0, .int 0, .int 0])), (q7, .inl (g.2.1 1, 60, .inl (fun _ => 0)))] := hD
  refine lv_aload_n hx hb dX2_init_12 rfl (lv_at hl 0 rfl) ?_
  refine li_bipush hx hb dX2_init_13 (by decide) ?_
  refine va_newa (atype := .int) (a0 := (60, .inl (fun _ => 0))) hx hb (hts (.arrayClass .int) (by decide +kernel)) rfl hK hP hD hS hA (fun _ => rfl) (by decide) (by decide) (by decide) (Nat.le_of_ble_eq_true rfl) (Nat.le_of_ble_eq_true rfl) dX2_init_15 (fun q15 cA H hK9 hP hD hS => ?_)
  have e9 : cA = g.2.1 0 := Option.some.inj ((hK9.2 4 (cA, .int) rfl).2.symm.trans (hK.2 0 (g.2.1 0, .int) rfl).2)
  subst e9
  have hP : va_P g.1 vwCl [(h0, .inr (2, [.int 0, .int 0, .int 0, .ref q7, .null, .null, .null, .null, .null, .null, .null, .null, .int 0, .int 0, .int 0])), (q7, .inl (g.2.1 1, 60, .inl (fun _ => 0))), (q15, .inl (g.2.1 0, 60, .inl (fun _ => 0)))] H := hP
  have hD : va_D A [(h0, .inr (2, [.int 0, .int 0, .int 0, .ref q7, .null, .null, .null, .null, .null, .null, .null, .null, .int 0, .int 0, .int 0])), (q7, .inl (g.2.1 1, 60, .inl (fun _ => 0))), (q15, .inl (g.2.1 0, 60, .inl (fun _ => 0)))] := hD
  refine W.widen (k := 2) (n := 120) (by omega) (by omega) ?_
  refine va_putF (D := g.1) (ci := 2) (v := .ref q15) (ty := .array .int) (C := RX2) (T := TX2) (N := 15) hx hb hts hinX2 tyX2 tyX2_ok nmX2 hown hK hP hD hS 0 rfl rfl 4 (by decide) (hts (.fieldLink RX2 13 "ClashBoxesModel" "kinds" "[I") (by decide +kernel)) (fun _ h9 => h9) rfl hin rfl (by decide +kernel) rfl rfl (Nat.le_of_ble_eq_true rfl) dX2_init_17 (fun H locs hP hD hS => ?_)
  have hP : va_P g.1 vwCl [(h0, .inr (2, [.int 0, .int 0, .int 0, .ref q7, .ref q15, .null, .null, .null, .null, .null, .null, .null, .int 0, .int 0, .int 0])), (q7, .inl (g.2.1 1, 60, .inl (fun _ => 0))), (q15, .inl (g.2.1 0, 60, .inl (fun _ => 0)))] H := hP
  have hD : va_D A [(h0, .inr (2, [.int 0, .int 0, .int 0, .ref q7, .ref q15, .null, .null, .null, .null, .null, .null, .null, .int 0, .int 0, .int 0])), (q7, .inl (g.2.1 1, 60, .inl (fun _ => 0))), (q15, .inl (g.2.1 0, 60, .inl (fun _ => 0)))] := hD
  refine lv_aload_n hx hb dX2_init_20 rfl (lv_at hl 0 rfl) ?_
  refine li_bipush hx hb dX2_init_21 (by decide) ?_
  refine va_newa (atype := .int) (a0 := (60, .inl (fun _ => 0))) hx hb (hts (.arrayClass .int) (by decide +kernel)) rfl hK hP hD hS hA (fun _ => rfl) (by decide) (by decide) (by decide) (Nat.le_of_ble_eq_true rfl) (Nat.le_of_ble_eq_true rfl) dX2_init_23 (fun q23 cA H hK9 hP hD hS => ?_)
  have e9 : cA = g.2.1 0 := Option.some.inj ((hK9.2 4 (cA, .int) rfl).2.symm.trans (hK.2 0 (g.2.1 0, .int) rfl).2)
  subst e9
  have hP : va_P g.1 vwCl [(h0, .inr (2, [.int 0, .int 0, .int 0, .ref q7, .ref q15, .null, .null, .null, .null, .null, .null, .null, .int 0, .int 0, .int 0])), (q7, .inl (g.2.1 1, 60, .inl (fun _ => 0))), (q15, .inl (g.2.1 0, 60, .inl (fun _ => 0))), (q23, .inl (g.2.1 0, 60, .inl (fun _ => 0)))] H := hP
  have hD : va_D A [(h0, .inr (2, [.int 0, .int 0, .int 0, .ref q7, .ref q15, .null, .null, .null, .null, .null, .null, .null, .int 0, .int 0, .int 0])), (q7, .inl (g.2.1 1, 60, .inl (fun _ => 0))), (q15, .inl (g.2.1 0, 60, .inl (fun _ => 0))), (q23, .inl (g.2.1 0, 60, .inl (fun _ => 0)))] := hD
  refine W.widen (k := 3) (n := 180) (by omega) (by omega) ?_
  refine va_putF (D := g.1) (ci := 2) (v := .ref q23) (ty := .array .int) (C := RX2) (T := TX2) (N := 15) hx hb hts hinX2 tyX2 tyX2_ok nmX2 hown hK hP hD hS 0 rfl rfl 5 (by decide) (hts (.fieldLink RX2 17 "ClashBoxesModel" "margins" "[I") (by decide +kernel)) (fun _ h9 => h9) rfl hin rfl (by decide +kernel) rfl rfl (Nat.le_of_ble_eq_true rfl) dX2_init_25 (fun H locs hP hD hS => ?_)
  have hP : va_P g.1 vwCl [(h0, .inr (2, [.int 0, .int 0, .int 0, .ref q7, .ref q15, .ref q23, .null, .null, .null, .null, .null, .null, .int 0, .int 0, .int 0])), (q7, .inl (g.2.1 1, 60, .inl (fun _ => 0))), (q15, .inl (g.2.1 0, 60, .inl (fun _ => 0))), (q23, .inl (g.2.1 0, 60, .inl (fun _ => 0)))] H := hP
  have hD : va_D A [(h0, .inr (2, [.int 0, .int 0, .int 0, .ref q7, .ref q15, .ref q23, .null, .null, .null, .null, .null, .null, .int 0, .int 0, .int 0])), (q7, .inl (g.2.1 1, 60, .inl (fun _ => 0))), (q15, .inl (g.2.1 0, 60, .inl (fun _ => 0))), (q23, .inl (g.2.1 0, 60, .inl (fun _ => 0)))] := hD
  refine lv_aload_n hx hb dX2_init_28 rfl (lv_at hl 0 rfl) ?_
  refine li_bipush hx hb dX2_init_29 (by decide) ?_
  refine va_newa (atype := .int) (a0 := (60, .inl (fun _ => 0))) hx hb (hts (.arrayClass .int) (by decide +kernel)) rfl hK hP hD hS hA (fun _ => rfl) (by decide) (by decide) (by decide) (Nat.le_of_ble_eq_true rfl) (Nat.le_of_ble_eq_true rfl) dX2_init_31 (fun q31 cA H hK9 hP hD hS => ?_)
  have e9 : cA = g.2.1 0 := Option.some.inj ((hK9.2 4 (cA, .int) rfl).2.symm.trans (hK.2 0 (g.2.1 0, .int) rfl).2)
  subst e9
  have hP : va_P g.1 vwCl [(h0, .inr (2, [.int 0, .int 0, .int 0, .ref q7, .ref q15, .ref q23, .null, .null, .null, .null, .null, .null, .int 0, .int 0, .int 0])), (q7, .inl (g.2.1 1, 60, .inl (fun _ => 0))), (q15, .inl (g.2.1 0, 60, .inl (fun _ => 0))), (q23, .inl (g.2.1 0, 60, .inl (fun _ => 0))), (q31, .inl (g.2.1 0, 60, .inl (fun _ => 0)))] H := hP
  have hD : va_D A [(h0, .inr (2, [.int 0, .int 0, .int 0, .ref q7, .ref q15, .ref q23, .null, .null, .null, .null, .null, .null, .int 0, .int 0, .int 0])), (q7, .inl (g.2.1 1, 60, .inl (fun _ => 0))), (q15, .inl (g.2.1 0, 60, .inl (fun _ => 0))), (q23, .inl (g.2.1 0, 60, .inl (fun _ => 0))), (q31, .inl (g.2.1 0, 60, .inl (fun _ => 0)))] := hD
  refine W.widen (k := 4) (n := 240) (by omega) (by omega) ?_
  refine va_putF (D := g.1) (ci := 2) (v := .ref q31) (ty := .array .int) (C := RX2) (T := TX2) (N := 15) hx hb hts hinX2 tyX2 tyX2_ok nmX2 hown hK hP hD hS 0 rfl rfl 6 (by decide) (hts (.fieldLink RX2 20 "ClashBoxesModel" "axes" "[I") (by decide +kernel)) (fun _ h9 => h9) rfl hin rfl (by decide +kernel) rfl rfl (Nat.le_of_ble_eq_true rfl) dX2_init_33 (fun H locs hP hD hS => ?_)
  have hP : va_P g.1 vwCl [(h0, .inr (2, [.int 0, .int 0, .int 0, .ref q7, .ref q15, .ref q23, .ref q31, .null, .null, .null, .null, .null, .int 0, .int 0, .int 0])), (q7, .inl (g.2.1 1, 60, .inl (fun _ => 0))), (q15, .inl (g.2.1 0, 60, .inl (fun _ => 0))), (q23, .inl (g.2.1 0, 60, .inl (fun _ => 0))), (q31, .inl (g.2.1 0, 60, .inl (fun _ => 0)))] H := hP
  have hD : va_D A [(h0, .inr (2, [.int 0, .int 0, .int 0, .ref q7, .ref q15, .ref q23, .ref q31, .null, .null, .null, .null, .null, .int 0, .int 0, .int 0])), (q7, .inl (g.2.1 1, 60, .inl (fun _ => 0))), (q15, .inl (g.2.1 0, 60, .inl (fun _ => 0))), (q23, .inl (g.2.1 0, 60, .inl (fun _ => 0))), (q31, .inl (g.2.1 0, 60, .inl (fun _ => 0)))] := hD
  refine lv_aload_n hx hb dX2_init_36 rfl (lv_at hl 0 rfl) ?_
  refine li_bipush hx hb dX2_init_37 (by decide) ?_
  refine va_newa (atype := .int) (a0 := (60, .inl (fun _ => 0))) hx hb (hts (.arrayClass .int) (by decide +kernel)) rfl hK hP hD hS hA (fun _ => rfl) (by decide) (by decide) (by decide) (Nat.le_of_ble_eq_true rfl) (Nat.le_of_ble_eq_true rfl) dX2_init_39 (fun q39 cA H hK9 hP hD hS => ?_)
  have e9 : cA = g.2.1 0 := Option.some.inj ((hK9.2 4 (cA, .int) rfl).2.symm.trans (hK.2 0 (g.2.1 0, .int) rfl).2)
  subst e9
  have hP : va_P g.1 vwCl [(h0, .inr (2, [.int 0, .int 0, .int 0, .ref q7, .ref q15, .ref q23, .ref q31, .null, .null, .null, .null, .null, .int 0, .int 0, .int 0])), (q7, .inl (g.2.1 1, 60, .inl (fun _ => 0))), (q15, .inl (g.2.1 0, 60, .inl (fun _ => 0))), (q23, .inl (g.2.1 0, 60, .inl (fun _ => 0))), (q31, .inl (g.2.1 0, 60, .inl (fun _ => 0))), (q39, .inl (g.2.1 0, 60, .inl (fun _ => 0)))] H := hP
  have hD : va_D A [(h0, .inr (2, [.int 0, .int 0, .int 0, .ref q7, .ref q15, .ref q23, .ref q31, .null, .null, .null, .null, .null, .int 0, .int 0, .int 0])), (q7, .inl (g.2.1 1, 60, .inl (fun _ => 0))), (q15, .inl (g.2.1 0, 60, .inl (fun _ => 0))), (q23, .inl (g.2.1 0, 60, .inl (fun _ => 0))), (q31, .inl (g.2.1 0, 60, .inl (fun _ => 0))), (q39, .inl (g.2.1 0, 60, .inl (fun _ => 0)))] := hD
  refine W.widen (k := 5) (n := 300) (by omega) (by omega) ?_
  refine va_putF (D := g.1) (ci := 2) (v := .ref q39) (ty := .array .int) (C := RX2) (T := TX2) (N := 15) hx hb hts hinX2 tyX2 tyX2_ok nmX2 hown hK hP hD hS 0 rfl rfl 7 (by decide) (hts (.fieldLink RX2 23 "ClashBoxesModel" "radii" "[I") (by decide +kernel)) (fun _ h9 => h9) rfl hin rfl (by decide +kernel) rfl rfl (Nat.le_of_ble_eq_true rfl) dX2_init_41 (fun H locs hP hD hS => ?_)
  have hP : va_P g.1 vwCl [(h0, .inr (2, [.int 0, .int 0, .int 0, .ref q7, .ref q15, .ref q23, .ref q31, .ref q39, .null, .null, .null, .null, .int 0, .int 0, .int 0])), (q7, .inl (g.2.1 1, 60, .inl (fun _ => 0))), (q15, .inl (g.2.1 0, 60, .inl (fun _ => 0))), (q23, .inl (g.2.1 0, 60, .inl (fun _ => 0))), (q31, .inl (g.2.1 0, 60, .inl (fun _ => 0))), (q39, .inl (g.2.1 0, 60, .inl (fun _ => 0)))] H := hP
  have hD : va_D A [(h0, .inr (2, [.int 0, .int 0, .int 0, .ref q7, .ref q15, .ref q23, .ref q31, .ref q39, .null, .null, .null, .null, .int 0, .int 0, .int 0])), (q7, .inl (g.2.1 1, 60, .inl (fun _ => 0))), (q15, .inl (g.2.1 0, 60, .inl (fun _ => 0))), (q23, .inl (g.2.1 0, 60, .inl (fun _ => 0))), (q31, .inl (g.2.1 0, 60, .inl (fun _ => 0))), (q39, .inl (g.2.1 0, 60, .inl (fun _ => 0)))] := hD
  refine lv_aload_n hx hb dX2_init_44 rfl (lv_at hl 0 rfl) ?_
  refine li_sipush hx hb dX2_init_45 (by decide) ?_
  refine va_newa (atype := .int) (a0 := (180, .inl (fun _ => 0))) hx hb (hts (.arrayClass .int) (by decide +kernel)) rfl hK hP hD hS hA (fun _ => rfl) (by decide) (by decide) (by decide) (Nat.le_of_ble_eq_true rfl) (Nat.le_of_ble_eq_true rfl) dX2_init_48 (fun q48 cA H hK9 hP hD hS => ?_)
  have e9 : cA = g.2.1 0 := Option.some.inj ((hK9.2 4 (cA, .int) rfl).2.symm.trans (hK.2 0 (g.2.1 0, .int) rfl).2)
  subst e9
  have hP : va_P g.1 vwCl [(h0, .inr (2, [.int 0, .int 0, .int 0, .ref q7, .ref q15, .ref q23, .ref q31, .ref q39, .null, .null, .null, .null, .int 0, .int 0, .int 0])), (q7, .inl (g.2.1 1, 60, .inl (fun _ => 0))), (q15, .inl (g.2.1 0, 60, .inl (fun _ => 0))), (q23, .inl (g.2.1 0, 60, .inl (fun _ => 0))), (q31, .inl (g.2.1 0, 60, .inl (fun _ => 0))), (q39, .inl (g.2.1 0, 60, .inl (fun _ => 0))), (q48, .inl (g.2.1 0, 180, .inl (fun _ => 0)))] H := hP
  have hD : va_D A [(h0, .inr (2, [.int 0, .int 0, .int 0, .ref q7, .ref q15, .ref q23, .ref q31, .ref q39, .null, .null, .null, .null, .int 0, .int 0, .int 0])), (q7, .inl (g.2.1 1, 60, .inl (fun _ => 0))), (q15, .inl (g.2.1 0, 60, .inl (fun _ => 0))), (q23, .inl (g.2.1 0, 60, .inl (fun _ => 0))), (q31, .inl (g.2.1 0, 60, .inl (fun _ => 0))), (q39, .inl (g.2.1 0, 60, .inl (fun _ => 0))), (q48, .inl (g.2.1 0, 180, .inl (fun _ => 0)))] := hD
  refine W.widen (k := 6) (n := 480) (by omega) (by omega) ?_
  refine va_putF (D := g.1) (ci := 2) (v := .ref q48) (ty := .array .int) (C := RX2) (T := TX2) (N := 15) hx hb hts hinX2 tyX2 tyX2_ok nmX2 hown hK hP hD hS 0 rfl rfl 8 (by decide) (hts (.fieldLink RX2 26 "ClashBoxesModel" "lows" "[I") (by decide +kernel)) (fun _ h9 => h9) rfl hin rfl (by decide +kernel) rfl rfl (Nat.le_of_ble_eq_true rfl) dX2_init_50 (fun H locs hP hD hS => ?_)
  have hP : va_P g.1 vwCl [(h0, .inr (2, [.int 0, .int 0, .int 0, .ref q7, .ref q15, .ref q23, .ref q31, .ref q39, .ref q48, .null, .null, .null, .int 0, .int 0, .int 0])), (q7, .inl (g.2.1 1, 60, .inl (fun _ => 0))), (q15, .inl (g.2.1 0, 60, .inl (fun _ => 0))), (q23, .inl (g.2.1 0, 60, .inl (fun _ => 0))), (q31, .inl (g.2.1 0, 60, .inl (fun _ => 0))), (q39, .inl (g.2.1 0, 60, .inl (fun _ => 0))), (q48, .inl (g.2.1 0, 180, .inl (fun _ => 0)))] H := hP
  have hD : va_D A [(h0, .inr (2, [.int 0, .int 0, .int 0, .ref q7, .ref q15, .ref q23, .ref q31, .ref q39, .ref q48, .null, .null, .null, .int 0, .int 0, .int 0])), (q7, .inl (g.2.1 1, 60, .inl (fun _ => 0))), (q15, .inl (g.2.1 0, 60, .inl (fun _ => 0))), (q23, .inl (g.2.1 0, 60, .inl (fun _ => 0))), (q31, .inl (g.2.1 0, 60, .inl (fun _ => 0))), (q39, .inl (g.2.1 0, 60, .inl (fun _ => 0))), (q48, .inl (g.2.1 0, 180, .inl (fun _ => 0)))] := hD
  refine lv_aload_n hx hb dX2_init_53 rfl (lv_at hl 0 rfl) ?_
  refine li_sipush hx hb dX2_init_54 (by decide) ?_
  refine va_newa (atype := .int) (a0 := (180, .inl (fun _ => 0))) hx hb (hts (.arrayClass .int) (by decide +kernel)) rfl hK hP hD hS hA (fun _ => rfl) (by decide) (by decide) (by decide) (Nat.le_of_ble_eq_true rfl) (Nat.le_of_ble_eq_true rfl) dX2_init_57 (fun q57 cA H hK9 hP hD hS => ?_)
  have e9 : cA = g.2.1 0 := Option.some.inj ((hK9.2 4 (cA, .int) rfl).2.symm.trans (hK.2 0 (g.2.1 0, .int) rfl).2)
  subst e9
  have hP : va_P g.1 vwCl [(h0, .inr (2, [.int 0, .int 0, .int 0, .ref q7, .ref q15, .ref q23, .ref q31, .ref q39, .ref q48, .null, .null, .null, .int 0, .int 0, .int 0])), (q7, .inl (g.2.1 1, 60, .inl (fun _ => 0))), (q15, .inl (g.2.1 0, 60, .inl (fun _ => 0))), (q23, .inl (g.2.1 0, 60, .inl (fun _ => 0))), (q31, .inl (g.2.1 0, 60, .inl (fun _ => 0))), (q39, .inl (g.2.1 0, 60, .inl (fun _ => 0))), (q48, .inl (g.2.1 0, 180, .inl (fun _ => 0))), (q57, .inl (g.2.1 0, 180, .inl (fun _ => 0)))] H := hP
  have hD : va_D A [(h0, .inr (2, [.int 0, .int 0, .int 0, .ref q7, .ref q15, .ref q23, .ref q31, .ref q39, .ref q48, .null, .null, .null, .int 0, .int 0, .int 0])), (q7, .inl (g.2.1 1, 60, .inl (fun _ => 0))), (q15, .inl (g.2.1 0, 60, .inl (fun _ => 0))), (q23, .inl (g.2.1 0, 60, .inl (fun _ => 0))), (q31, .inl (g.2.1 0, 60, .inl (fun _ => 0))), (q39, .inl (g.2.1 0, 60, .inl (fun _ => 0))), (q48, .inl (g.2.1 0, 180, .inl (fun _ => 0))), (q57, .inl (g.2.1 0, 180, .inl (fun _ => 0)))] := hD
  refine W.widen (k := 7) (n := 660) (by omega) (by omega) ?_
  refine va_putF (D := g.1) (ci := 2) (v := .ref q57) (ty := .array .int) (C := RX2) (T := TX2) (N := 15) hx hb hts hinX2 tyX2 tyX2_ok nmX2 hown hK hP hD hS 0 rfl rfl 9 (by decide) (hts (.fieldLink RX2 29 "ClashBoxesModel" "highs" "[I") (by decide +kernel)) (fun _ h9 => h9) rfl hin rfl (by decide +kernel) rfl rfl (Nat.le_of_ble_eq_true rfl) dX2_init_59 (fun H locs hP hD hS => ?_)
  have hP : va_P g.1 vwCl [(h0, .inr (2, [.int 0, .int 0, .int 0, .ref q7, .ref q15, .ref q23, .ref q31, .ref q39, .ref q48, .ref q57, .null, .null, .int 0, .int 0, .int 0])), (q7, .inl (g.2.1 1, 60, .inl (fun _ => 0))), (q15, .inl (g.2.1 0, 60, .inl (fun _ => 0))), (q23, .inl (g.2.1 0, 60, .inl (fun _ => 0))), (q31, .inl (g.2.1 0, 60, .inl (fun _ => 0))), (q39, .inl (g.2.1 0, 60, .inl (fun _ => 0))), (q48, .inl (g.2.1 0, 180, .inl (fun _ => 0))), (q57, .inl (g.2.1 0, 180, .inl (fun _ => 0)))] H := hP
  have hD : va_D A [(h0, .inr (2, [.int 0, .int 0, .int 0, .ref q7, .ref q15, .ref q23, .ref q31, .ref q39, .ref q48, .ref q57, .null, .null, .int 0, .int 0, .int 0])), (q7, .inl (g.2.1 1, 60, .inl (fun _ => 0))), (q15, .inl (g.2.1 0, 60, .inl (fun _ => 0))), (q23, .inl (g.2.1 0, 60, .inl (fun _ => 0))), (q31, .inl (g.2.1 0, 60, .inl (fun _ => 0))), (q39, .inl (g.2.1 0, 60, .inl (fun _ => 0))), (q48, .inl (g.2.1 0, 180, .inl (fun _ => 0))), (q57, .inl (g.2.1 0, 180, .inl (fun _ => 0)))] := hD
  refine lv_aload_n hx hb dX2_init_62 rfl (lv_at hl 0 rfl) ?_
  refine li_bipush hx hb dX2_init_63 (by decide) ?_
  refine va_newa (atype := .boolean) (a0 := (64, .inl (fun _ => 0))) hx hb (hts (.arrayClass .boolean) (by decide +kernel)) rfl hK hP hD hS hA (fun _ => rfl) (by decide) (by decide) (by decide) (Nat.le_of_ble_eq_true rfl) (Nat.le_of_ble_eq_true rfl) dX2_init_65 (fun q65 cA H hK9 hP hD hS => ?_)
  have e9 : cA = g.2.1 1 := Option.some.inj ((hK9.2 4 (cA, .boolean) rfl).2.symm.trans (hK.2 1 (g.2.1 1, .boolean) rfl).2)
  subst e9
  have hP : va_P g.1 vwCl [(h0, .inr (2, [.int 0, .int 0, .int 0, .ref q7, .ref q15, .ref q23, .ref q31, .ref q39, .ref q48, .ref q57, .null, .null, .int 0, .int 0, .int 0])), (q7, .inl (g.2.1 1, 60, .inl (fun _ => 0))), (q15, .inl (g.2.1 0, 60, .inl (fun _ => 0))), (q23, .inl (g.2.1 0, 60, .inl (fun _ => 0))), (q31, .inl (g.2.1 0, 60, .inl (fun _ => 0))), (q39, .inl (g.2.1 0, 60, .inl (fun _ => 0))), (q48, .inl (g.2.1 0, 180, .inl (fun _ => 0))), (q57, .inl (g.2.1 0, 180, .inl (fun _ => 0))), (q65, .inl (g.2.1 1, 64, .inl (fun _ => 0)))] H := hP
  have hD : va_D A [(h0, .inr (2, [.int 0, .int 0, .int 0, .ref q7, .ref q15, .ref q23, .ref q31, .ref q39, .ref q48, .ref q57, .null, .null, .int 0, .int 0, .int 0])), (q7, .inl (g.2.1 1, 60, .inl (fun _ => 0))), (q15, .inl (g.2.1 0, 60, .inl (fun _ => 0))), (q23, .inl (g.2.1 0, 60, .inl (fun _ => 0))), (q31, .inl (g.2.1 0, 60, .inl (fun _ => 0))), (q39, .inl (g.2.1 0, 60, .inl (fun _ => 0))), (q48, .inl (g.2.1 0, 180, .inl (fun _ => 0))), (q57, .inl (g.2.1 0, 180, .inl (fun _ => 0))), (q65, .inl (g.2.1 1, 64, .inl (fun _ => 0)))] := hD
  refine W.widen (k := 8) (n := 724) (by omega) (by omega) ?_
  refine va_putF (D := g.1) (ci := 2) (v := .ref q65) (ty := .array .boolean) (C := RX2) (T := TX2) (N := 15) hx hb hts hinX2 tyX2 tyX2_ok nmX2 hown hK hP hD hS 0 rfl rfl 10 (by decide) (hts (.fieldLink RX2 32 "ClashBoxesModel" "areFree" "[Z") (by decide +kernel)) (fun _ h9 => h9) rfl hin rfl (by decide +kernel) rfl rfl (Nat.le_of_ble_eq_true rfl) dX2_init_67 (fun H locs hP hD hS => ?_)
  have hP : va_P g.1 vwCl [(h0, .inr (2, [.int 0, .int 0, .int 0, .ref q7, .ref q15, .ref q23, .ref q31, .ref q39, .ref q48, .ref q57, .ref q65, .null, .int 0, .int 0, .int 0])), (q7, .inl (g.2.1 1, 60, .inl (fun _ => 0))), (q15, .inl (g.2.1 0, 60, .inl (fun _ => 0))), (q23, .inl (g.2.1 0, 60, .inl (fun _ => 0))), (q31, .inl (g.2.1 0, 60, .inl (fun _ => 0))), (q39, .inl (g.2.1 0, 60, .inl (fun _ => 0))), (q48, .inl (g.2.1 0, 180, .inl (fun _ => 0))), (q57, .inl (g.2.1 0, 180, .inl (fun _ => 0))), (q65, .inl (g.2.1 1, 64, .inl (fun _ => 0)))] H := hP
  have hD : va_D A [(h0, .inr (2, [.int 0, .int 0, .int 0, .ref q7, .ref q15, .ref q23, .ref q31, .ref q39, .ref q48, .ref q57, .ref q65, .null, .int 0, .int 0, .int 0])), (q7, .inl (g.2.1 1, 60, .inl (fun _ => 0))), (q15, .inl (g.2.1 0, 60, .inl (fun _ => 0))), (q23, .inl (g.2.1 0, 60, .inl (fun _ => 0))), (q31, .inl (g.2.1 0, 60, .inl (fun _ => 0))), (q39, .inl (g.2.1 0, 60, .inl (fun _ => 0))), (q48, .inl (g.2.1 0, 180, .inl (fun _ => 0))), (q57, .inl (g.2.1 0, 180, .inl (fun _ => 0))), (q65, .inl (g.2.1 1, 64, .inl (fun _ => 0)))] := hD
  refine lv_aload_n hx hb dX2_init_70 rfl (lv_at hl 0 rfl) ?_
  refine li_bipush hx hb dX2_init_71 (by decide) ?_
  refine va_newa (atype := .int) (a0 := (60, .inl (fun _ => 0))) hx hb (hts (.arrayClass .int) (by decide +kernel)) rfl hK hP hD hS hA (fun _ => rfl) (by decide) (by decide) (by decide) (Nat.le_of_ble_eq_true rfl) (Nat.le_of_ble_eq_true rfl) dX2_init_73 (fun q73 cA H hK9 hP hD hS => ?_)
  have e9 : cA = g.2.1 0 := Option.some.inj ((hK9.2 4 (cA, .int) rfl).2.symm.trans (hK.2 0 (g.2.1 0, .int) rfl).2)
  subst e9
  have hP : va_P g.1 vwCl [(h0, .inr (2, [.int 0, .int 0, .int 0, .ref q7, .ref q15, .ref q23, .ref q31, .ref q39, .ref q48, .ref q57, .ref q65, .null, .int 0, .int 0, .int 0])), (q7, .inl (g.2.1 1, 60, .inl (fun _ => 0))), (q15, .inl (g.2.1 0, 60, .inl (fun _ => 0))), (q23, .inl (g.2.1 0, 60, .inl (fun _ => 0))), (q31, .inl (g.2.1 0, 60, .inl (fun _ => 0))), (q39, .inl (g.2.1 0, 60, .inl (fun _ => 0))), (q48, .inl (g.2.1 0, 180, .inl (fun _ => 0))), (q57, .inl (g.2.1 0, 180, .inl (fun _ => 0))), (q65, .inl (g.2.1 1, 64, .inl (fun _ => 0))), (q73, .inl (g.2.1 0, 60, .inl (fun _ => 0)))] H := hP
  have hD : va_D A [(h0, .inr (2, [.int 0, .int 0, .int 0, .ref q7, .ref q15, .ref q23, .ref q31, .ref q39, .ref q48, .ref q57, .ref q65, .null, .int 0, .int 0, .int 0])), (q7, .inl (g.2.1 1, 60, .inl (fun _ => 0))), (q15, .inl (g.2.1 0, 60, .inl (fun _ => 0))), (q23, .inl (g.2.1 0, 60, .inl (fun _ => 0))), (q31, .inl (g.2.1 0, 60, .inl (fun _ => 0))), (q39, .inl (g.2.1 0, 60, .inl (fun _ => 0))), (q48, .inl (g.2.1 0, 180, .inl (fun _ => 0))), (q57, .inl (g.2.1 0, 180, .inl (fun _ => 0))), (q65, .inl (g.2.1 1, 64, .inl (fun _ => 0))), (q73, .inl (g.2.1 0, 60, .inl (fun _ => 0)))] := hD
  refine W.widen (k := 9) (n := 784) (by omega) (by omega) ?_
  refine va_putF (D := g.1) (ci := 2) (v := .ref q73) (ty := .array .int) (C := RX2) (T := TX2) (N := 15) hx hb hts hinX2 tyX2 tyX2_ok nmX2 hown hK hP hD hS 0 rfl rfl 11 (by decide) (hts (.fieldLink RX2 35 "ClashBoxesModel" "groups" "[I") (by decide +kernel)) (fun _ h9 => h9) rfl hin rfl (by decide +kernel) rfl rfl (Nat.le_of_ble_eq_true rfl) dX2_init_75 (fun H locs hP hD hS => ?_)
  have hP : va_P g.1 vwCl [(h0, .inr (2, [.int 0, .int 0, .int 0, .ref q7, .ref q15, .ref q23, .ref q31, .ref q39, .ref q48, .ref q57, .ref q65, .ref q73, .int 0, .int 0, .int 0])), (q7, .inl (g.2.1 1, 60, .inl (fun _ => 0))), (q15, .inl (g.2.1 0, 60, .inl (fun _ => 0))), (q23, .inl (g.2.1 0, 60, .inl (fun _ => 0))), (q31, .inl (g.2.1 0, 60, .inl (fun _ => 0))), (q39, .inl (g.2.1 0, 60, .inl (fun _ => 0))), (q48, .inl (g.2.1 0, 180, .inl (fun _ => 0))), (q57, .inl (g.2.1 0, 180, .inl (fun _ => 0))), (q65, .inl (g.2.1 1, 64, .inl (fun _ => 0))), (q73, .inl (g.2.1 0, 60, .inl (fun _ => 0)))] H := hP
  have hD : va_D A [(h0, .inr (2, [.int 0, .int 0, .int 0, .ref q7, .ref q15, .ref q23, .ref q31, .ref q39, .ref q48, .ref q57, .ref q65, .ref q73, .int 0, .int 0, .int 0])), (q7, .inl (g.2.1 1, 60, .inl (fun _ => 0))), (q15, .inl (g.2.1 0, 60, .inl (fun _ => 0))), (q23, .inl (g.2.1 0, 60, .inl (fun _ => 0))), (q31, .inl (g.2.1 0, 60, .inl (fun _ => 0))), (q39, .inl (g.2.1 0, 60, .inl (fun _ => 0))), (q48, .inl (g.2.1 0, 180, .inl (fun _ => 0))), (q57, .inl (g.2.1 0, 180, .inl (fun _ => 0))), (q65, .inl (g.2.1 1, 64, .inl (fun _ => 0))), (q73, .inl (g.2.1 0, 60, .inl (fun _ => 0)))] := hD
  refine lv_aload_n hx hb dX2_init_78 rfl (lv_at hl 0 rfl) ?_
  refine li_iconst hx hb dX2_init_79 ?_
  refine va_put (D := g.1) (ci := 2) (v := .int (iI (-1))) (ty := .int) (C := RX2) (T := TX2) (N := 15) hx hb hts hinX2 tyX2 tyX2_ok nmX2 hown hK hP hD hS 0 rfl rfl 12 (by decide) (hts (.fieldLink RX2 38 "ClashBoxesModel" "movedPart" "I") (by decide +kernel)) (fun _ h9 => h9) rfl (by decide +kernel) rfl rfl (Nat.le_of_ble_eq_true rfl) dX2_init_80 (fun H locs hP hD hS => ?_)
  have hP : va_P g.1 vwCl [(h0, .inr (2, [.int 0, .int 0, .int 0, .ref q7, .ref q15, .ref q23, .ref q31, .ref q39, .ref q48, .ref q57, .ref q65, .ref q73, .int (iI (-1)), .int 0, .int 0])), (q7, .inl (g.2.1 1, 60, .inl (fun _ => 0))), (q15, .inl (g.2.1 0, 60, .inl (fun _ => 0))), (q23, .inl (g.2.1 0, 60, .inl (fun _ => 0))), (q31, .inl (g.2.1 0, 60, .inl (fun _ => 0))), (q39, .inl (g.2.1 0, 60, .inl (fun _ => 0))), (q48, .inl (g.2.1 0, 180, .inl (fun _ => 0))), (q57, .inl (g.2.1 0, 180, .inl (fun _ => 0))), (q65, .inl (g.2.1 1, 64, .inl (fun _ => 0))), (q73, .inl (g.2.1 0, 60, .inl (fun _ => 0)))] H := hP
  have hD : va_D A [(h0, .inr (2, [.int 0, .int 0, .int 0, .ref q7, .ref q15, .ref q23, .ref q31, .ref q39, .ref q48, .ref q57, .ref q65, .ref q73, .int (iI (-1)), .int 0, .int 0])), (q7, .inl (g.2.1 1, 60, .inl (fun _ => 0))), (q15, .inl (g.2.1 0, 60, .inl (fun _ => 0))), (q23, .inl (g.2.1 0, 60, .inl (fun _ => 0))), (q31, .inl (g.2.1 0, 60, .inl (fun _ => 0))), (q39, .inl (g.2.1 0, 60, .inl (fun _ => 0))), (q48, .inl (g.2.1 0, 180, .inl (fun _ => 0))), (q57, .inl (g.2.1 0, 180, .inl (fun _ => 0))), (q65, .inl (g.2.1 1, 64, .inl (fun _ => 0))), (q73, .inl (g.2.1 0, 60, .inl (fun _ => 0)))] := hD
  exact W.vret hx hb hr (fun t ht hW => ⟨⟨(fun i => if i = 1 then q7 else if i = 2 then q15 else if i = 3 then q23 else if i = 4 then q31 else if i = 5 then q39 else if i = 6 then q48 else if i = 7 then q57 else if i = 8 then q65 else if i = 9 then q73 else 0), rfl, trivial, by rw [ht]; exact hP, hD⟩, hS.F ht⟩) hS.2.2 dX2_init_83 hlocks

set_option maxHeartbeats 4000000 in
set_option maxRecDepth 100000 in
theorem c_X0_setCore_n (l : Launch) (g : bxG) (ad : bxA) (σ τ : bxS) (w : bxW) (p a f t : Int) (hpp : 0 ≤ p ∧ p < 60 ∧ σ 14 p 0 ≠ 0) (hxa : 0 ≤ a ∧ a < 3) : Met l yX0_setCore wsX0_setCore ({ frames := 0, cells := 0, slots := 0, locals := 0 }) (va_Pc [.ref (ad 20 p), .int (iI a), .int (iI f), .int (iI t)] (fun U => bx_I g ad σ τ w U)) (bq_W none g ad (up3 (up3 σ 7 p a f) 8 p a t) τ w) 0 0 (bq_fr g) := by
  refine Met.ofW (cc := cX0_setCore) (maxL := 4) (ret := none) (by decide) rfl ?_
  intro Pg Ev s mI args below meth cd s₁ B hml hv
  obtain ⟨rfl, hU, hK⟩ := hv
  have hx := B.exec
  have hb := B.bytes
  have hr := B.returns
  have hts := atoms_spec (ws := wsX0_setCore) B.pre
  have hown : s.vm.findClass RX0 = some mI.cls := findClass_of_methodNamed B.named
  have hlocks := B.notSynchronized
  have hF : bx_F g s.heap s.heap := bx_F.rf
  have hlc : bx_Lc g [] := bx_Lc.nil
  have hl := lv_entry ([.ref (ad 20 p), .int (iI a), .int (iI f), .int (iI t)]) (n := 4) (Nat.le_of_ble_eq_true rfl)
  rw [lg_entry_eq]
  generalize (lg_sl ([.ref (ad 20 p), .int (iI a), .int (iI f), .int (iI t)]) ++ List.replicate (4 - (lg_sl ([.ref (ad 20 p), .int (iI a), .int (iI f), .int (iI t)])).length) Slot.unset).toArray = ls at hl ⊢
  have hl : lv_has ls 4 [(0, .ref (ad 20 p)), (1, .int (iI a)), (2, .int (iI f)), (3, .int (iI t))] := hl
  have hinX0 : ∀ w ∈ wsX00, w ∈ wsX0_setCore := by decide +kernel
  refine lv_aload_n hx hb dX0_setCore_0 rfl (lv_at hl 0 rfl) ?_
  refine bg_X0_least_n hx hb hts hinX0 hown hK hU hpp (hts (.fieldLink RX0 9 "ClashBoxes$Part" "least" "[I") (by decide +kernel)) dX0_setCore_1 ?_
  refine lv_iload_n hx hb dX0_setCore_4 rfl (lv_at hl 1 rfl) ?_
  refine lv_iload_n hx hb dX0_setCore_5 rfl (lv_at hl 2 rfl) ?_
  refine bs_21_n hx hb hK hU hlc hpp (by omega) (by omega) dX0_setCore_6 (fun H locs hU hF1 hlc => ?_)
  have hF := hF.tr hF1
  refine lv_aload_n hx hb dX0_setCore_7 rfl (lv_at hl 0 rfl) ?_
  refine bg_X0_greatest_n hx hb hts hinX0 hown hK hU hpp (hts (.fieldLink RX0 15 "ClashBoxes$Part" "greatest" "[I") (by decide +kernel)) dX0_setCore_8 ?_
  refine lv_iload_n hx hb dX0_setCore_11 rfl (lv_at hl 1 rfl) ?_
  refine lv_iload_n hx hb dX0_setCore_12 rfl (lv_at hl 3 rfl) ?_
  refine bs_22_n hx hb hK hU hlc hpp (by omega) (by omega) dX0_setCore_13 (fun H locs hU hF1 hlc => ?_)
  have hF := hF.tr hF1
  exact bw_n hx hb hr hlocks (by first | exact hU | simpa using hU) hF hlc dX0_setCore_14


set_option maxHeartbeats 4000000 in
set_option maxRecDepth 100000 in
theorem c_X1_add (l : Launch) (g : bxG) (ad : bxA) (σ τ : bxS) (w : bxW) (p : Int) (hpp : 0 ≤ p ∧ p < 60 ∧ σ 14 p 0 ≠ 0) (hm : σ 0 0 0 = p) : Met l yX1_add wsX1_add ({ frames := 0, cells := 0, slots := 0, locals := 0 }) (va_Pc [.ref (ad 0 0), .ref (ad 20 p)] (fun U => bx_I g ad σ τ w U)) (bq_W (some (.int (iI (σ 0 0 0)))) g ad (up3 (up3 (up3 σ 2 (σ 0 0 0) 0 1) 0 0 0 (σ 0 0 0 + 1)) 1 0 0 (σ 1 0 0 + 1)) τ w) 0 0 (bq_fr g) := by
  subst hm
  refine Met.ofW (cc := cX1_add) (maxL := 3) (ret := (some .int)) (by decide) rfl ?_
  intro Pg Ev s mI args below meth cd s₁ B hml hv
  obtain ⟨rfl, hU, hK⟩ := hv
  have hx := B.exec
  have hb := B.bytes
  have hr := B.returns
  have hts := atoms_spec (ws := wsX1_add) B.pre
  have hown : s.vm.findClass RX1 = some mI.cls := findClass_of_methodNamed B.named
  have hlocks := B.notSynchronized
  have hF : bx_F g s.heap s.heap := bx_F.rf
  have hlc : bx_Lc g [] := bx_Lc.nil
  have hl := lv_entry ([.ref (ad 0 0), .ref (ad 20 (σ 0 0 0))]) (n := 3) (Nat.le_of_ble_eq_true rfl)
  rw [lg_entry_eq]
  generalize (lg_sl ([.ref (ad 0 0), .ref (ad 20 (σ 0 0 0))]) ++ List.replicate (3 - (lg_sl ([.ref (ad 0 0), .ref (ad 20 (σ 0 0 0))])).length) Slot.unset).toArray = ls at hl ⊢
  have hl : lv_has ls 3 [(0, .ref (ad 0 0)), (1, .ref (ad 20 (σ 0 0 0)))] := hl
  have hinX1 : ∀ w ∈ wsX10, w ∈ wsX1_add := by decide +kernel
  refine lv_aload_n hx hb dX1_add_0 rfl (lv_at hl 0 rfl) ?_
  refine bg_X1_made hx hb hts hinX1 hown hK hU (hts (.fieldLink RX1 19 "ClashBoxes" "made" "I") (by decide +kernel)) dX1_add_1 ?_
  refine lv_istore_n (lv' := [(2, .int (iI (σ 0 0 0))), (0, .ref (ad 0 0)), (1, .ref (ad 20 (σ 0 0 0)))]) hx hb dX1_add_4 rfl hl (by decide) rfl (fun ls hl => ?_)
  refine lv_aload_n hx hb dX1_add_5 rfl (lv_at hl 1 rfl) ?_
  refine bg_X1_row hx hb hts hinX1 hown hK hU (hts (.fieldLink RX1 11 "ClashBoxes" "row" "[LClashBoxes$Part;") (by decide +kernel)) dX1_add_6 ?_
  refine lv_iload_n hx hb dX1_add_9 rfl (lv_at hl 0 rfl) ?_
  refine lv_aload_n hx hb dX1_add_10 rfl (lv_at hl 2 rfl) ?_
  refine bs_rowR hx hb hK hU hlc hpp dX1_add_11 (fun H locs hU hF1 hlc => ?_)
  have hF := hF.tr hF1
  refine lv_aload_n hx hb dX1_add_12 rfl (lv_at hl 1 rfl) ?_
  refine lv_dup hx hb dX1_add_13 rfl ?_
  refine bg_X1_made hx hb hts hinX1 hown hK hU (hts (.fieldLink RX1 19 "ClashBoxes" "made" "I") (by decide +kernel)) dX1_add_14 ?_
  refine W.eq (g2 := F0 mI 17 ls [.int (iI (σ 0 0 0)), .ref (ad 0 0)]) rfl ?_
  refine li_iconst hx hb dX1_add_17 ?_
  refine li_iadd hx hb dX1_add_18 ?_
  refine bp_X1_made hx hb hts hinX1 hown hK hU hlc (hts (.fieldLink RX1 19 "ClashBoxes" "made" "I") (by decide +kernel)) dX1_add_19 (fun H locs hU hF1 hlc => ?_)
  have hF := hF.tr hF1
  refine lv_aload_n hx hb dX1_add_22 rfl (lv_at hl 1 rfl) ?_
  refine lv_dup hx hb dX1_add_23 rfl ?_
  refine bg_X1_left hx hb hts hinX1 hown hK hU (hts (.fieldLink RX1 23 "ClashBoxes" "left" "I") (by decide +kernel)) dX1_add_24 ?_
  refine W.eq (g2 := F0 mI 27 ls [.int (iI (σ 1 0 0)), .ref (ad 0 0)]) rfl ?_
  refine li_iconst hx hb dX1_add_27 ?_
  refine li_iadd hx hb dX1_add_28 ?_
  refine bp_X1_left hx hb hts hinX1 hown hK hU hlc (hts (.fieldLink RX1 23 "ClashBoxes" "left" "I") (by decide +kernel)) dX1_add_29 (fun H locs hU hF1 hlc => ?_)
  have hF := hF.tr hF1
  refine lv_iload_n hx hb dX1_add_32 rfl (lv_at hl 0 rfl) ?_
  exact bw_i hx hb hr hlocks hU hF hlc rfl dX1_add_33
