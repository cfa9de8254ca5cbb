set_option maxHeartbeats 4000000 in
set_option maxRecDepth 100000 in
theorem c_X0_isTube (l : Launch) (g : bxG) (ad : bxA) (σ τ : bxS) (w : bxW) (p : Int) (hpp : 0 ≤ p ∧ p < 60 ∧ σ 2 p 0 ≠ 0) (hB : bx_B σ) : Met l yX0_isTube wsX0_isTube ({ frames := 0, cells := 0, slots := 0, locals := 0 }) (va_Pc [.ref (ad 20 p)] (fun U => bx_I g ad σ τ w U)) (k2_QcV (.int (iI (zB (σ 5 p 0 ≠ -1))))) 0 0 (fun _ => False) := by
  refine Met.ofW (cc := cX0_isTube) (maxL := 1) (ret := (some .boolean)) (by decide) rfl ?_
  intro Pg Ev s mI args below meth cd s₁ B hml hv
  obtain ⟨rfl, hU, hK⟩ := hv
  have hx := B.exec
  have hb := B.bytes
  have hr := B.returns
  have hts := atoms_spec (ws := wsX0_isTube) B.pre
  have hown : s.vm.findClass RX0 = some mI.cls := findClass_of_methodNamed B.named
  have hlocks := B.notSynchronized
  have hl := lv_entry ([.ref (ad 20 p)]) (n := 1) (Nat.le_of_ble_eq_true rfl)
  rw [lg_entry_eq]
  generalize (lg_sl ([.ref (ad 20 p)]) ++ List.replicate (1 - (lg_sl ([.ref (ad 20 p)])).length) Slot.unset).toArray = ls at hl ⊢
  have hl : lv_has ls 1 [(0, .ref (ad 20 p))] := hl
  have hinX0 : ∀ w ∈ wsX00, w ∈ wsX0_isTube := by decide +kernel
  refine lv_aload_n hx hb dX0_isTube_0 rfl (lv_at hl 0 rfl) ?_
  refine bg_X0_tubeAxis hx hb hts hinX0 hown hK hU hpp (hts (.fieldLink RX0 25 "ClashBoxes$Part" "tubeAxis" "I") (by decide +kernel)) dX0_isTube_1 ?_
  have b1 := bB5 hB hpp
  refine li_iconst hx hb dX0_isTube_4 ?_
  refine li_icmp_eq (tgt := 12) hx hb (by unfold iR; omega) (by unfold iR; omega) dX0_isTube_5 (by decide) (fun h2 => ?_) (fun h2 => ?_)
  · refine li_iconst hx hb dX0_isTube_12 ?_
    refine be_f hx hb hr hlocks ?_ dX0_isTube_13
    omega
  · refine li_iconst hx hb dX0_isTube_8 ?_
    refine lv_goto (tgt := 13) hx hb dX0_isTube_9 (by decide) ?_
    refine be_t hx hb hr hlocks ?_ dX0_isTube_13
    omega

set_option maxHeartbeats 4000000 in
set_option maxRecDepth 100000 in
theorem c_X0_hullLeast (l : Launch) (g : bxG) (ad : bxA) (σ τ : bxS) (w : bxW) (p a : Int) (hpp : 0 ≤ p ∧ p < 60 ∧ σ 2 p 0 ≠ 0) (hB : bx_B σ) (hxa : 0 ≤ a ∧ a < 3) : Met l yX0_hullLeast wsX0_hullLeast ({ frames := 0, cells := 0, slots := 0, locals := 0 }) (va_Pc [.ref (ad 20 p), .int (iI a)] (fun U => bx_I g ad σ τ w U)) (k2_QcV (.int (iI (hLo σ p a)))) 0 0 (fun _ => False) := by
  refine Met.ofW (cc := cX0_hullLeast) (maxL := 2) (ret := (some .int)) (by decide) rfl ?_
  intro Pg Ev s mI args below meth cd s₁ B hml hv
  obtain ⟨rfl, hU, hK⟩ := hv
  have hx := B.exec
  have hb := B.bytes
  have hr := B.returns
  have hts := atoms_spec (ws := wsX0_hullLeast) B.pre
  have hown : s.vm.findClass RX0 = some mI.cls := findClass_of_methodNamed B.named
  have hlocks := B.notSynchronized
  have hl := lv_entry ([.ref (ad 20 p), .int (iI a)]) (n := 2) (Nat.le_of_ble_eq_true rfl)
  rw [lg_entry_eq]
  generalize (lg_sl ([.ref (ad 20 p), .int (iI a)]) ++ List.replicate (2 - (lg_sl ([.ref (ad 20 p), .int (iI a)])).length) Slot.unset).toArray = ls at hl ⊢
  have hl : lv_has ls 2 [(0, .ref (ad 20 p)), (1, .int (iI a))] := hl
  have hinX0 : ∀ w ∈ wsX00, w ∈ wsX0_hullLeast := by decide +kernel
  refine lv_iload_n hx hb dX0_hullLeast_0 rfl (lv_at hl 1 rfl) ?_
  refine lv_aload_n hx hb dX0_hullLeast_1 rfl (lv_at hl 0 rfl) ?_
  refine bg_X0_tubeAxis hx hb hts hinX0 hown hK hU hpp (hts (.fieldLink RX0 25 "ClashBoxes$Part" "tubeAxis" "I") (by decide +kernel)) dX0_hullLeast_2 ?_
  have b1 := bB5 hB hpp
  refine li_icmp_ne (tgt := 17) hx hb (by unfold iR; omega) (by unfold iR; omega) dX0_hullLeast_5 (by decide) (fun h2 => ?_) (fun h2 => ?_)
  · refine lv_aload_n hx hb dX0_hullLeast_17 rfl (lv_at hl 0 rfl) ?_
    refine bg_X0_least hx hb hts hinX0 hown hK hU hpp (hts (.fieldLink RX0 9 "ClashBoxes$Part" "least" "[I") (by decide +kernel)) dX0_hullLeast_18 ?_
    refine lv_iload_n hx hb dX0_hullLeast_21 rfl (lv_at hl 1 rfl) ?_
    refine bl_21 hx hb hK hU hpp (by omega) (by omega) dX0_hullLeast_22 ?_
    have b3 := bB7 hB hpp (a := a) (by omega) (by omega)
    refine lv_aload_n hx hb dX0_hullLeast_23 rfl (lv_at hl 0 rfl) ?_
    refine bg_X0_radius hx hb hts hinX0 hown hK hU hpp (hts (.fieldLink RX0 28 "ClashBoxes$Part" "radius" "I") (by decide +kernel)) dX0_hullLeast_24 ?_
    have b4 := bB6 hB hpp
    refine li_isub hx hb dX0_hullLeast_27 ?_
    refine be_i hx hb hr hlocks ?_ dX0_hullLeast_28
    unfold hLo; first | (rw [if_pos (by omega)]) | (rw [if_neg (by omega)])
  · refine lv_aload_n hx hb dX0_hullLeast_8 rfl (lv_at hl 0 rfl) ?_
    refine bg_X0_least hx hb hts hinX0 hown hK hU hpp (hts (.fieldLink RX0 9 "ClashBoxes$Part" "least" "[I") (by decide +kernel)) dX0_hullLeast_9 ?_
    refine lv_iload_n hx hb dX0_hullLeast_12 rfl (lv_at hl 1 rfl) ?_
    refine bl_21 hx hb hK hU hpp (by omega) (by omega) dX0_hullLeast_13 ?_
    have b5 := bB7 hB hpp (a := a) (by omega) (by omega)
    refine lv_goto (tgt := 28) hx hb dX0_hullLeast_14 (by decide) ?_
    refine be_i hx hb hr hlocks ?_ dX0_hullLeast_28
    unfold hLo; first | (rw [if_pos (by omega)]) | (rw [if_neg (by omega)])

set_option maxHeartbeats 4000000 in
set_option maxRecDepth 100000 in
theorem c_X0_hullGreatest (l : Launch) (g : bxG) (ad : bxA) (σ τ : bxS) (w : bxW) (p a : Int) (hpp : 0 ≤ p ∧ p < 60 ∧ σ 2 p 0 ≠ 0) (hB : bx_B σ) (hxa : 0 ≤ a ∧ a < 3) : Met l yX0_hullGreatest wsX0_hullGreatest ({ frames := 0, cells := 0, slots := 0, locals := 0 }) (va_Pc [.ref (ad 20 p), .int (iI a)] (fun U => bx_I g ad σ τ w U)) (k2_QcV (.int (iI (hHi σ p a)))) 0 0 (fun _ => False) := by
  refine Met.ofW (cc := cX0_hullGreatest) (maxL := 2) (ret := (some .int)) (by decide) rfl ?_
  intro Pg Ev s mI args below meth cd s₁ B hml hv
  obtain ⟨rfl, hU, hK⟩ := hv
  have hx := B.exec
  have hb := B.bytes
  have hr := B.returns
  have hts := atoms_spec (ws := wsX0_hullGreatest) B.pre
  have hown : s.vm.findClass RX0 = some mI.cls := findClass_of_methodNamed B.named
  have hlocks := B.notSynchronized
  have hl := lv_entry ([.ref (ad 20 p), .int (iI a)]) (n := 2) (Nat.le_of_ble_eq_true rfl)
  rw [lg_entry_eq]
  generalize (lg_sl ([.ref (ad 20 p), .int (iI a)]) ++ List.replicate (2 - (lg_sl ([.ref (ad 20 p), .int (iI a)])).length) Slot.unset).toArray = ls at hl ⊢
  have hl : lv_has ls 2 [(0, .ref (ad 20 p)), (1, .int (iI a))] := hl
  have hinX0 : ∀ w ∈ wsX00, w ∈ wsX0_hullGreatest := by decide +kernel
  refine lv_iload_n hx hb dX0_hullGreatest_0 rfl (lv_at hl 1 rfl) ?_
  refine lv_aload_n hx hb dX0_hullGreatest_1 rfl (lv_at hl 0 rfl) ?_
  refine bg_X0_tubeAxis hx hb hts hinX0 hown hK hU hpp (hts (.fieldLink RX0 25 "ClashBoxes$Part" "tubeAxis" "I") (by decide +kernel)) dX0_hullGreatest_2 ?_
  have b1 := bB5 hB hpp
  refine li_icmp_ne (tgt := 17) hx hb (by unfold iR; omega) (by unfold iR; omega) dX0_hullGreatest_5 (by decide) (fun h2 => ?_) (fun h2 => ?_)
  · refine lv_aload_n hx hb dX0_hullGreatest_17 rfl (lv_at hl 0 rfl) ?_
    refine bg_X0_greatest hx hb hts hinX0 hown hK hU hpp (hts (.fieldLink RX0 15 "ClashBoxes$Part" "greatest" "[I") (by decide +kernel)) dX0_hullGreatest_18 ?_
    refine lv_iload_n hx hb dX0_hullGreatest_21 rfl (lv_at hl 1 rfl) ?_
    refine bl_22 hx hb hK hU hpp (by omega) (by omega) dX0_hullGreatest_22 ?_
    have b3 := bB7 hB hpp (a := a) (by omega) (by omega)
    refine lv_aload_n hx hb dX0_hullGreatest_23 rfl (lv_at hl 0 rfl) ?_
    refine bg_X0_radius hx hb hts hinX0 hown hK hU hpp (hts (.fieldLink RX0 28 "ClashBoxes$Part" "radius" "I") (by decide +kernel)) dX0_hullGreatest_24 ?_
    have b4 := bB6 hB hpp
    refine li_iadd hx hb dX0_hullGreatest_27 ?_
    refine be_i hx hb hr hlocks ?_ dX0_hullGreatest_28
    unfold hHi; first | (rw [if_pos (by omega)]) | (rw [if_neg (by omega)])
  · refine lv_aload_n hx hb dX0_hullGreatest_8 rfl (lv_at hl 0 rfl) ?_
    refine bg_X0_greatest hx hb hts hinX0 hown hK hU hpp (hts (.fieldLink RX0 15 "ClashBoxes$Part" "greatest" "[I") (by decide +kernel)) dX0_hullGreatest_9 ?_
    refine lv_iload_n hx hb dX0_hullGreatest_12 rfl (lv_at hl 1 rfl) ?_
    refine bl_22 hx hb hK hU hpp (by omega) (by omega) dX0_hullGreatest_13 ?_
    have b5 := bB7 hB hpp (a := a) (by omega) (by omega)
    refine lv_goto (tgt := 28) hx hb dX0_hullGreatest_14 (by decide) ?_
    refine be_i hx hb hr hlocks ?_ dX0_hullGreatest_28
    unfold hHi; first | (rw [if_pos (by omega)]) | (rw [if_neg (by omega)])

set_option maxHeartbeats 4000000 in
set_option maxRecDepth 100000 in
theorem c_X0_staysInSpace (l : Launch) (g : bxG) (ad : bxA) (σ τ : bxS) (w : bxW) (p a d : Int) (hpp : 0 ≤ p ∧ p < 60 ∧ σ 2 p 0 ≠ 0) (hB : bx_B σ) (hxa : 0 ≤ a ∧ a < 3) (hd : -3000 ≤ d ∧ d ≤ 3000) : Met l yX0_staysInSpace wsX0_staysInSpace ({ frames := 0, cells := 0, slots := 0, locals := 0 }) (va_Pc [.ref (ad 20 p), .int (iI a), .int (iI d)] (fun U => bx_I g ad σ τ w U)) (k2_QcV (.int (iI (zB (0 ≤ σ 7 p a + d ∧ σ 8 p a + d ≤ 1000))))) 0 0 (fun _ => False) := by
  refine Met.ofW (cc := cX0_staysInSpace) (maxL := 3) (ret := (some .boolean)) (by decide) rfl ?_
  intro Pg Ev s mI args below meth cd s₁ B hml hv
  obtain ⟨rfl, hU, hK⟩ := hv
  have hx := B.exec
  have hb := B.bytes
  have hr := B.returns
  have hts := atoms_spec (ws := wsX0_staysInSpace) B.pre
  have hown : s.vm.findClass RX0 = some mI.cls := findClass_of_methodNamed B.named
  have hlocks := B.notSynchronized
  have hl := lv_entry ([.ref (ad 20 p), .int (iI a), .int (iI d)]) (n := 3) (Nat.le_of_ble_eq_true rfl)
  rw [lg_entry_eq]
  generalize (lg_sl ([.ref (ad 20 p), .int (iI a), .int (iI d)]) ++ List.replicate (3 - (lg_sl ([.ref (ad 20 p), .int (iI a), .int (iI d)])).length) Slot.unset).toArray = ls at hl ⊢
  have hl : lv_has ls 3 [(0, .ref (ad 20 p)), (1, .int (iI a)), (2, .int (iI d))] := hl
  have hinX0 : ∀ w ∈ wsX00, w ∈ wsX0_staysInSpace := by decide +kernel
  refine lv_aload_n hx hb dX0_staysInSpace_0 rfl (lv_at hl 0 rfl) ?_
  refine bg_X0_least hx hb hts hinX0 hown hK hU hpp (hts (.fieldLink RX0 9 "ClashBoxes$Part" "least" "[I") (by decide +kernel)) dX0_staysInSpace_1 ?_
  refine lv_iload_n hx hb dX0_staysInSpace_4 rfl (lv_at hl 1 rfl) ?_
  refine bl_21 hx hb hK hU hpp (by omega) (by omega) dX0_staysInSpace_5 ?_
  have b1 := bB7 hB hpp (a := a) (by omega) (by omega)
  refine lv_iload_n hx hb dX0_staysInSpace_6 rfl (lv_at hl 2 rfl) ?_
  refine li_iadd hx hb dX0_staysInSpace_7 ?_
  refine li_if_lt (tgt := 29) hx hb (by unfold iR; omega) dX0_staysInSpace_8 (by decide) (fun h2 => ?_) (fun h2 => ?_)
  · refine li_iconst hx hb dX0_staysInSpace_29 ?_
    refine be_f hx hb hr hlocks ?_ dX0_staysInSpace_30
    omega
  · refine lv_aload_n hx hb dX0_staysInSpace_11 rfl (lv_at hl 0 rfl) ?_
    refine bg_X0_greatest hx hb hts hinX0 hown hK hU hpp (hts (.fieldLink RX0 15 "ClashBoxes$Part" "greatest" "[I") (by decide +kernel)) dX0_staysInSpace_12 ?_
    refine lv_iload_n hx hb dX0_staysInSpace_15 rfl (lv_at hl 1 rfl) ?_
    refine bl_22 hx hb hK hU hpp (by omega) (by omega) dX0_staysInSpace_16 ?_
    have b3 := bB7 hB hpp (a := a) (by omega) (by omega)
    refine lv_iload_n hx hb dX0_staysInSpace_17 rfl (lv_at hl 2 rfl) ?_
    refine li_iadd hx hb dX0_staysInSpace_18 ?_
    refine li_sipush hx hb dX0_staysInSpace_19 (by decide) ?_
    refine li_icmp_gt (tgt := 29) hx hb (by unfold iR; omega) (by unfold iR; omega) dX0_staysInSpace_22 (by decide) (fun h4 => ?_) (fun h4 => ?_)
    · refine li_iconst hx hb dX0_staysInSpace_29 ?_
      refine be_f hx hb hr hlocks ?_ dX0_staysInSpace_30
      omega
    · refine li_iconst hx hb dX0_staysInSpace_25 ?_
      refine lv_goto (tgt := 30) hx hb dX0_staysInSpace_26 (by decide) ?_
      refine be_t hx hb hr hlocks ?_ dX0_staysInSpace_30
      omega
