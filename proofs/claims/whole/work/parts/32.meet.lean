set_option maxHeartbeats 4000000 in
set_option maxRecDepth 100000 in
theorem c_X1_coreGap (l : Launch) (g : bxG) (ad : bxA) (σ τ : bxS) (w : bxW) (p q a : Int) (hpp : 0 ≤ p ∧ p < 60 ∧ σ 2 p 0 ≠ 0) (hpq : 0 ≤ q ∧ q < 60 ∧ σ 2 q 0 ≠ 0) (hB : bx_B σ) (hxa : 0 ≤ a ∧ a < 3) : Met l yX1_coreGap wsX1_coreGap ({ frames := 1, cells := 0, slots := 0, locals := 21 }) (va_Pc [.ref (ad 20 p), .ref (ad 20 q), .int (iI a)] (fun U => bx_I g ad σ τ w U)) (k2_QcV (.int (iI (cgap σ p q a)))) 0 0 (fun _ => False) := by
  refine Met.ofW (cc := cX1_coreGap) (maxL := 5) (ret := (some .int)) (by decide) rfl ?_
  intro Pg Ev s mI args below meth cd s₁ B hml hv
  obtain ⟨rfl, hU, hK⟩ := hv
  have hx := B.exec
  have hb := B.bytes
  have hr := B.returns
  have hts := atoms_spec (ws := wsX1_coreGap) B.pre
  have hown : s.vm.findClass RX1 = some mI.cls := findClass_of_methodNamed B.named
  have hlocks := B.notSynchronized
  have hl := lv_entry ([.ref (ad 20 p), .ref (ad 20 q), .int (iI a)]) (n := 5) (Nat.le_of_ble_eq_true rfl)
  rw [lg_entry_eq]
  generalize (lg_sl ([.ref (ad 20 p), .ref (ad 20 q), .int (iI a)]) ++ List.replicate (5 - (lg_sl ([.ref (ad 20 p), .ref (ad 20 q), .int (iI a)])).length) Slot.unset).toArray = ls at hl ⊢
  have hl : lv_has ls 5 [(0, .ref (ad 20 p)), (1, .ref (ad 20 q)), (2, .int (iI a))] := hl
  have hinX0 : ∀ w ∈ wsX00, w ∈ wsX1_coreGap := by decide +kernel
  refine lv_aload_n hx hb dX1_coreGap_0 rfl (lv_at hl 1 rfl) ?_
  refine bg_X0_least hx hb hts hinX0 hown hK hU hpq (hts (.fieldLink RX1 84 "ClashBoxes$Part" "least" "[I") (by decide +kernel)) dX1_coreGap_1 ?_
  refine lv_iload_n hx hb dX1_coreGap_4 rfl (lv_at hl 2 rfl) ?_
  refine bl_21 hx hb hK hU hpq (by omega) (by omega) dX1_coreGap_5 ?_
  have b1 := bB7 hB hpq (a := a) (by omega) (by omega)
  refine lv_aload_n hx hb dX1_coreGap_6 rfl (lv_at hl 0 rfl) ?_
  refine bg_X0_greatest hx hb hts hinX0 hown hK hU hpp (hts (.fieldLink RX1 87 "ClashBoxes$Part" "greatest" "[I") (by decide +kernel)) dX1_coreGap_7 ?_
  refine lv_iload_n hx hb dX1_coreGap_10 rfl (lv_at hl 2 rfl) ?_
  refine bl_22 hx hb hK hU hpp (by omega) (by omega) dX1_coreGap_11 ?_
  have b2 := bB7 hB hpp (a := a) (by omega) (by omega)
  refine li_isub hx hb dX1_coreGap_12 ?_
  refine lv_istore_n (lv' := [(3, .int (iI ((σ 7 q a) - (σ 8 p a)))), (0, .ref (ad 20 p)), (1, .ref (ad 20 q)), (2, .int (iI a))]) hx hb dX1_coreGap_13 rfl hl (by decide) rfl (fun ls hl => ?_)
  refine lv_aload_n hx hb dX1_coreGap_14 rfl (lv_at hl 1 rfl) ?_
  refine bg_X0_least hx hb hts hinX0 hown hK hU hpp (hts (.fieldLink RX1 84 "ClashBoxes$Part" "least" "[I") (by decide +kernel)) dX1_coreGap_15 ?_
  refine lv_iload_n hx hb dX1_coreGap_18 rfl (lv_at hl 3 rfl) ?_
  refine bl_21 hx hb hK hU hpp (by omega) (by omega) dX1_coreGap_19 ?_
  have b3 := bB7 hB hpp (a := a) (by omega) (by omega)
  refine lv_aload_n hx hb dX1_coreGap_20 rfl (lv_at hl 2 rfl) ?_
  refine bg_X0_greatest hx hb hts hinX0 hown hK hU hpq (hts (.fieldLink RX1 87 "ClashBoxes$Part" "greatest" "[I") (by decide +kernel)) dX1_coreGap_21 ?_
  refine lv_iload_n hx hb dX1_coreGap_24 rfl (lv_at hl 3 rfl) ?_
  refine bl_22 hx hb hK hU hpq (by omega) (by omega) dX1_coreGap_25 ?_
  have b4 := bB7 hB hpq (a := a) (by omega) (by omega)
  refine li_isub hx hb dX1_coreGap_26 ?_
  refine lv_istore (lv' := [(4, .int (iI ((σ 7 p a) - (σ 8 q a)))), (3, .int (iI ((σ 7 q a) - (σ 8 p a)))), (0, .ref (ad 20 p)), (1, .ref (ad 20 q)), (2, .int (iI a))]) hx hb dX1_coreGap_27 hl (by decide) rfl (fun ls hl => ?_)
  refine li_iconst hx hb dX1_coreGap_29 ?_
  refine lv_iload_n hx hb dX1_coreGap_30 rfl (lv_at hl 1 rfl) ?_
  refine lv_iload hx hb dX1_coreGap_31 (lv_at hl 0 rfl) ?_
  refine li_mmax hx hb (hml.trans hl.1.symm) hown (hts (.methodLink RX1 112 Lib.Math.max.name) (by decide +kernel)) (hts (.static Lib.Math.max.name) (by decide +kernel)) (hts (.initialized "java/lang/Math") (by decide +kernel)) (hts _ (by exact by decide +kernel)) (Nat.le_of_ble_eq_true rfl) (Nat.le_of_ble_eq_true rfl) (Nat.zero_le _) (Nat.zero_le _) (by unfold iR; omega) (by unfold iR; omega) dX1_coreGap_33 ?_
  refine li_mmax hx hb (hml.trans hl.1.symm) hown (hts (.methodLink RX1 112 Lib.Math.max.name) (by decide +kernel)) (hts (.static Lib.Math.max.name) (by decide +kernel)) (hts (.initialized "java/lang/Math") (by decide +kernel)) (hts _ (by exact by decide +kernel)) (Nat.le_of_ble_eq_true rfl) (Nat.le_of_ble_eq_true rfl) (Nat.zero_le _) (Nat.zero_le _) (by unfold iR; omega) (by unfold iR; omega) dX1_coreGap_36 ?_
  refine be_i hx hb hr hlocks ?_ dX1_coreGap_39
  rfl

set_option maxHeartbeats 4000000 in
set_option maxRecDepth 100000 in
theorem c_X1_roundAxis (l : Launch) (g : bxG) (ad : bxA) (σ τ : bxS) (w : bxW) (p q : Int) (hpp : 0 ≤ p ∧ p < 60 ∧ σ 2 p 0 ≠ 0) (hpq : 0 ≤ q ∧ q < 60 ∧ σ 2 q 0 ≠ 0) (hB : bx_B σ) : Met l yX1_roundAxis wsX1_roundAxis ({ frames := 1, cells := 0, slots := 0, locals := 20 }) (va_Pc [.ref (ad 20 p), .ref (ad 20 q)] (fun U => bx_I g ad σ τ w U)) (k2_QcV (.int (iI (rAx σ p q)))) 0 0 (fun _ => False) := by
  refine Met.ofW (cc := cX1_roundAxis) (maxL := 2) (ret := (some .int)) (by decide) rfl ?_
  intro Pg Ev s mI args below meth cd s₁ B hml hv
  obtain ⟨rfl, hU, hK⟩ := hv
  have hx := B.exec
  have hb := B.bytes
  have hr := B.returns
  have hts := atoms_spec (ws := wsX1_roundAxis) B.pre
  have hown : s.vm.findClass RX1 = some mI.cls := findClass_of_methodNamed B.named
  have hlocks := B.notSynchronized
  have hl := lv_entry ([.ref (ad 20 p), .ref (ad 20 q)]) (n := 2) (Nat.le_of_ble_eq_true rfl)
  rw [lg_entry_eq]
  generalize (lg_sl ([.ref (ad 20 p), .ref (ad 20 q)]) ++ List.replicate (2 - (lg_sl ([.ref (ad 20 p), .ref (ad 20 q)])).length) Slot.unset).toArray = ls at hl ⊢
  have hl : lv_has ls 2 [(0, .ref (ad 20 p)), (1, .ref (ad 20 q))] := hl
  have hinX0 : ∀ w ∈ wsX00, w ∈ wsX1_roundAxis := by decide +kernel
  refine lv_aload_n hx hb dX1_roundAxis_0 rfl (lv_at hl 0 rfl) ?_
  refine bc_VB (As := []) (rest := []) (kd := 20) (k := p) (ci := 0) ⟨hx, hb, hml, hown, hts⟩ (c_X0_isTube l g ad σ τ w p hpp hB) (cwV 0 hts gX1_roundAxis_X0_isTube rfl rfl rfl (by decide +kernel) ⟨Nat.le_of_ble_eq_true rfl, Nat.le_of_ble_eq_true rfl⟩) hK hU (bx_Lp (by omega) (by omega) hpp) rfl rfl rfl hl.1 rfl (Nat.le_of_ble_eq_true rfl) dX1_roundAxis_1 ⟨Nat.zero_le _, Nat.zero_le _⟩ (fun h1 => ?_) (fun h1 => ?_)
  · refine li_if_ne (tgt := 12) hx hb (by unfold iR; omega) dX1_roundAxis_4 (by decide) (fun _ => ?_) (fun h => absurd h (by decide))
    refine lv_aload_n hx hb dX1_roundAxis_12 rfl (lv_at hl 1 rfl) ?_
    refine bc_VB (As := []) (rest := []) (kd := 20) (k := q) (ci := 0) ⟨hx, hb, hml, hown, hts⟩ (c_X0_isTube l g ad σ τ w q hpq hB) (cwV 0 hts gX1_roundAxis_X0_isTube rfl rfl rfl (by decide +kernel) ⟨Nat.le_of_ble_eq_true rfl, Nat.le_of_ble_eq_true rfl⟩) hK hU (bx_Lp (by omega) (by omega) hpq) rfl rfl rfl hl.1 rfl (Nat.le_of_ble_eq_true rfl) dX1_roundAxis_13 ⟨Nat.zero_le _, Nat.zero_le _⟩ (fun h2 => ?_) (fun h2 => ?_)
    · refine li_if_eq (tgt := 30) hx hb (by unfold iR; omega) dX1_roundAxis_16 (by decide) (fun h => absurd h (by decide)) (fun _ => ?_)
      refine lv_aload_n hx hb dX1_roundAxis_19 rfl (lv_at hl 1 rfl) ?_
      refine bg_X0_tubeAxis hx hb hts hinX0 hown hK hU hpq (hts (.fieldLink RX1 173 "ClashBoxes$Part" "tubeAxis" "I") (by decide +kernel)) dX1_roundAxis_20 ?_
      have b3 := bB5 hB hpq
      refine lv_aload_n hx hb dX1_roundAxis_23 rfl (lv_at hl 0 rfl) ?_
      refine bg_X0_tubeAxis hx hb hts hinX0 hown hK hU hpp (hts (.fieldLink RX1 173 "ClashBoxes$Part" "tubeAxis" "I") (by decide +kernel)) dX1_roundAxis_24 ?_
      have b4 := bB5 hB hpp
      refine li_icmp_ne (tgt := 37) hx hb (by unfold iR; omega) (by unfold iR; omega) dX1_roundAxis_27 (by decide) (fun h5 => ?_) (fun h5 => ?_)
      · refine li_iconst hx hb dX1_roundAxis_37 ?_
        refine be_i hx hb hr hlocks ?_ dX1_roundAxis_38
        unfold rAx; split <;> (try split) <;> omega
      · refine lv_aload_n hx hb dX1_roundAxis_30 rfl (lv_at hl 0 rfl) ?_
        refine bg_X0_tubeAxis hx hb hts hinX0 hown hK hU hpp (hts (.fieldLink RX1 173 "ClashBoxes$Part" "tubeAxis" "I") (by decide +kernel)) dX1_roundAxis_31 ?_
        have b6 := bB5 hB hpp
        refine lv_goto (tgt := 38) hx hb dX1_roundAxis_34 (by decide) ?_
        refine be_i hx hb hr hlocks ?_ dX1_roundAxis_38
        unfold rAx; split <;> (try split) <;> omega
    · refine li_if_eq (tgt := 30) hx hb (by unfold iR; omega) dX1_roundAxis_16 (by decide) (fun _ => ?_) (fun h => absurd (by decide) h)
      refine lv_aload_n hx hb dX1_roundAxis_30 rfl (lv_at hl 0 rfl) ?_
      refine bg_X0_tubeAxis hx hb hts hinX0 hown hK hU hpp (hts (.fieldLink RX1 173 "ClashBoxes$Part" "tubeAxis" "I") (by decide +kernel)) dX1_roundAxis_31 ?_
      have b7 := bB5 hB hpp
      refine lv_goto (tgt := 38) hx hb dX1_roundAxis_34 (by decide) ?_
      refine be_i hx hb hr hlocks ?_ dX1_roundAxis_38
      unfold rAx; split <;> (try split) <;> omega
  · refine li_if_ne (tgt := 12) hx hb (by unfold iR; omega) dX1_roundAxis_4 (by decide) (fun h => absurd (by decide) h) (fun _ => ?_)
    refine lv_aload_n hx hb dX1_roundAxis_7 rfl (lv_at hl 1 rfl) ?_
    refine bg_X0_tubeAxis hx hb hts hinX0 hown hK hU hpq (hts (.fieldLink RX1 173 "ClashBoxes$Part" "tubeAxis" "I") (by decide +kernel)) dX1_roundAxis_8 ?_
    have b8 := bB5 hB hpq
    refine be_i hx hb hr hlocks ?_ dX1_roundAxis_11
    unfold rAx; split <;> (try split) <;> omega

set_option maxHeartbeats 4000000 in
set_option maxRecDepth 100000 in
theorem c_X1_overlap (l : Launch) (g : bxG) (ad : bxA) (σ τ : bxS) (w : bxW) (p m0 q a : Int) (hpp : 0 ≤ p ∧ p < 60 ∧ σ 2 p 0 ≠ 0) (hpq : 0 ≤ q ∧ q < 60 ∧ σ 2 q 0 ≠ 0) (hB : bx_B σ) (hxa : 0 ≤ a ∧ a < 3) (hm : 0 ≤ m0 ∧ m0 ≤ 50) : Met l yX1_overlap wsX1_overlap ({ frames := 1, cells := 0, slots := 0, locals := 21 }) (va_Pc [.ref (ad 20 p), .int (iI m0), .ref (ad 20 q), .int (iI a)] (fun U => bx_I g ad σ τ w U)) (k2_QcV (.int (iI (zB (ovl σ p m0 q a))))) 0 0 (fun _ => False) := by
  refine Met.ofW (cc := cX1_overlap) (maxL := 4) (ret := (some .boolean)) (by decide) rfl ?_
  intro Pg Ev s mI args below meth cd s₁ B hml hv
  obtain ⟨rfl, hU, hK⟩ := hv
  have hx := B.exec
  have hb := B.bytes
  have hr := B.returns
  have hts := atoms_spec (ws := wsX1_overlap) B.pre
  have hown : s.vm.findClass RX1 = some mI.cls := findClass_of_methodNamed B.named
  have hlocks := B.notSynchronized
  have hl := lv_entry ([.ref (ad 20 p), .int (iI m0), .ref (ad 20 q), .int (iI a)]) (n := 4) (Nat.le_of_ble_eq_true rfl)
  rw [lg_entry_eq]
  generalize (lg_sl ([.ref (ad 20 p), .int (iI m0), .ref (ad 20 q), .int (iI a)]) ++ List.replicate (4 - (lg_sl ([.ref (ad 20 p), .int (iI m0), .ref (ad 20 q), .int (iI a)])).length) Slot.unset).toArray = ls at hl ⊢
  have hl : lv_has ls 4 [(0, .ref (ad 20 p)), (1, .int (iI m0)), (2, .ref (ad 20 q)), (3, .int (iI a))] := hl
  refine lv_aload_n hx hb dX1_overlap_0 rfl (lv_at hl 0 rfl) ?_
  refine lv_iload_n hx hb dX1_overlap_1 rfl (lv_at hl 3 rfl) ?_
  refine bc_V (As := [.int (iI a)]) (rest := []) (kd := 20) (k := p) (ci := 0) ⟨hx, hb, hml, hown, hts⟩ (c_X0_hullLeast l g ad σ τ w p a hpp hB (by omega)) (cwV 1 hts gX1_overlap_X0_hullLeast rfl rfl rfl (by decide +kernel) ⟨Nat.le_of_ble_eq_true rfl, Nat.le_of_ble_eq_true rfl⟩) hK hU (bx_Lp (by omega) (by omega) hpp) rfl rfl rfl hl.1 rfl (Nat.le_of_ble_eq_true rfl) dX1_overlap_2 ⟨Nat.zero_le _, Nat.zero_le _⟩ ?_
  have h1 := hLo_bd hB hpp (a := a) (by omega) (by omega)
  refine lv_iload_n hx hb dX1_overlap_5 rfl (lv_at hl 1 rfl) ?_
  refine li_isub hx hb dX1_overlap_6 ?_
  refine lv_aload_n hx hb dX1_overlap_7 rfl (lv_at hl 2 rfl) ?_
  refine lv_iload_n hx hb dX1_overlap_8 rfl (lv_at hl 3 rfl) ?_
  refine bc_V (As := [.int (iI a)]) (rest := [.int (iI ((hLo σ p a) - m0))]) (kd := 20) (k := q) (ci := 0) ⟨hx, hb, hml, hown, hts⟩ (c_X0_hullGreatest l g ad σ τ w q a hpq hB (by omega)) (cwV 1 hts gX1_overlap_X0_hullGreatest rfl rfl rfl (by decide +kernel) ⟨Nat.le_of_ble_eq_true rfl, Nat.le_of_ble_eq_true rfl⟩) hK hU (bx_Lp (by omega) (by omega) hpq) rfl rfl rfl hl.1 rfl (Nat.le_of_ble_eq_true rfl) dX1_overlap_9 ⟨Nat.zero_le _, Nat.zero_le _⟩ ?_
  have h2 := hHi_bd hB hpq (a := a) (by omega) (by omega)
  refine li_icmp_ge (tgt := 34) hx hb (by unfold iR; omega) (by unfold iR; omega) dX1_overlap_12 (by decide) (fun h3 => ?_) (fun h3 => ?_)
  · refine li_iconst hx hb dX1_overlap_34 ?_
    refine be_f hx hb hr hlocks ?_ dX1_overlap_35
    unfold ovl; omega
  · refine lv_aload_n hx hb dX1_overlap_15 rfl (lv_at hl 2 rfl) ?_
    refine lv_iload_n hx hb dX1_overlap_16 rfl (lv_at hl 3 rfl) ?_
    refine bc_V (As := [.int (iI a)]) (rest := []) (kd := 20) (k := q) (ci := 0) ⟨hx, hb, hml, hown, hts⟩ (c_X0_hullLeast l g ad σ τ w q a hpq hB (by omega)) (cwV 1 hts gX1_overlap_X0_hullLeast rfl rfl rfl (by decide +kernel) ⟨Nat.le_of_ble_eq_true rfl, Nat.le_of_ble_eq_true rfl⟩) hK hU (bx_Lp (by omega) (by omega) hpq) rfl rfl rfl hl.1 rfl (Nat.le_of_ble_eq_true rfl) dX1_overlap_17 ⟨Nat.zero_le _, Nat.zero_le _⟩ ?_
    have h4 := hLo_bd hB hpq (a := a) (by omega) (by omega)
    refine lv_aload_n hx hb dX1_overlap_20 rfl (lv_at hl 0 rfl) ?_
    refine lv_iload_n hx hb dX1_overlap_21 rfl (lv_at hl 3 rfl) ?_
    refine bc_V (As := [.int (iI a)]) (rest := [.int (iI (hLo σ q a))]) (kd := 20) (k := p) (ci := 0) ⟨hx, hb, hml, hown, hts⟩ (c_X0_hullGreatest l g ad σ τ w p a hpp hB (by omega)) (cwV 1 hts gX1_overlap_X0_hullGreatest rfl rfl rfl (by decide +kernel) ⟨Nat.le_of_ble_eq_true rfl, Nat.le_of_ble_eq_true rfl⟩) hK hU (bx_Lp (by omega) (by omega) hpp) rfl rfl rfl hl.1 rfl (Nat.le_of_ble_eq_true rfl) dX1_overlap_22 ⟨Nat.zero_le _, Nat.zero_le _⟩ ?_
    have h5 := hHi_bd hB hpp (a := a) (by omega) (by omega)
    refine lv_iload_n hx hb dX1_overlap_25 rfl (lv_at hl 1 rfl) ?_
    refine li_iadd hx hb dX1_overlap_26 ?_
    refine li_icmp_ge (tgt := 34) hx hb (by unfold iR; omega) (by unfold iR; omega) dX1_overlap_27 (by decide) (fun h6 => ?_) (fun h6 => ?_)
    · refine li_iconst hx hb dX1_overlap_34 ?_
      refine be_f hx hb hr hlocks ?_ dX1_overlap_35
      unfold ovl; omega
    · refine li_iconst hx hb dX1_overlap_30 ?_
      refine lv_goto (tgt := 35) hx hb dX1_overlap_31 (by decide) ?_
      refine be_t hx hb hr hlocks ?_ dX1_overlap_35
      unfold ovl; omega
