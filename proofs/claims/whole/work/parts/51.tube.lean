set_option maxHeartbeats 4000000 in
set_option maxRecDepth 100000 in
theorem c_X2_tubeAndBox (l : Launch) (g : bxG) (ad : bxA) (σ τ : bxS) (w : bxW) (p m0 q n0 : Int) (hqp : 0 ≤ p ∧ p < 60 ∧ τ 2 p 0 ≠ 0) (hqq : 0 ≤ q ∧ q < 60 ∧ τ 2 q 0 ≠ 0) (hBt : bx_B τ) (hM : bx_M τ) (hgm0 : 0 ≤ m0 ∧ m0 ≤ 50) (hgn0 : 0 ≤ n0 ∧ n0 ≤ 50) (hax : 0 ≤ τ 5 p 0) : Met l yX2_tubeAndBox wsX2_tubeAndBox ({ frames := 1, cells := 0, slots := 0, locals := 26 }) (va_Pc [.ref (ad 7 0), .int (iI p), .int (iI m0), .int (iI q), .int (iI n0)] (fun U => bx_I g ad σ τ w U)) (k2_QcV (.int (iI (zB (tbx (eff τ) p m0 q n0 (τ 5 p 0)))))) 0 0 (fun _ => False) := by
  refine Met.ofW (cc := cX2_tubeAndBox) (maxL := 9) (ret := (some .boolean)) (by decide) rfl ?_
  intro Pg Ev s mI args below meth cd s₁ B hml hv
  obtain ⟨rfl, hU, hK⟩ := hv
  have hx := B.exec
  have hb := B.bytes
  have hr := B.returns
  have hts := atoms_spec (ws := wsX2_tubeAndBox) B.pre
  have hown : s.vm.findClass RX2 = some mI.cls := findClass_of_methodNamed B.named
  have hlocks := B.notSynchronized
  have hl := lv_entry ([.ref (ad 7 0), .int (iI p), .int (iI m0), .int (iI q), .int (iI n0)]) (n := 9) (Nat.le_of_ble_eq_true rfl)
  rw [lg_entry_eq]
  generalize (lg_sl ([.ref (ad 7 0), .int (iI p), .int (iI m0), .int (iI q), .int (iI n0)]) ++ List.replicate (9 - (lg_sl ([.ref (ad 7 0), .int (iI p), .int (iI m0), .int (iI q), .int (iI n0)])).length) Slot.unset).toArray = ls at hl ⊢
  have hl : lv_has ls 9 [(0, .ref (ad 7 0)), (1, .int (iI p)), (2, .int (iI m0)), (3, .int (iI q)), (4, .int (iI n0))] := hl
  have hinX2 : ∀ w ∈ wsX20, w ∈ wsX2_tubeAndBox := by decide +kernel
  refine lv_aload_n hx hb dX2_tubeAndBox_0 rfl (lv_at hl 0 rfl) ?_
  refine bg_X2_axes hx hb hts hinX2 hown hK hU (hts (.fieldLink RX2 20 "ClashBoxesModel" "axes" "[I") (by decide +kernel)) dX2_tubeAndBox_1 ?_
  refine lv_iload_n hx hb dX2_tubeAndBox_4 rfl (lv_at hl 1 rfl) ?_
  refine bl_11 hx hb hK hU (by omega) (by omega) dX2_tubeAndBox_5 ?_
  have b1 := bB5 hBt hqp
  rcases (by omega : τ 5 p 0 = 0 ∨ τ 5 p 0 = 1 ∨ τ 5 p 0 = 2) with hq2 | hq2 | hq2
  · refine W.eq (g2 := F0 mI 6 ls [.int (iI 0)]) (by rw [hq2]) ?_
    refine lv_istore (lv' := [(5, .int (iI 0)), (0, .ref (ad 7 0)), (1, .int (iI p)), (2, .int (iI m0)), (3, .int (iI q)), (4, .int (iI n0))]) hx hb dX2_tubeAndBox_6 hl (by decide) rfl (fun ls hl => ?_)
    refine lv_aload_n hx hb dX2_tubeAndBox_8 rfl (lv_at hl 1 rfl) ?_
    refine lv_iload_n hx hb dX2_tubeAndBox_9 rfl (lv_at hl 2 rfl) ?_
    refine lv_iload hx hb dX2_tubeAndBox_10 (lv_at hl 0 rfl) ?_
    refine li_iconst hx hb dX2_tubeAndBox_12 ?_
    refine lv_iload_n hx hb dX2_tubeAndBox_13 rfl (lv_at hl 3 rfl) ?_
    refine bc_V (As := [.int (iI p), .int (iI 0), .int (iI 0), .int (iI m0)]) (rest := []) (kd := 7) (k := 0) (ci := 2) ⟨hx, hb, hml, hown, hts⟩ (c_X2_end l g ad σ τ w p 0 0 m0 hqp hBt hM (by omega) (by omega) (by omega)) (cwV 4 hts gX2_tubeAndBox_X2_end rfl rfl rfl (by decide +kernel) ⟨Nat.le_of_ble_eq_true rfl, Nat.le_of_ble_eq_true rfl⟩) hK hU (bx_L0 (by omega)) rfl rfl rfl hl.1 rfl (Nat.le_of_ble_eq_true rfl) dX2_tubeAndBox_14 ⟨Nat.zero_le _, Nat.zero_le _⟩ ?_
    have h3 := mE_bd hBt hM hqp (a := 0) (hi := 0) (gr := m0) (by omega) (by omega) (by omega)
    refine lv_aload_n hx hb dX2_tubeAndBox_17 rfl (lv_at hl 1 rfl) ?_
    refine lv_iload_n hx hb dX2_tubeAndBox_18 rfl (lv_at hl 2 rfl) ?_
    refine lv_iload hx hb dX2_tubeAndBox_19 (lv_at hl 0 rfl) ?_
    refine li_iconst hx hb dX2_tubeAndBox_21 ?_
    refine lv_iload_n hx hb dX2_tubeAndBox_22 rfl (lv_at hl 3 rfl) ?_
    refine bc_V (As := [.int (iI p), .int (iI 0), .int (iI 1), .int (iI m0)]) (rest := [.int (iI (mE (eff τ) p 0 0 m0))]) (kd := 7) (k := 0) (ci := 2) ⟨hx, hb, hml, hown, hts⟩ (c_X2_end l g ad σ τ w p 0 1 m0 hqp hBt hM (by omega) (by omega) (by omega)) (cwV 4 hts gX2_tubeAndBox_X2_end rfl rfl rfl (by decide +kernel) ⟨Nat.le_of_ble_eq_true rfl, Nat.le_of_ble_eq_true rfl⟩) hK hU (bx_L0 (by omega)) rfl rfl rfl hl.1 rfl (Nat.le_of_ble_eq_true rfl) dX2_tubeAndBox_23 ⟨Nat.zero_le _, Nat.zero_le _⟩ ?_
    have h4 := mE_bd hBt hM hqp (a := 0) (hi := 1) (gr := m0) (by omega) (by omega) (by omega)
    refine lv_aload_n hx hb dX2_tubeAndBox_26 rfl (lv_at hl 1 rfl) ?_
    refine lv_iload_n hx hb dX2_tubeAndBox_27 rfl (lv_at hl 4 rfl) ?_
    refine lv_iload hx hb dX2_tubeAndBox_28 (lv_at hl 0 rfl) ?_
    refine li_iconst hx hb dX2_tubeAndBox_30 ?_
    refine lv_iload hx hb dX2_tubeAndBox_31 (lv_at hl 5 rfl) ?_
    refine bc_V (As := [.int (iI q), .int (iI 0), .int (iI 0), .int (iI n0)]) (rest := [.int (iI (mE (eff τ) p 0 1 m0)), .int (iI (mE (eff τ) p 0 0 m0))]) (kd := 7) (k := 0) (ci := 2) ⟨hx, hb, hml, hown, hts⟩ (c_X2_end l g ad σ τ w q 0 0 n0 hqq hBt hM (by omega) (by omega) (by omega)) (cwV 4 hts gX2_tubeAndBox_X2_end rfl rfl rfl (by decide +kernel) ⟨Nat.le_of_ble_eq_true rfl, Nat.le_of_ble_eq_true rfl⟩) hK hU (bx_L0 (by omega)) rfl rfl rfl hl.1 rfl (Nat.le_of_ble_eq_true rfl) dX2_tubeAndBox_33 ⟨Nat.zero_le _, Nat.zero_le _⟩ ?_
    have h5 := mE_bd hBt hM hqq (a := 0) (hi := 0) (gr := n0) (by omega) (by omega) (by omega)
    refine lv_aload_n hx hb dX2_tubeAndBox_36 rfl (lv_at hl 1 rfl) ?_
    refine lv_iload_n hx hb dX2_tubeAndBox_37 rfl (lv_at hl 4 rfl) ?_
    refine lv_iload hx hb dX2_tubeAndBox_38 (lv_at hl 0 rfl) ?_
    refine li_iconst hx hb dX2_tubeAndBox_40 ?_
    refine lv_iload hx hb dX2_tubeAndBox_41 (lv_at hl 5 rfl) ?_
    refine bc_V (As := [.int (iI q), .int (iI 0), .int (iI 1), .int (iI n0)]) (rest := [.int (iI (mE (eff τ) q 0 0 n0)), .int (iI (mE (eff τ) p 0 1 m0)), .int (iI (mE (eff τ) p 0 0 m0))]) (kd := 7) (k := 0) (ci := 2) ⟨hx, hb, hml, hown, hts⟩ (c_X2_end l g ad σ τ w q 0 1 n0 hqq hBt hM (by omega) (by omega) (by omega)) (cwV 4 hts gX2_tubeAndBox_X2_end rfl rfl rfl (by decide +kernel) ⟨Nat.le_of_ble_eq_true rfl, Nat.le_of_ble_eq_true rfl⟩) hK hU (bx_L0 (by omega)) rfl rfl rfl hl.1 rfl (Nat.le_of_ble_eq_true rfl) dX2_tubeAndBox_43 ⟨Nat.zero_le _, Nat.zero_le _⟩ ?_
    have h6 := mE_bd hBt hM hqq (a := 0) (hi := 1) (gr := n0) (by omega) (by omega) (by omega)
    refine bc_SB (As := [.int (iI (mE (eff τ) p 0 0 m0)), .int (iI (mE (eff τ) p 0 1 m0)), .int (iI (mE (eff τ) q 0 0 n0)), .int (iI (mE (eff τ) q 0 1 n0))]) (rest := []) ⟨hx, hb, hml, hown, hts⟩ (c_X2_overlaps l g ad σ τ w (mE (eff τ) p 0 0 m0) (mE (eff τ) p 0 1 m0) (mE (eff τ) q 0 0 n0) (mE (eff τ) q 0 1 n0) (by unfold iR; omega) (by unfold iR; omega) (by unfold iR; omega) (by unfold iR; omega)) (va_cwS 4 hts gX2_tubeAndBox_X2_overlaps rfl rfl rfl (by decide +kernel) ⟨Nat.le_of_ble_eq_true rfl, Nat.le_of_ble_eq_true rfl⟩) hK hU  rfl hl.1 rfl (Nat.le_of_ble_eq_true rfl) dX2_tubeAndBox_46 ⟨Nat.zero_le _, Nat.zero_le _⟩ (fun h7 => ?_) (fun h7 => ?_)
    · refine li_if_ne (tgt := 54) hx hb (by unfold iR; omega) dX2_tubeAndBox_49 (by decide) (fun _ => ?_) (fun h => absurd h (by decide))
      refine li_iconst hx hb dX2_tubeAndBox_54 ?_
      refine lv_istore (lv' := [(6, .int (iI 0)), (5, .int (iI 0)), (0, .ref (ad 7 0)), (1, .int (iI p)), (2, .int (iI m0)), (3, .int (iI q)), (4, .int (iI n0))]) hx hb dX2_tubeAndBox_55 hl (by decide) rfl (fun ls hl => ?_)
      refine li_iconst hx hb dX2_tubeAndBox_57 ?_
      refine lv_istore (lv' := [(7, .int (iI 0)), (6, .int (iI 0)), (5, .int (iI 0)), (0, .ref (ad 7 0)), (1, .int (iI p)), (2, .int (iI m0)), (3, .int (iI q)), (4, .int (iI n0))]) hx hb dX2_tubeAndBox_58 hl (by decide) rfl (fun ls hl => ?_)
      refine lv_iload hx hb dX2_tubeAndBox_60 (lv_at hl 0 rfl) ?_
      refine li_iconst hx hb dX2_tubeAndBox_62 ?_
      refine li_icmp_ge (tgt := 127) hx hb (by unfold iR; omega) (by unfold iR; omega) dX2_tubeAndBox_63 (by decide) (fun h => absurd h (by decide)) (fun _ => ?_)
      refine lv_iload hx hb dX2_tubeAndBox_66 (lv_at hl 0 rfl) ?_
      refine lv_iload hx hb dX2_tubeAndBox_68 (lv_at hl 2 rfl) ?_
      refine li_icmp_ne (tgt := 77) hx hb (by unfold iR; omega) (by unfold iR; omega) dX2_tubeAndBox_70 (by decide) (fun h => absurd (by decide) h) (fun _ => ?_)
      refine li_iconst hx hb dX2_tubeAndBox_73 ?_
      refine lv_goto (tgt := 109) hx hb dX2_tubeAndBox_74 (by decide) ?_
      refine lv_istore (lv' := [(8, .int (iI 0)), (7, .int (iI 0)), (6, .int (iI 0)), (5, .int (iI 0)), (0, .ref (ad 7 0)), (1, .int (iI p)), (2, .int (iI m0)), (3, .int (iI q)), (4, .int (iI n0))]) hx hb dX2_tubeAndBox_109 hl (by decide) rfl (fun ls hl => ?_)
      refine lv_iload hx hb dX2_tubeAndBox_111 (lv_at hl 2 rfl) ?_
      refine lv_iload hx hb dX2_tubeAndBox_113 (lv_at hl 0 rfl) ?_
      refine lv_iload hx hb dX2_tubeAndBox_115 (lv_at hl 0 rfl) ?_
      refine li_imul hx hb dX2_tubeAndBox_117 ?_
      refine W.eq (g2 := F0 mI 118 ls [.int (iI 0), .int (iI 0)]) rfl ?_
      refine li_iadd hx hb dX2_tubeAndBox_118 ?_
      refine W.eq (g2 := F0 mI 119 ls [.int (iI 0)]) rfl ?_
      refine lv_istore (lv' := [(6, .int (iI 0)), (8, .int (iI 0)), (7, .int (iI 0)), (5, .int (iI 0)), (0, .ref (ad 7 0)), (1, .int (iI p)), (2, .int (iI m0)), (3, .int (iI q)), (4, .int (iI n0))]) hx hb dX2_tubeAndBox_119 hl (by decide) rfl (fun ls hl => ?_)
      refine li_iinc (k0 := 2) (lv' := [(7, .int (iI (0 + 1))), (6, .int (iI 0)), (8, .int (iI 0)), (5, .int (iI 0)), (0, .ref (ad 7 0)), (1, .int (iI p)), (2, .int (iI m0)), (3, .int (iI q)), (4, .int (iI n0))]) hx hb dX2_tubeAndBox_121 hl rfl (by decide) rfl (fun ls hl => ?_)
      have hl : lv_has ls 9 [(7, .int (iI 1)), (6, .int (iI 0)), (8, .int (iI 0)), (5, .int (iI 0)), (0, .ref (ad 7 0)), (1, .int (iI p)), (2, .int (iI m0)), (3, .int (iI q)), (4, .int (iI n0))] := hl
      refine lv_goto (tgt := 60) hx hb dX2_tubeAndBox_124 (by decide) ?_
      refine lv_iload hx hb dX2_tubeAndBox_60 (lv_at hl 0 rfl) ?_
      refine li_iconst hx hb dX2_tubeAndBox_62 ?_
      refine li_icmp_ge (tgt := 127) hx hb (by unfold iR; omega) (by unfold iR; omega) dX2_tubeAndBox_63 (by decide) (fun h => absurd h (by decide)) (fun _ => ?_)
      refine lv_iload hx hb dX2_tubeAndBox_66 (lv_at hl 0 rfl) ?_
      refine lv_iload hx hb dX2_tubeAndBox_68 (lv_at hl 3 rfl) ?_
      refine li_icmp_ne (tgt := 77) hx hb (by unfold iR; omega) (by unfold iR; omega) dX2_tubeAndBox_70 (by decide) (fun _ => ?_) (fun h => absurd h (by decide))
      refine lv_aload_n hx hb dX2_tubeAndBox_77 rfl (lv_at hl 4 rfl) ?_
      refine lv_iload_n hx hb dX2_tubeAndBox_78 rfl (lv_at hl 5 rfl) ?_
      refine lv_iload hx hb dX2_tubeAndBox_79 (lv_at hl 0 rfl) ?_
      refine li_iconst hx hb dX2_tubeAndBox_81 ?_
      refine li_iconst hx hb dX2_tubeAndBox_82 ?_
      refine bc_V (As := [.int (iI p), .int (iI 1), .int (iI 0), .int (iI 0)]) (rest := []) (kd := 7) (k := 0) (ci := 2) ⟨hx, hb, hml, hown, hts⟩ (c_X2_end l g ad σ τ w p 1 0 0 hqp hBt hM (by omega) (by omega) (by omega)) (cwV 4 hts gX2_tubeAndBox_X2_end rfl rfl rfl (by decide +kernel) ⟨Nat.le_of_ble_eq_true rfl, Nat.le_of_ble_eq_true rfl⟩) hK hU (bx_L0 (by omega)) rfl rfl rfl hl.1 rfl (Nat.le_of_ble_eq_true rfl) dX2_tubeAndBox_83 ⟨Nat.zero_le _, Nat.zero_le _⟩ ?_
      have h8 := mE_bd hBt hM hqp (a := 1) (hi := 0) (gr := 0) (by omega) (by omega) (by omega)
      refine lv_aload_n hx hb dX2_tubeAndBox_86 rfl (lv_at hl 4 rfl) ?_
      refine lv_iload_n hx hb dX2_tubeAndBox_87 rfl (lv_at hl 7 rfl) ?_
      refine lv_iload hx hb dX2_tubeAndBox_88 (lv_at hl 0 rfl) ?_
      refine li_iconst hx hb dX2_tubeAndBox_90 ?_
      refine lv_iload hx hb dX2_tubeAndBox_91 (lv_at hl 8 rfl) ?_
      refine bc_V (As := [.int (iI q), .int (iI 1), .int (iI 0), .int (iI n0)]) (rest := [.int (iI (mE (eff τ) p 1 0 0))]) (kd := 7) (k := 0) (ci := 2) ⟨hx, hb, hml, hown, hts⟩ (c_X2_end l g ad σ τ w q 1 0 n0 hqq hBt hM (by omega) (by omega) (by omega)) (cwV 4 hts gX2_tubeAndBox_X2_end rfl rfl rfl (by decide +kernel) ⟨Nat.le_of_ble_eq_true rfl, Nat.le_of_ble_eq_true rfl⟩) hK hU (bx_L0 (by omega)) rfl rfl rfl hl.1 rfl (Nat.le_of_ble_eq_true rfl) dX2_tubeAndBox_93 ⟨Nat.zero_le _, Nat.zero_le _⟩ ?_
      have h9 := mE_bd hBt hM hqq (a := 1) (hi := 0) (gr := n0) (by omega) (by omega) (by omega)
      refine lv_aload_n hx hb dX2_tubeAndBox_96 rfl (lv_at hl 4 rfl) ?_
      refine lv_iload_n hx hb dX2_tubeAndBox_97 rfl (lv_at hl 7 rfl) ?_
      refine lv_iload hx hb dX2_tubeAndBox_98 (lv_at hl 0 rfl) ?_
      refine li_iconst hx hb dX2_tubeAndBox_100 ?_
      refine lv_iload hx hb dX2_tubeAndBox_101 (lv_at hl 8 rfl) ?_
      refine bc_V (As := [.int (iI q), .int (iI 1), .int (iI 1), .int (iI n0)]) (rest := [.int (iI (mE (eff τ) q 1 0 n0)), .int (iI (mE (eff τ) p 1 0 0))]) (kd := 7) (k := 0) (ci := 2) ⟨hx, hb, hml, hown, hts⟩ (c_X2_end l g ad σ τ w q 1 1 n0 hqq hBt hM (by omega) (by omega) (by omega)) (cwV 4 hts gX2_tubeAndBox_X2_end rfl rfl rfl (by decide +kernel) ⟨Nat.le_of_ble_eq_true rfl, Nat.le_of_ble_eq_true rfl⟩) hK hU (bx_L0 (by omega)) rfl rfl rfl hl.1 rfl (Nat.le_of_ble_eq_true rfl) dX2_tubeAndBox_103 ⟨Nat.zero_le _, Nat.zero_le _⟩ ?_
      have h10 := mE_bd hBt hM hqq (a := 1) (hi := 1) (gr := n0) (by omega) (by omega) (by omega)
      refine bc_S (As := [.int (iI (mE (eff τ) p 1 0 0)), .int (iI (mE (eff τ) q 1 0 n0)), .int (iI (mE (eff τ) q 1 1 n0))]) (rest := []) ⟨hx, hb, hml, hown, hts⟩ (c_X2_off l g ad σ τ w (mE (eff τ) p 1 0 0) (mE (eff τ) q 1 0 n0) (mE (eff τ) q 1 1 n0) (by omega) (by omega) (by omega)) (va_cwS 3 hts gX2_tubeAndBox_X2_off rfl rfl rfl (by decide +kernel) ⟨Nat.le_of_ble_eq_true rfl, Nat.le_of_ble_eq_true rfl⟩) hK hU  rfl hl.1 rfl (Nat.le_of_ble_eq_true rfl) dX2_tubeAndBox_106 ⟨Nat.zero_le _, Nat.zero_le _⟩ ?_
      have h11 := offv_bd (v := (mE (eff τ) p 1 0 0)) (f := (mE (eff τ) q 1 0 n0)) (t := (mE (eff τ) q 1 1 n0)) (by omega) (by omega) (by omega)
      refine lv_istore (lv' := [(8, .int (iI (offv (mE (eff τ) p 1 0 0) (mE (eff τ) q 1 0 n0) (mE (eff τ) q 1 1 n0)))), (7, .int (iI 1)), (6, .int (iI 0)), (5, .int (iI 0)), (0, .ref (ad 7 0)), (1, .int (iI p)), (2, .int (iI m0)), (3, .int (iI q)), (4, .int (iI n0))]) hx hb dX2_tubeAndBox_109 hl (by decide) rfl (fun ls hl => ?_)
      have b12 := sq_bd (x := offv (mE (eff τ) p 1 0 0) (mE (eff τ) q 1 0 n0) (mE (eff τ) q 1 1 n0)) (B := 6000) (by omega) (by omega)
      refine lv_iload hx hb dX2_tubeAndBox_111 (lv_at hl 2 rfl) ?_
      refine lv_iload hx hb dX2_tubeAndBox_113 (lv_at hl 0 rfl) ?_
      refine lv_iload hx hb dX2_tubeAndBox_115 (lv_at hl 0 rfl) ?_
      refine li_imul hx hb dX2_tubeAndBox_117 ?_
      refine li_iadd hx hb dX2_tubeAndBox_118 ?_
      refine lv_istore (lv' := [(6, .int (iI (0 + ((offv (mE (eff τ) p 1 0 0) (mE (eff τ) q 1 0 n0) (mE (eff τ) q 1 1 n0)) * (offv (mE (eff τ) p 1 0 0) (mE (eff τ) q 1 0 n0) (mE (eff τ) q 1 1 n0)))))), (8, .int (iI (offv (mE (eff τ) p 1 0 0) (mE (eff τ) q 1 0 n0) (mE (eff τ) q 1 1 n0)))), (7, .int (iI 1)), (5, .int (iI 0)), (0, .ref (ad 7 0)), (1, .int (iI p)), (2, .int (iI m0)), (3, .int (iI q)), (4, .int (iI n0))]) hx hb dX2_tubeAndBox_119 hl (by decide) rfl (fun ls hl => ?_)
      refine li_iinc (k0 := 2) (lv' := [(7, .int (iI (1 + 1))), (6, .int (iI (0 + ((offv (mE (eff τ) p 1 0 0) (mE (eff τ) q 1 0 n0) (mE (eff τ) q 1 1 n0)) * (offv (mE (eff τ) p 1 0 0) (mE (eff τ) q 1 0 n0) (mE (eff τ) q 1 1 n0)))))), (8, .int (iI (offv (mE (eff τ) p 1 0 0) (mE (eff τ) q 1 0 n0) (mE (eff τ) q 1 1 n0)))), (5, .int (iI 0)), (0, .ref (ad 7 0)), (1, .int (iI p)), (2, .int (iI m0)), (3, .int (iI q)), (4, .int (iI n0))]) hx hb dX2_tubeAndBox_121 hl rfl (by decide) rfl (fun ls hl => ?_)
      have hl : lv_has ls 9 [(7, .int (iI 2)), (6, .int (iI (0 + ((offv (mE (eff τ) p 1 0 0) (mE (eff τ) q 1 0 n0) (mE (eff τ) q 1 1 n0)) * (offv (mE (eff τ) p 1 0 0) (mE (eff τ) q 1 0 n0) (mE (eff τ) q 1 1 n0)))))), (8, .int (iI (offv (mE (eff τ) p 1 0 0) (mE (eff τ) q 1 0 n0) (mE (eff τ) q 1 1 n0)))), (5, .int (iI 0)), (0, .ref (ad 7 0)), (1, .int (iI p)), (2, .int (iI m0)), (3, .int (iI q)), (4, .int (iI n0))] := hl
      refine lv_goto (tgt := 60) hx hb dX2_tubeAndBox_124 (by decide) ?_
      refine lv_iload hx hb dX2_tubeAndBox_60 (lv_at hl 0 rfl) ?_
      refine li_iconst hx hb dX2_tubeAndBox_62 ?_
      refine li_icmp_ge (tgt := 127) hx hb (by unfold iR; omega) (by unfold iR; omega) dX2_tubeAndBox_63 (by decide) (fun h => absurd h (by decide)) (fun _ => ?_)
      refine lv_iload hx hb dX2_tubeAndBox_66 (lv_at hl 0 rfl) ?_
      refine lv_iload hx hb dX2_tubeAndBox_68 (lv_at hl 3 rfl) ?_
      refine li_icmp_ne (tgt := 77) hx hb (by unfold iR; omega) (by unfold iR; omega) dX2_tubeAndBox_70 (by decide) (fun _ => ?_) (fun h => absurd h (by decide))
      refine lv_aload_n hx hb dX2_tubeAndBox_77 rfl (lv_at hl 4 rfl) ?_
      refine lv_iload_n hx hb dX2_tubeAndBox_78 rfl (lv_at hl 5 rfl) ?_
      refine lv_iload hx hb dX2_tubeAndBox_79 (lv_at hl 0 rfl) ?_
      refine li_iconst hx hb dX2_tubeAndBox_81 ?_
      refine li_iconst hx hb dX2_tubeAndBox_82 ?_
      refine bc_V (As := [.int (iI p), .int (iI 2), .int (iI 0), .int (iI 0)]) (rest := []) (kd := 7) (k := 0) (ci := 2) ⟨hx, hb, hml, hown, hts⟩ (c_X2_end l g ad σ τ w p 2 0 0 hqp hBt hM (by omega) (by omega) (by omega)) (cwV 4 hts gX2_tubeAndBox_X2_end rfl rfl rfl (by decide +kernel) ⟨Nat.le_of_ble_eq_true rfl, Nat.le_of_ble_eq_true rfl⟩) hK hU (bx_L0 (by omega)) rfl rfl rfl hl.1 rfl (Nat.le_of_ble_eq_true rfl) dX2_tubeAndBox_83 ⟨Nat.zero_le _, Nat.zero_le _⟩ ?_
      have h13 := mE_bd hBt hM hqp (a := 2) (hi := 0) (gr := 0) (by omega) (by omega) (by omega)
      refine lv_aload_n hx hb dX2_tubeAndBox_86 rfl (lv_at hl 4 rfl) ?_
      refine lv_iload_n hx hb dX2_tubeAndBox_87 rfl (lv_at hl 7 rfl) ?_
      refine lv_iload hx hb dX2_tubeAndBox_88 (lv_at hl 0 rfl) ?_
      refine li_iconst hx hb dX2_tubeAndBox_90 ?_
      refine lv_iload hx hb dX2_tubeAndBox_91 (lv_at hl 8 rfl) ?_
      refine bc_V (As := [.int (iI q), .int (iI 2), .int (iI 0), .int (iI n0)]) (rest := [.int (iI (mE (eff τ) p 2 0 0))]) (kd := 7) (k := 0) (ci := 2) ⟨hx, hb, hml, hown, hts⟩ (c_X2_end l g ad σ τ w q 2 0 n0 hqq hBt hM (by omega) (by omega) (by omega)) (cwV 4 hts gX2_tubeAndBox_X2_end rfl rfl rfl (by decide +kernel) ⟨Nat.le_of_ble_eq_true rfl, Nat.le_of_ble_eq_true rfl⟩) hK hU (bx_L0 (by omega)) rfl rfl rfl hl.1 rfl (Nat.le_of_ble_eq_true rfl) dX2_tubeAndBox_93 ⟨Nat.zero_le _, Nat.zero_le _⟩ ?_
      have h14 := mE_bd hBt hM hqq (a := 2) (hi := 0) (gr := n0) (by omega) (by omega) (by omega)
      refine lv_aload_n hx hb dX2_tubeAndBox_96 rfl (lv_at hl 4 rfl) ?_
      refine lv_iload_n hx hb dX2_tubeAndBox_97 rfl (lv_at hl 7 rfl) ?_
      refine lv_iload hx hb dX2_tubeAndBox_98 (lv_at hl 0 rfl) ?_
      refine li_iconst hx hb dX2_tubeAndBox_100 ?_
      refine lv_iload hx hb dX2_tubeAndBox_101 (lv_at hl 8 rfl) ?_
      refine bc_V (As := [.int (iI q), .int (iI 2), .int (iI 1), .int (iI n0)]) (rest := [.int (iI (mE (eff τ) q 2 0 n0)), .int (iI (mE (eff τ) p 2 0 0))]) (kd := 7) (k := 0) (ci := 2) ⟨hx, hb, hml, hown, hts⟩ (c_X2_end l g ad σ τ w q 2 1 n0 hqq hBt hM (by omega) (by omega) (by omega)) (cwV 4 hts gX2_tubeAndBox_X2_end rfl rfl rfl (by decide +kernel) ⟨Nat.le_of_ble_eq_true rfl, Nat.le_of_ble_eq_true rfl⟩) hK hU (bx_L0 (by omega)) rfl rfl rfl hl.1 rfl (Nat.le_of_ble_eq_true rfl) dX2_tubeAndBox_103 ⟨Nat.zero_le _, Nat.zero_le _⟩ ?_
      have h15 := mE_bd hBt hM hqq (a := 2) (hi := 1) (gr := n0) (by omega) (by omega) (by omega)
      refine bc_S (As := [.int (iI (mE (eff τ) p 2 0 0)), .int (iI (mE (eff τ) q 2 0 n0)), .int (iI (mE (eff τ) q 2 1 n0))]) (rest := []) ⟨hx, hb, hml, hown, hts⟩ (c_X2_off l g ad σ τ w (mE (eff τ) p 2 0 0) (mE (eff τ) q 2 0 n0) (mE (eff τ) q 2 1 n0) (by omega) (by omega) (by omega)) (va_cwS 3 hts gX2_tubeAndBox_X2_off rfl rfl rfl (by decide +kernel) ⟨Nat.le_of_ble_eq_true rfl, Nat.le_of_ble_eq_true rfl⟩) hK hU  rfl hl.1 rfl (Nat.le_of_ble_eq_true rfl) dX2_tubeAndBox_106 ⟨Nat.zero_le _, Nat.zero_le _⟩ ?_
      have h16 := offv_bd (v := (mE (eff τ) p 2 0 0)) (f := (mE (eff τ) q 2 0 n0)) (t := (mE (eff τ) q 2 1 n0)) (by omega) (by omega) (by omega)
      refine lv_istore (lv' := [(8, .int (iI (offv (mE (eff τ) p 2 0 0) (mE (eff τ) q 2 0 n0) (mE (eff τ) q 2 1 n0)))), (7, .int (iI 2)), (6, .int (iI (0 + ((offv (mE (eff τ) p 1 0 0) (mE (eff τ) q 1 0 n0) (mE (eff τ) q 1 1 n0)) * (offv (mE (eff τ) p 1 0 0) (mE (eff τ) q 1 0 n0) (mE (eff τ) q 1 1 n0)))))), (5, .int (iI 0)), (0, .ref (ad 7 0)), (1, .int (iI p)), (2, .int (iI m0)), (3, .int (iI q)), (4, .int (iI n0))]) hx hb dX2_tubeAndBox_109 hl (by decide) rfl (fun ls hl => ?_)
      have b17 := sq_bd (x := offv (mE (eff τ) p 2 0 0) (mE (eff τ) q 2 0 n0) (mE (eff τ) q 2 1 n0)) (B := 6000) (by omega) (by omega)
      refine lv_iload hx hb dX2_tubeAndBox_111 (lv_at hl 2 rfl) ?_
      refine lv_iload hx hb dX2_tubeAndBox_113 (lv_at hl 0 rfl) ?_
      refine lv_iload hx hb dX2_tubeAndBox_115 (lv_at hl 0 rfl) ?_
      refine li_imul hx hb dX2_tubeAndBox_117 ?_
      refine li_iadd hx hb dX2_tubeAndBox_118 ?_
      refine lv_istore (lv' := [(6, .int (iI ((0 + ((offv (mE (eff τ) p 1 0 0) (mE (eff τ) q 1 0 n0) (mE (eff τ) q 1 1 n0)) * (offv (mE (eff τ) p 1 0 0) (mE (eff τ) q 1 0 n0) (mE (eff τ) q 1 1 n0)))) + ((offv (mE (eff τ) p 2 0 0) (mE (eff τ) q 2 0 n0) (mE (eff τ) q 2 1 n0)) * (offv (mE (eff τ) p 2 0 0) (mE (eff τ) q 2 0 n0) (mE (eff τ) q 2 1 n0)))))), (8, .int (iI (offv (mE (eff τ) p 2 0 0) (mE (eff τ) q 2 0 n0) (mE (eff τ) q 2 1 n0)))), (7, .int (iI 2)), (5, .int (iI 0)), (0, .ref (ad 7 0)), (1, .int (iI p)), (2, .int (iI m0)), (3, .int (iI q)), (4, .int (iI n0))]) hx hb dX2_tubeAndBox_119 hl (by decide) rfl (fun ls hl => ?_)
      refine li_iinc (k0 := 2) (lv' := [(7, .int (iI (2 + 1))), (6, .int (iI ((0 + ((offv (mE (eff τ) p 1 0 0) (mE (eff τ) q 1 0 n0) (mE (eff τ) q 1 1 n0)) * (offv (mE (eff τ) p 1 0 0) (mE (eff τ) q 1 0 n0) (mE (eff τ) q 1 1 n0)))) + ((offv (mE (eff τ) p 2 0 0) (mE (eff τ) q 2 0 n0) (mE (eff τ) q 2 1 n0)) * (offv (mE (eff τ) p 2 0 0) (mE (eff τ) q 2 0 n0) (mE (eff τ) q 2 1 n0)))))), (8, .int (iI (offv (mE (eff τ) p 2 0 0) (mE (eff τ) q 2 0 n0) (mE (eff τ) q 2 1 n0)))), (5, .int (iI 0)), (0, .ref (ad 7 0)), (1, .int (iI p)), (2, .int (iI m0)), (3, .int (iI q)), (4, .int (iI n0))]) hx hb dX2_tubeAndBox_121 hl rfl (by decide) rfl (fun ls hl => ?_)
      have hl : lv_has ls 9 [(7, .int (iI 3)), (6, .int (iI ((0 + ((offv (mE (eff τ) p 1 0 0) (mE (eff τ) q 1 0 n0) (mE (eff τ) q 1 1 n0)) * (offv (mE (eff τ) p 1 0 0) (mE (eff τ) q 1 0 n0) (mE (eff τ) q 1 1 n0)))) + ((offv (mE (eff τ) p 2 0 0) (mE (eff τ) q 2 0 n0) (mE (eff τ) q 2 1 n0)) * (offv (mE (eff τ) p 2 0 0) (mE (eff τ) q 2 0 n0) (mE (eff τ) q 2 1 n0)))))), (8, .int (iI (offv (mE (eff τ) p 2 0 0) (mE (eff τ) q 2 0 n0) (mE (eff τ) q 2 1 n0)))), (5, .int (iI 0)), (0, .ref (ad 7 0)), (1, .int (iI p)), (2, .int (iI m0)), (3, .int (iI q)), (4, .int (iI n0))] := hl
      refine lv_goto (tgt := 60) hx hb dX2_tubeAndBox_124 (by decide) ?_
      refine lv_iload hx hb dX2_tubeAndBox_60 (lv_at hl 0 rfl) ?_
      refine li_iconst hx hb dX2_tubeAndBox_62 ?_
      refine li_icmp_ge (tgt := 127) hx hb (by unfold iR; omega) (by unfold iR; omega) dX2_tubeAndBox_63 (by decide) (fun _ => ?_) (fun h => absurd (by decide) h)
      refine lv_aload_n hx hb dX2_tubeAndBox_127 rfl (lv_at hl 4 rfl) ?_
      refine bg_X2_radii hx hb hts hinX2 hown hK hU (hts (.fieldLink RX2 23 "ClashBoxesModel" "radii" "[I") (by decide +kernel)) dX2_tubeAndBox_128 ?_
      refine lv_iload_n hx hb dX2_tubeAndBox_131 rfl (lv_at hl 5 rfl) ?_
      refine bl_12 hx hb hK hU (by omega) (by omega) dX2_tubeAndBox_132 ?_
      have b18 := bB6 hBt hqp
      refine lv_iload_n hx hb dX2_tubeAndBox_133 rfl (lv_at hl 6 rfl) ?_
      refine li_iadd hx hb dX2_tubeAndBox_134 ?_
      refine lv_istore (lv' := [(7, .int (iI ((τ 6 p 0) + m0))), (6, .int (iI ((0 + ((offv (mE (eff τ) p 1 0 0) (mE (eff τ) q 1 0 n0) (mE (eff τ) q 1 1 n0)) * (offv (mE (eff τ) p 1 0 0) (mE (eff τ) q 1 0 n0) (mE (eff τ) q 1 1 n0)))) + ((offv (mE (eff τ) p 2 0 0) (mE (eff τ) q 2 0 n0) (mE (eff τ) q 2 1 n0)) * (offv (mE (eff τ) p 2 0 0) (mE (eff τ) q 2 0 n0) (mE (eff τ) q 2 1 n0)))))), (8, .int (iI (offv (mE (eff τ) p 2 0 0) (mE (eff τ) q 2 0 n0) (mE (eff τ) q 2 1 n0)))), (5, .int (iI 0)), (0, .ref (ad 7 0)), (1, .int (iI p)), (2, .int (iI m0)), (3, .int (iI q)), (4, .int (iI n0))]) hx hb dX2_tubeAndBox_135 hl (by decide) rfl (fun ls hl => ?_)
      have b19 := sq_bd (x := (τ 6 p 0) + m0) (B := 250) (by omega) (by omega)
      refine lv_iload hx hb dX2_tubeAndBox_137 (lv_at hl 1 rfl) ?_
      refine lv_iload hx hb dX2_tubeAndBox_139 (lv_at hl 0 rfl) ?_
      refine lv_iload hx hb dX2_tubeAndBox_141 (lv_at hl 0 rfl) ?_
      refine li_imul hx hb dX2_tubeAndBox_143 ?_
      refine li_icmp_ge (tgt := 151) hx hb (by unfold iR; omega) (by unfold iR; omega) dX2_tubeAndBox_144 (by decide) (fun h20 => ?_) (fun h20 => ?_)
      · refine li_iconst hx hb dX2_tubeAndBox_151 ?_
        refine be_f hx hb hr hlocks ?_ dX2_tubeAndBox_152
        rw [hq2]; unfold tbx tsum tgap; rw [if_pos rfl, if_neg (by decide), if_neg (by decide)]; (have e6 : eff τ 6 p 0 = τ 6 p 0 := rfl); rw [e6]; omega
      · refine li_iconst hx hb dX2_tubeAndBox_147 ?_
        refine lv_goto (tgt := 152) hx hb dX2_tubeAndBox_148 (by decide) ?_
        refine be_t hx hb hr hlocks ?_ dX2_tubeAndBox_152
        rw [hq2]; unfold tbx tsum tgap; rw [if_pos rfl, if_neg (by decide), if_neg (by decide)]; (have e6 : eff τ 6 p 0 = τ 6 p 0 := rfl); rw [e6]; omega
    · refine li_if_ne (tgt := 54) hx hb (by unfold iR; omega) dX2_tubeAndBox_49 (by decide) (fun h => absurd (by decide) h) (fun _ => ?_)
      refine li_iconst hx hb dX2_tubeAndBox_52 ?_
      refine be_f hx hb hr hlocks ?_ dX2_tubeAndBox_53
      rw [hq2]; unfold tbx; omega
  · refine W.eq (g2 := F0 mI 6 ls [.int (iI 1)]) (by rw [hq2]) ?_
    refine lv_istore (lv' := [(5, .int (iI 1)), (0, .ref (ad 7 0)), (1, .int (iI p)), (2, .int (iI m0)), (3, .int (iI q)), (4, .int (iI n0))]) hx hb dX2_tubeAndBox_6 hl (by decide) rfl (fun ls hl => ?_)
    refine lv_aload_n hx hb dX2_tubeAndBox_8 rfl (lv_at hl 1 rfl) ?_
    refine lv_iload_n hx hb dX2_tubeAndBox_9 rfl (lv_at hl 2 rfl) ?_
    refine lv_iload hx hb dX2_tubeAndBox_10 (lv_at hl 0 rfl) ?_
    refine li_iconst hx hb dX2_tubeAndBox_12 ?_
    refine lv_iload_n hx hb dX2_tubeAndBox_13 rfl (lv_at hl 3 rfl) ?_
    refine bc_V (As := [.int (iI p), .int (iI 1), .int (iI 0), .int (iI m0)]) (rest := []) (kd := 7) (k := 0) (ci := 2) ⟨hx, hb, hml, hown, hts⟩ (c_X2_end l g ad σ τ w p 1 0 m0 hqp hBt hM (by omega) (by omega) (by omega)) (cwV 4 hts gX2_tubeAndBox_X2_end rfl rfl rfl (by decide +kernel) ⟨Nat.le_of_ble_eq_true rfl, Nat.le_of_ble_eq_true rfl⟩) hK hU (bx_L0 (by omega)) rfl rfl rfl hl.1 rfl (Nat.le_of_ble_eq_true rfl) dX2_tubeAndBox_14 ⟨Nat.zero_le _, Nat.zero_le _⟩ ?_
    have h21 := mE_bd hBt hM hqp (a := 1) (hi := 0) (gr := m0) (by omega) (by omega) (by omega)
    refine lv_aload_n hx hb dX2_tubeAndBox_17 rfl (lv_at hl 1 rfl) ?_
    refine lv_iload_n hx hb dX2_tubeAndBox_18 rfl (lv_at hl 2 rfl) ?_
    refine lv_iload hx hb dX2_tubeAndBox_19 (lv_at hl 0 rfl) ?_
    refine li_iconst hx hb dX2_tubeAndBox_21 ?_
    refine lv_iload_n hx hb dX2_tubeAndBox_22 rfl (lv_at hl 3 rfl) ?_
    refine bc_V (As := [.int (iI p), .int (iI 1), .int (iI 1), .int (iI m0)]) (rest := [.int (iI (mE (eff τ) p 1 0 m0))]) (kd := 7) (k := 0) (ci := 2) ⟨hx, hb, hml, hown, hts⟩ (c_X2_end l g ad σ τ w p 1 1 m0 hqp hBt hM (by omega) (by omega) (by omega)) (cwV 4 hts gX2_tubeAndBox_X2_end rfl rfl rfl (by decide +kernel) ⟨Nat.le_of_ble_eq_true rfl, Nat.le_of_ble_eq_true rfl⟩) hK hU (bx_L0 (by omega)) rfl rfl rfl hl.1 rfl (Nat.le_of_ble_eq_true rfl) dX2_tubeAndBox_23 ⟨Nat.zero_le _, Nat.zero_le _⟩ ?_
    have h22 := mE_bd hBt hM hqp (a := 1) (hi := 1) (gr := m0) (by omega) (by omega) (by omega)
    refine lv_aload_n hx hb dX2_tubeAndBox_26 rfl (lv_at hl 1 rfl) ?_
    refine lv_iload_n hx hb dX2_tubeAndBox_27 rfl (lv_at hl 4 rfl) ?_
    refine lv_iload hx hb dX2_tubeAndBox_28 (lv_at hl 0 rfl) ?_
    refine li_iconst hx hb dX2_tubeAndBox_30 ?_
    refine lv_iload hx hb dX2_tubeAndBox_31 (lv_at hl 5 rfl) ?_
    refine bc_V (As := [.int (iI q), .int (iI 1), .int (iI 0), .int (iI n0)]) (rest := [.int (iI (mE (eff τ) p 1 1 m0)), .int (iI (mE (eff τ) p 1 0 m0))]) (kd := 7) (k := 0) (ci := 2) ⟨hx, hb, hml, hown, hts⟩ (c_X2_end l g ad σ τ w q 1 0 n0 hqq hBt hM (by omega) (by omega) (by omega)) (cwV 4 hts gX2_tubeAndBox_X2_end rfl rfl rfl (by decide +kernel) ⟨Nat.le_of_ble_eq_true rfl, Nat.le_of_ble_eq_true rfl⟩) hK hU (bx_L0 (by omega)) rfl rfl rfl hl.1 rfl (Nat.le_of_ble_eq_true rfl) dX2_tubeAndBox_33 ⟨Nat.zero_le _, Nat.zero_le _⟩ ?_
    have h23 := mE_bd hBt hM hqq (a := 1) (hi := 0) (gr := n0) (by omega) (by omega) (by omega)
    refine lv_aload_n hx hb dX2_tubeAndBox_36 rfl (lv_at hl 1 rfl) ?_
    refine lv_iload_n hx hb dX2_tubeAndBox_37 rfl (lv_at hl 4 rfl) ?_
    refine lv_iload hx hb dX2_tubeAndBox_38 (lv_at hl 0 rfl) ?_
    refine li_iconst hx hb dX2_tubeAndBox_40 ?_
    refine lv_iload hx hb dX2_tubeAndBox_41 (lv_at hl 5 rfl) ?_
    refine bc_V (As := [.int (iI q), .int (iI 1), .int (iI 1), .int (iI n0)]) (rest := [.int (iI (mE (eff τ) q 1 0 n0)), .int (iI (mE (eff τ) p 1 1 m0)), .int (iI (mE (eff τ) p 1 0 m0))]) (kd := 7) (k := 0) (ci := 2) ⟨hx, hb, hml, hown, hts⟩ (c_X2_end l g ad σ τ w q 1 1 n0 hqq hBt hM (by omega) (by omega) (by omega)) (cwV 4 hts gX2_tubeAndBox_X2_end rfl rfl rfl (by decide +kernel) ⟨Nat.le_of_ble_eq_true rfl, Nat.le_of_ble_eq_true rfl⟩) hK hU (bx_L0 (by omega)) rfl rfl rfl hl.1 rfl (Nat.le_of_ble_eq_true rfl) dX2_tubeAndBox_43 ⟨Nat.zero_le _, Nat.zero_le _⟩ ?_
    have h24 := mE_bd hBt hM hqq (a := 1) (hi := 1) (gr := n0) (by omega) (by omega) (by omega)
    refine bc_SB (As := [.int (iI (mE (eff τ) p 1 0 m0)), .int (iI (mE (eff τ) p 1 1 m0)), .int (iI (mE (eff τ) q 1 0 n0)), .int (iI (mE (eff τ) q 1 1 n0))]) (rest := []) ⟨hx, hb, hml, hown, hts⟩ (c_X2_overlaps l g ad σ τ w (mE (eff τ) p 1 0 m0) (mE (eff τ) p 1 1 m0) (mE (eff τ) q 1 0 n0) (mE (eff τ) q 1 1 n0) (by unfold iR; omega) (by unfold iR; omega) (by unfold iR; omega) (by unfold iR; omega)) (va_cwS 4 hts gX2_tubeAndBox_X2_overlaps rfl rfl rfl (by decide +kernel) ⟨Nat.le_of_ble_eq_true rfl, Nat.le_of_ble_eq_true rfl⟩) hK hU  rfl hl.1 rfl (Nat.le_of_ble_eq_true rfl) dX2_tubeAndBox_46 ⟨Nat.zero_le _, Nat.zero_le _⟩ (fun h25 => ?_) (fun h25 => ?_)
    · refine li_if_ne (tgt := 54) hx hb (by unfold iR; omega) dX2_tubeAndBox_49 (by decide) (fun _ => ?_) (fun h => absurd h (by decide))
      refine li_iconst hx hb dX2_tubeAndBox_54 ?_
      refine lv_istore (lv' := [(6, .int (iI 0)), (5, .int (iI 1)), (0, .ref (ad 7 0)), (1, .int (iI p)), (2, .int (iI m0)), (3, .int (iI q)), (4, .int (iI n0))]) hx hb dX2_tubeAndBox_55 hl (by decide) rfl (fun ls hl => ?_)
      refine li_iconst hx hb dX2_tubeAndBox_57 ?_
      refine lv_istore (lv' := [(7, .int (iI 0)), (6, .int (iI 0)), (5, .int (iI 1)), (0, .ref (ad 7 0)), (1, .int (iI p)), (2, .int (iI m0)), (3, .int (iI q)), (4, .int (iI n0))]) hx hb dX2_tubeAndBox_58 hl (by decide) rfl (fun ls hl => ?_)
      refine lv_iload hx hb dX2_tubeAndBox_60 (lv_at hl 0 rfl) ?_
      refine li_iconst hx hb dX2_tubeAndBox_62 ?_
      refine li_icmp_ge (tgt := 127) hx hb (by unfold iR; omega) (by unfold iR; omega) dX2_tubeAndBox_63 (by decide) (fun h => absurd h (by decide)) (fun _ => ?_)
      refine lv_iload hx hb dX2_tubeAndBox_66 (lv_at hl 0 rfl) ?_
      refine lv_iload hx hb dX2_tubeAndBox_68 (lv_at hl 2 rfl) ?_
      refine li_icmp_ne (tgt := 77) hx hb (by unfold iR; omega) (by unfold iR; omega) dX2_tubeAndBox_70 (by decide) (fun _ => ?_) (fun h => absurd h (by decide))
      refine lv_aload_n hx hb dX2_tubeAndBox_77 rfl (lv_at hl 3 rfl) ?_
      refine lv_iload_n hx hb dX2_tubeAndBox_78 rfl (lv_at hl 4 rfl) ?_
      refine lv_iload hx hb dX2_tubeAndBox_79 (lv_at hl 0 rfl) ?_
      refine li_iconst hx hb dX2_tubeAndBox_81 ?_
      refine li_iconst hx hb dX2_tubeAndBox_82 ?_
      refine bc_V (As := [.int (iI p), .int (iI 0), .int (iI 0), .int (iI 0)]) (rest := []) (kd := 7) (k := 0) (ci := 2) ⟨hx, hb, hml, hown, hts⟩ (c_X2_end l g ad σ τ w p 0 0 0 hqp hBt hM (by omega) (by omega) (by omega)) (cwV 4 hts gX2_tubeAndBox_X2_end rfl rfl rfl (by decide +kernel) ⟨Nat.le_of_ble_eq_true rfl, Nat.le_of_ble_eq_true rfl⟩) hK hU (bx_L0 (by omega)) rfl rfl rfl hl.1 rfl (Nat.le_of_ble_eq_true rfl) dX2_tubeAndBox_83 ⟨Nat.zero_le _, Nat.zero_le _⟩ ?_
      have h26 := mE_bd hBt hM hqp (a := 0) (hi := 0) (gr := 0) (by omega) (by omega) (by omega)
      refine lv_aload_n hx hb dX2_tubeAndBox_86 rfl (lv_at hl 3 rfl) ?_
      refine lv_iload_n hx hb dX2_tubeAndBox_87 rfl (lv_at hl 6 rfl) ?_
      refine lv_iload hx hb dX2_tubeAndBox_88 (lv_at hl 0 rfl) ?_
      refine li_iconst hx hb dX2_tubeAndBox_90 ?_
      refine lv_iload hx hb dX2_tubeAndBox_91 (lv_at hl 7 rfl) ?_
      refine bc_V (As := [.int (iI q), .int (iI 0), .int (iI 0), .int (iI n0)]) (rest := [.int (iI (mE (eff τ) p 0 0 0))]) (kd := 7) (k := 0) (ci := 2) ⟨hx, hb, hml, hown, hts⟩ (c_X2_end l g ad σ τ w q 0 0 n0 hqq hBt hM (by omega) (by omega) (by omega)) (cwV 4 hts gX2_tubeAndBox_X2_end rfl rfl rfl (by decide +kernel) ⟨Nat.le_of_ble_eq_true rfl, Nat.le_of_ble_eq_true rfl⟩) hK hU (bx_L0 (by omega)) rfl rfl rfl hl.1 rfl (Nat.le_of_ble_eq_true rfl) dX2_tubeAndBox_93 ⟨Nat.zero_le _, Nat.zero_le _⟩ ?_
      have h27 := mE_bd hBt hM hqq (a := 0) (hi := 0) (gr := n0) (by omega) (by omega) (by omega)
      refine lv_aload_n hx hb dX2_tubeAndBox_96 rfl (lv_at hl 3 rfl) ?_
      refine lv_iload_n hx hb dX2_tubeAndBox_97 rfl (lv_at hl 6 rfl) ?_
      refine lv_iload hx hb dX2_tubeAndBox_98 (lv_at hl 0 rfl) ?_
      refine li_iconst hx hb dX2_tubeAndBox_100 ?_
      refine lv_iload hx hb dX2_tubeAndBox_101 (lv_at hl 7 rfl) ?_
      refine bc_V (As := [.int (iI q), .int (iI 0), .int (iI 1), .int (iI n0)]) (rest := [.int (iI (mE (eff τ) q 0 0 n0)), .int (iI (mE (eff τ) p 0 0 0))]) (kd := 7) (k := 0) (ci := 2) ⟨hx, hb, hml, hown, hts⟩ (c_X2_end l g ad σ τ w q 0 1 n0 hqq hBt hM (by omega) (by omega) (by omega)) (cwV 4 hts gX2_tubeAndBox_X2_end rfl rfl rfl (by decide +kernel) ⟨Nat.le_of_ble_eq_true rfl, Nat.le_of_ble_eq_true rfl⟩) hK hU (bx_L0 (by omega)) rfl rfl rfl hl.1 rfl (Nat.le_of_ble_eq_true rfl) dX2_tubeAndBox_103 ⟨Nat.zero_le _, Nat.zero_le _⟩ ?_
      have h28 := mE_bd hBt hM hqq (a := 0) (hi := 1) (gr := n0) (by omega) (by omega) (by omega)
      refine bc_S (As := [.int (iI (mE (eff τ) p 0 0 0)), .int (iI (mE (eff τ) q 0 0 n0)), .int (iI (mE (eff τ) q 0 1 n0))]) (rest := []) ⟨hx, hb, hml, hown, hts⟩ (c_X2_off l g ad σ τ w (mE (eff τ) p 0 0 0) (mE (eff τ) q 0 0 n0) (mE (eff τ) q 0 1 n0) (by omega) (by omega) (by omega)) (va_cwS 3 hts gX2_tubeAndBox_X2_off rfl rfl rfl (by decide +kernel) ⟨Nat.le_of_ble_eq_true rfl, Nat.le_of_ble_eq_true rfl⟩) hK hU  rfl hl.1 rfl (Nat.le_of_ble_eq_true rfl) dX2_tubeAndBox_106 ⟨Nat.zero_le _, Nat.zero_le _⟩ ?_
      have h29 := offv_bd (v := (mE (eff τ) p 0 0 0)) (f := (mE (eff τ) q 0 0 n0)) (t := (mE (eff τ) q 0 1 n0)) (by omega) (by omega) (by omega)
      refine lv_istore (lv' := [(8, .int (iI (offv (mE (eff τ) p 0 0 0) (mE (eff τ) q 0 0 n0) (mE (eff τ) q 0 1 n0)))), (7, .int (iI 0)), (6, .int (iI 0)), (5, .int (iI 1)), (0, .ref (ad 7 0)), (1, .int (iI p)), (2, .int (iI m0)), (3, .int (iI q)), (4, .int (iI n0))]) hx hb dX2_tubeAndBox_109 hl (by decide) rfl (fun ls hl => ?_)
      have b30 := sq_bd (x := offv (mE (eff τ) p 0 0 0) (mE (eff τ) q 0 0 n0) (mE (eff τ) q 0 1 n0)) (B := 6000) (by omega) (by omega)
      refine lv_iload hx hb dX2_tubeAndBox_111 (lv_at hl 2 rfl) ?_
      refine lv_iload hx hb dX2_tubeAndBox_113 (lv_at hl 0 rfl) ?_
      refine lv_iload hx hb dX2_tubeAndBox_115 (lv_at hl 0 rfl) ?_
      refine li_imul hx hb dX2_tubeAndBox_117 ?_
      refine li_iadd hx hb dX2_tubeAndBox_118 ?_
      refine lv_istore (lv' := [(6, .int (iI (0 + ((offv (mE (eff τ) p 0 0 0) (mE (eff τ) q 0 0 n0) (mE (eff τ) q 0 1 n0)) * (offv (mE (eff τ) p 0 0 0) (mE (eff τ) q 0 0 n0) (mE (eff τ) q 0 1 n0)))))), (8, .int (iI (offv (mE (eff τ) p 0 0 0) (mE (eff τ) q 0 0 n0) (mE (eff τ) q 0 1 n0)))), (7, .int (iI 0)), (5, .int (iI 1)), (0, .ref (ad 7 0)), (1, .int (iI p)), (2, .int (iI m0)), (3, .int (iI q)), (4, .int (iI n0))]) hx hb dX2_tubeAndBox_119 hl (by decide) rfl (fun ls hl => ?_)
      refine li_iinc (k0 := 2) (lv' := [(7, .int (iI (0 + 1))), (6, .int (iI (0 + ((offv (mE (eff τ) p 0 0 0) (mE (eff τ) q 0 0 n0) (mE (eff τ) q 0 1 n0)) * (offv (mE (eff τ) p 0 0 0) (mE (eff τ) q 0 0 n0) (mE (eff τ) q 0 1 n0)))))), (8, .int (iI (offv (mE (eff τ) p 0 0 0) (mE (eff τ) q 0 0 n0) (mE (eff τ) q 0 1 n0)))), (5, .int (iI 1)), (0, .ref (ad 7 0)), (1, .int (iI p)), (2, .int (iI m0)), (3, .int (iI q)), (4, .int (iI n0))]) hx hb dX2_tubeAndBox_121 hl rfl (by decide) rfl (fun ls hl => ?_)
      have hl : lv_has ls 9 [(7, .int (iI 1)), (6, .int (iI (0 + ((offv (mE (eff τ) p 0 0 0) (mE (eff τ) q 0 0 n0) (mE (eff τ) q 0 1 n0)) * (offv (mE (eff τ) p 0 0 0) (mE (eff τ) q 0 0 n0) (mE (eff τ) q 0 1 n0)))))), (8, .int (iI (offv (mE (eff τ) p 0 0 0) (mE (eff τ) q 0 0 n0) (mE (eff τ) q 0 1 n0)))), (5, .int (iI 1)), (0, .ref (ad 7 0)), (1, .int (iI p)), (2, .int (iI m0)), (3, .int (iI q)), (4, .int (iI n0))] := hl
      refine lv_goto (tgt := 60) hx hb dX2_tubeAndBox_124 (by decide) ?_
      refine lv_iload hx hb dX2_tubeAndBox_60 (lv_at hl 0 rfl) ?_
      refine li_iconst hx hb dX2_tubeAndBox_62 ?_
      refine li_icmp_ge (tgt := 127) hx hb (by unfold iR; omega) (by unfold iR; omega) dX2_tubeAndBox_63 (by decide) (fun h => absurd h (by decide)) (fun _ => ?_)
      refine lv_iload hx hb dX2_tubeAndBox_66 (lv_at hl 0 rfl) ?_
      refine lv_iload hx hb dX2_tubeAndBox_68 (lv_at hl 3 rfl) ?_
      refine li_icmp_ne (tgt := 77) hx hb (by unfold iR; omega) (by unfold iR; omega) dX2_tubeAndBox_70 (by decide) (fun h => absurd (by decide) h) (fun _ => ?_)
      refine li_iconst hx hb dX2_tubeAndBox_73 ?_
      refine lv_goto (tgt := 109) hx hb dX2_tubeAndBox_74 (by decide) ?_
      refine lv_istore (lv' := [(8, .int (iI 0)), (7, .int (iI 1)), (6, .int (iI (0 + ((offv (mE (eff τ) p 0 0 0) (mE (eff τ) q 0 0 n0) (mE (eff τ) q 0 1 n0)) * (offv (mE (eff τ) p 0 0 0) (mE (eff τ) q 0 0 n0) (mE (eff τ) q 0 1 n0)))))), (5, .int (iI 1)), (0, .ref (ad 7 0)), (1, .int (iI p)), (2, .int (iI m0)), (3, .int (iI q)), (4, .int (iI n0))]) hx hb dX2_tubeAndBox_109 hl (by decide) rfl (fun ls hl => ?_)
      refine lv_iload hx hb dX2_tubeAndBox_111 (lv_at hl 2 rfl) ?_
      refine lv_iload hx hb dX2_tubeAndBox_113 (lv_at hl 0 rfl) ?_
      refine lv_iload hx hb dX2_tubeAndBox_115 (lv_at hl 0 rfl) ?_
      refine li_imul hx hb dX2_tubeAndBox_117 ?_
      refine W.eq (g2 := F0 mI 118 ls [.int (iI 0), .int (iI (0 + ((offv (mE (eff τ) p 0 0 0) (mE (eff τ) q 0 0 n0) (mE (eff τ) q 0 1 n0)) * (offv (mE (eff τ) p 0 0 0) (mE (eff τ) q 0 0 n0) (mE (eff τ) q 0 1 n0)))))]) rfl ?_
      refine li_iadd hx hb dX2_tubeAndBox_118 ?_
      refine lv_istore (lv' := [(6, .int (iI ((0 + ((offv (mE (eff τ) p 0 0 0) (mE (eff τ) q 0 0 n0) (mE (eff τ) q 0 1 n0)) * (offv (mE (eff τ) p 0 0 0) (mE (eff τ) q 0 0 n0) (mE (eff τ) q 0 1 n0)))) + 0))), (8, .int (iI 0)), (7, .int (iI 1)), (5, .int (iI 1)), (0, .ref (ad 7 0)), (1, .int (iI p)), (2, .int (iI m0)), (3, .int (iI q)), (4, .int (iI n0))]) hx hb dX2_tubeAndBox_119 hl (by decide) rfl (fun ls hl => ?_)
      refine li_iinc (k0 := 2) (lv' := [(7, .int (iI (1 + 1))), (6, .int (iI ((0 + ((offv (mE (eff τ) p 0 0 0) (mE (eff τ) q 0 0 n0) (mE (eff τ) q 0 1 n0)) * (offv (mE (eff τ) p 0 0 0) (mE (eff τ) q 0 0 n0) (mE (eff τ) q 0 1 n0)))) + 0))), (8, .int (iI 0)), (5, .int (iI 1)), (0, .ref (ad 7 0)), (1, .int (iI p)), (2, .int (iI m0)), (3, .int (iI q)), (4, .int (iI n0))]) hx hb dX2_tubeAndBox_121 hl rfl (by decide) rfl (fun ls hl => ?_)
      have hl : lv_has ls 9 [(7, .int (iI 2)), (6, .int (iI ((0 + ((offv (mE (eff τ) p 0 0 0) (mE (eff τ) q 0 0 n0) (mE (eff τ) q 0 1 n0)) * (offv (mE (eff τ) p 0 0 0) (mE (eff τ) q 0 0 n0) (mE (eff τ) q 0 1 n0)))) + 0))), (8, .int (iI 0)), (5, .int (iI 1)), (0, .ref (ad 7 0)), (1, .int (iI p)), (2, .int (iI m0)), (3, .int (iI q)), (4, .int (iI n0))] := hl
      refine lv_goto (tgt := 60) hx hb dX2_tubeAndBox_124 (by decide) ?_
      refine lv_iload hx hb dX2_tubeAndBox_60 (lv_at hl 0 rfl) ?_
      refine li_iconst hx hb dX2_tubeAndBox_62 ?_
      refine li_icmp_ge (tgt := 127) hx hb (by unfold iR; omega) (by unfold iR; omega) dX2_tubeAndBox_63 (by decide) (fun h => absurd h (by decide)) (fun _ => ?_)
      refine lv_iload hx hb dX2_tubeAndBox_66 (lv_at hl 0 rfl) ?_
      refine lv_iload hx hb dX2_tubeAndBox_68 (lv_at hl 3 rfl) ?_
      refine li_icmp_ne (tgt := 77) hx hb (by unfold iR; omega) (by unfold iR; omega) dX2_tubeAndBox_70 (by decide) (fun _ => ?_) (fun h => absurd h (by decide))
      refine lv_aload_n hx hb dX2_tubeAndBox_77 rfl (lv_at hl 4 rfl) ?_
      refine lv_iload_n hx hb dX2_tubeAndBox_78 rfl (lv_at hl 5 rfl) ?_
      refine lv_iload hx hb dX2_tubeAndBox_79 (lv_at hl 0 rfl) ?_
      refine li_iconst hx hb dX2_tubeAndBox_81 ?_
      refine li_iconst hx hb dX2_tubeAndBox_82 ?_
      refine bc_V (As := [.int (iI p), .int (iI 2), .int (iI 0), .int (iI 0)]) (rest := []) (kd := 7) (k := 0) (ci := 2) ⟨hx, hb, hml, hown, hts⟩ (c_X2_end l g ad σ τ w p 2 0 0 hqp hBt hM (by omega) (by omega) (by omega)) (cwV 4 hts gX2_tubeAndBox_X2_end rfl rfl rfl (by decide +kernel) ⟨Nat.le_of_ble_eq_true rfl, Nat.le_of_ble_eq_true rfl⟩) hK hU (bx_L0 (by omega)) rfl rfl rfl hl.1 rfl (Nat.le_of_ble_eq_true rfl) dX2_tubeAndBox_83 ⟨Nat.zero_le _, Nat.zero_le _⟩ ?_
      have h31 := mE_bd hBt hM hqp (a := 2) (hi := 0) (gr := 0) (by omega) (by omega) (by omega)
      refine lv_aload_n hx hb dX2_tubeAndBox_86 rfl (lv_at hl 4 rfl) ?_
      refine lv_iload_n hx hb dX2_tubeAndBox_87 rfl (lv_at hl 7 rfl) ?_
      refine lv_iload hx hb dX2_tubeAndBox_88 (lv_at hl 0 rfl) ?_
      refine li_iconst hx hb dX2_tubeAndBox_90 ?_
      refine lv_iload hx hb dX2_tubeAndBox_91 (lv_at hl 8 rfl) ?_
      refine bc_V (As := [.int (iI q), .int (iI 2), .int (iI 0), .int (iI n0)]) (rest := [.int (iI (mE (eff τ) p 2 0 0))]) (kd := 7) (k := 0) (ci := 2) ⟨hx, hb, hml, hown, hts⟩ (c_X2_end l g ad σ τ w q 2 0 n0 hqq hBt hM (by omega) (by omega) (by omega)) (cwV 4 hts gX2_tubeAndBox_X2_end rfl rfl rfl (by decide +kernel) ⟨Nat.le_of_ble_eq_true rfl, Nat.le_of_ble_eq_true rfl⟩) hK hU (bx_L0 (by omega)) rfl rfl rfl hl.1 rfl (Nat.le_of_ble_eq_true rfl) dX2_tubeAndBox_93 ⟨Nat.zero_le _, Nat.zero_le _⟩ ?_
      have h32 := mE_bd hBt hM hqq (a := 2) (hi := 0) (gr := n0) (by omega) (by omega) (by omega)
      refine lv_aload_n hx hb dX2_tubeAndBox_96 rfl (lv_at hl 4 rfl) ?_
      refine lv_iload_n hx hb dX2_tubeAndBox_97 rfl (lv_at hl 7 rfl) ?_
      refine lv_iload hx hb dX2_tubeAndBox_98 (lv_at hl 0 rfl) ?_
      refine li_iconst hx hb dX2_tubeAndBox_100 ?_
      refine lv_iload hx hb dX2_tubeAndBox_101 (lv_at hl 8 rfl) ?_
      refine bc_V (As := [.int (iI q), .int (iI 2), .int (iI 1), .int (iI n0)]) (rest := [.int (iI (mE (eff τ) q 2 0 n0)), .int (iI (mE (eff τ) p 2 0 0))]) (kd := 7) (k := 0) (ci := 2) ⟨hx, hb, hml, hown, hts⟩ (c_X2_end l g ad σ τ w q 2 1 n0 hqq hBt hM (by omega) (by omega) (by omega)) (cwV 4 hts gX2_tubeAndBox_X2_end rfl rfl rfl (by decide +kernel) ⟨Nat.le_of_ble_eq_true rfl, Nat.le_of_ble_eq_true rfl⟩) hK hU (bx_L0 (by omega)) rfl rfl rfl hl.1 rfl (Nat.le_of_ble_eq_true rfl) dX2_tubeAndBox_103 ⟨Nat.zero_le _, Nat.zero_le _⟩ ?_
      have h33 := mE_bd hBt hM hqq (a := 2) (hi := 1) (gr := n0) (by omega) (by omega) (by omega)
      refine bc_S (As := [.int (iI (mE (eff τ) p 2 0 0)), .int (iI (mE (eff τ) q 2 0 n0)), .int (iI (mE (eff τ) q 2 1 n0))]) (rest := []) ⟨hx, hb, hml, hown, hts⟩ (c_X2_off l g ad σ τ w (mE (eff τ) p 2 0 0) (mE (eff τ) q 2 0 n0) (mE (eff τ) q 2 1 n0) (by omega) (by omega) (by omega)) (va_cwS 3 hts gX2_tubeAndBox_X2_off rfl rfl rfl (by decide +kernel) ⟨Nat.le_of_ble_eq_true rfl, Nat.le_of_ble_eq_true rfl⟩) hK hU  rfl hl.1 rfl (Nat.le_of_ble_eq_true rfl) dX2_tubeAndBox_106 ⟨Nat.zero_le _, Nat.zero_le _⟩ ?_
      have h34 := offv_bd (v := (mE (eff τ) p 2 0 0)) (f := (mE (eff τ) q 2 0 n0)) (t := (mE (eff τ) q 2 1 n0)) (by omega) (by omega) (by omega)
      refine lv_istore (lv' := [(8, .int (iI (offv (mE (eff τ) p 2 0 0) (mE (eff τ) q 2 0 n0) (mE (eff τ) q 2 1 n0)))), (7, .int (iI 2)), (6, .int (iI ((0 + ((offv (mE (eff τ) p 0 0 0) (mE (eff τ) q 0 0 n0) (mE (eff τ) q 0 1 n0)) * (offv (mE (eff τ) p 0 0 0) (mE (eff τ) q 0 0 n0) (mE (eff τ) q 0 1 n0)))) + 0))), (5, .int (iI 1)), (0, .ref (ad 7 0)), (1, .int (iI p)), (2, .int (iI m0)), (3, .int (iI q)), (4, .int (iI n0))]) hx hb dX2_tubeAndBox_109 hl (by decide) rfl (fun ls hl => ?_)
      have b35 := sq_bd (x := offv (mE (eff τ) p 2 0 0) (mE (eff τ) q 2 0 n0) (mE (eff τ) q 2 1 n0)) (B := 6000) (by omega) (by omega)
      refine lv_iload hx hb dX2_tubeAndBox_111 (lv_at hl 2 rfl) ?_
      refine lv_iload hx hb dX2_tubeAndBox_113 (lv_at hl 0 rfl) ?_
      refine lv_iload hx hb dX2_tubeAndBox_115 (lv_at hl 0 rfl) ?_
      refine li_imul hx hb dX2_tubeAndBox_117 ?_
      refine li_iadd hx hb dX2_tubeAndBox_118 ?_
      refine lv_istore (lv' := [(6, .int (iI (((0 + ((offv (mE (eff τ) p 0 0 0) (mE (eff τ) q 0 0 n0) (mE (eff τ) q 0 1 n0)) * (offv (mE (eff τ) p 0 0 0) (mE (eff τ) q 0 0 n0) (mE (eff τ) q 0 1 n0)))) + 0) + ((offv (mE (eff τ) p 2 0 0) (mE (eff τ) q 2 0 n0) (mE (eff τ) q 2 1 n0)) * (offv (mE (eff τ) p 2 0 0) (mE (eff τ) q 2 0 n0) (mE (eff τ) q 2 1 n0)))))), (8, .int (iI (offv (mE (eff τ) p 2 0 0) (mE (eff τ) q 2 0 n0) (mE (eff τ) q 2 1 n0)))), (7, .int (iI 2)), (5, .int (iI 1)), (0, .ref (ad 7 0)), (1, .int (iI p)), (2, .int (iI m0)), (3, .int (iI q)), (4, .int (iI n0))]) hx hb dX2_tubeAndBox_119 hl (by decide) rfl (fun ls hl => ?_)
      refine li_iinc (k0 := 2) (lv' := [(7, .int (iI (2 + 1))), (6, .int (iI (((0 + ((offv (mE (eff τ) p 0 0 0) (mE (eff τ) q 0 0 n0) (mE (eff τ) q 0 1 n0)) * (offv (mE (eff τ) p 0 0 0) (mE (eff τ) q 0 0 n0) (mE (eff τ) q 0 1 n0)))) + 0) + ((offv (mE (eff τ) p 2 0 0) (mE (eff τ) q 2 0 n0) (mE (eff τ) q 2 1 n0)) * (offv (mE (eff τ) p 2 0 0) (mE (eff τ) q 2 0 n0) (mE (eff τ) q 2 1 n0)))))), (8, .int (iI (offv (mE (eff τ) p 2 0 0) (mE (eff τ) q 2 0 n0) (mE (eff τ) q 2 1 n0)))), (5, .int (iI 1)), (0, .ref (ad 7 0)), (1, .int (iI p)), (2, .int (iI m0)), (3, .int (iI q)), (4, .int (iI n0))]) hx hb dX2_tubeAndBox_121 hl rfl (by decide) rfl (fun ls hl => ?_)
      have hl : lv_has ls 9 [(7, .int (iI 3)), (6, .int (iI (((0 + ((offv (mE (eff τ) p 0 0 0) (mE (eff τ) q 0 0 n0) (mE (eff τ) q 0 1 n0)) * (offv (mE (eff τ) p 0 0 0) (mE (eff τ) q 0 0 n0) (mE (eff τ) q 0 1 n0)))) + 0) + ((offv (mE (eff τ) p 2 0 0) (mE (eff τ) q 2 0 n0) (mE (eff τ) q 2 1 n0)) * (offv (mE (eff τ) p 2 0 0) (mE (eff τ) q 2 0 n0) (mE (eff τ) q 2 1 n0)))))), (8, .int (iI (offv (mE (eff τ) p 2 0 0) (mE (eff τ) q 2 0 n0) (mE (eff τ) q 2 1 n0)))), (5, .int (iI 1)), (0, .ref (ad 7 0)), (1, .int (iI p)), (2, .int (iI m0)), (3, .int (iI q)), (4, .int (iI n0))] := hl
      refine lv_goto (tgt := 60) hx hb dX2_tubeAndBox_124 (by decide) ?_
      refine lv_iload hx hb dX2_tubeAndBox_60 (lv_at hl 0 rfl) ?_
      refine li_iconst hx hb dX2_tubeAndBox_62 ?_
      refine li_icmp_ge (tgt := 127) hx hb (by unfold iR; omega) (by unfold iR; omega) dX2_tubeAndBox_63 (by decide) (fun _ => ?_) (fun h => absurd (by decide) h)
      refine lv_aload_n hx hb dX2_tubeAndBox_127 rfl (lv_at hl 4 rfl) ?_
      refine bg_X2_radii hx hb hts hinX2 hown hK hU (hts (.fieldLink RX2 23 "ClashBoxesModel" "radii" "[I") (by decide +kernel)) dX2_tubeAndBox_128 ?_
      refine lv_iload_n hx hb dX2_tubeAndBox_131 rfl (lv_at hl 5 rfl) ?_
      refine bl_12 hx hb hK hU (by omega) (by omega) dX2_tubeAndBox_132 ?_
      have b36 := bB6 hBt hqp
      refine lv_iload_n hx hb dX2_tubeAndBox_133 rfl (lv_at hl 6 rfl) ?_
      refine li_iadd hx hb dX2_tubeAndBox_134 ?_
      refine lv_istore (lv' := [(7, .int (iI ((τ 6 p 0) + m0))), (6, .int (iI (((0 + ((offv (mE (eff τ) p 0 0 0) (mE (eff τ) q 0 0 n0) (mE (eff τ) q 0 1 n0)) * (offv (mE (eff τ) p 0 0 0) (mE (eff τ) q 0 0 n0) (mE (eff τ) q 0 1 n0)))) + 0) + ((offv (mE (eff τ) p 2 0 0) (mE (eff τ) q 2 0 n0) (mE (eff τ) q 2 1 n0)) * (offv (mE (eff τ) p 2 0 0) (mE (eff τ) q 2 0 n0) (mE (eff τ) q 2 1 n0)))))), (8, .int (iI (offv (mE (eff τ) p 2 0 0) (mE (eff τ) q 2 0 n0) (mE (eff τ) q 2 1 n0)))), (5, .int (iI 1)), (0, .ref (ad 7 0)), (1, .int (iI p)), (2, .int (iI m0)), (3, .int (iI q)), (4, .int (iI n0))]) hx hb dX2_tubeAndBox_135 hl (by decide) rfl (fun ls hl => ?_)
      have b37 := sq_bd (x := (τ 6 p 0) + m0) (B := 250) (by omega) (by omega)
      refine lv_iload hx hb dX2_tubeAndBox_137 (lv_at hl 1 rfl) ?_
      refine lv_iload hx hb dX2_tubeAndBox_139 (lv_at hl 0 rfl) ?_
      refine lv_iload hx hb dX2_tubeAndBox_141 (lv_at hl 0 rfl) ?_
      refine li_imul hx hb dX2_tubeAndBox_143 ?_
      refine li_icmp_ge (tgt := 151) hx hb (by unfold iR; omega) (by unfold iR; omega) dX2_tubeAndBox_144 (by decide) (fun h38 => ?_) (fun h38 => ?_)
      · refine li_iconst hx hb dX2_tubeAndBox_151 ?_
        refine be_f hx hb hr hlocks ?_ dX2_tubeAndBox_152
        rw [hq2]; unfold tbx tsum tgap; rw [if_neg (by decide), if_pos rfl, if_neg (by decide)]; (have e6 : eff τ 6 p 0 = τ 6 p 0 := rfl); rw [e6]; omega
      · refine li_iconst hx hb dX2_tubeAndBox_147 ?_
        refine lv_goto (tgt := 152) hx hb dX2_tubeAndBox_148 (by decide) ?_
        refine be_t hx hb hr hlocks ?_ dX2_tubeAndBox_152
        rw [hq2]; unfold tbx tsum tgap; rw [if_neg (by decide), if_pos rfl, if_neg (by decide)]; (have e6 : eff τ 6 p 0 = τ 6 p 0 := rfl); rw [e6]; omega
    · refine li_if_ne (tgt := 54) hx hb (by unfold iR; omega) dX2_tubeAndBox_49 (by decide) (fun h => absurd (by decide) h) (fun _ => ?_)
      refine li_iconst hx hb dX2_tubeAndBox_52 ?_
      refine be_f hx hb hr hlocks ?_ dX2_tubeAndBox_53
      rw [hq2]; unfold tbx; omega
  · refine W.eq (g2 := F0 mI 6 ls [.int (iI 2)]) (by rw [hq2]) ?_
    refine lv_istore (lv' := [(5, .int (iI 2)), (0, .ref (ad 7 0)), (1, .int (iI p)), (2, .int (iI m0)), (3, .int (iI q)), (4, .int (iI n0))]) hx hb dX2_tubeAndBox_6 hl (by decide) rfl (fun ls hl => ?_)
    refine lv_aload_n hx hb dX2_tubeAndBox_8 rfl (lv_at hl 1 rfl) ?_
    refine lv_iload_n hx hb dX2_tubeAndBox_9 rfl (lv_at hl 2 rfl) ?_
    refine lv_iload hx hb dX2_tubeAndBox_10 (lv_at hl 0 rfl) ?_
    refine li_iconst hx hb dX2_tubeAndBox_12 ?_
    refine lv_iload_n hx hb dX2_tubeAndBox_13 rfl (lv_at hl 3 rfl) ?_
    refine bc_V (As := [.int (iI p), .int (iI 2), .int (iI 0), .int (iI m0)]) (rest := []) (kd := 7) (k := 0) (ci := 2) ⟨hx, hb, hml, hown, hts⟩ (c_X2_end l g ad σ τ w p 2 0 m0 hqp hBt hM (by omega) (by omega) (by omega)) (cwV 4 hts gX2_tubeAndBox_X2_end rfl rfl rfl (by decide +kernel) ⟨Nat.le_of_ble_eq_true rfl, Nat.le_of_ble_eq_true rfl⟩) hK hU (bx_L0 (by omega)) rfl rfl rfl hl.1 rfl (Nat.le_of_ble_eq_true rfl) dX2_tubeAndBox_14 ⟨Nat.zero_le _, Nat.zero_le _⟩ ?_
    have h39 := mE_bd hBt hM hqp (a := 2) (hi := 0) (gr := m0) (by omega) (by omega) (by omega)
    refine lv_aload_n hx hb dX2_tubeAndBox_17 rfl (lv_at hl 1 rfl) ?_
    refine lv_iload_n hx hb dX2_tubeAndBox_18 rfl (lv_at hl 2 rfl) ?_
    refine lv_iload hx hb dX2_tubeAndBox_19 (lv_at hl 0 rfl) ?_
    refine li_iconst hx hb dX2_tubeAndBox_21 ?_
    refine lv_iload_n hx hb dX2_tubeAndBox_22 rfl (lv_at hl 3 rfl) ?_
    refine bc_V (As := [.int (iI p), .int (iI 2), .int (iI 1), .int (iI m0)]) (rest := [.int (iI (mE (eff τ) p 2 0 m0))]) (kd := 7) (k := 0) (ci := 2) ⟨hx, hb, hml, hown, hts⟩ (c_X2_end l g ad σ τ w p 2 1 m0 hqp hBt hM (by omega) (by omega) (by omega)) (cwV 4 hts gX2_tubeAndBox_X2_end rfl rfl rfl (by decide +kernel) ⟨Nat.le_of_ble_eq_true rfl, Nat.le_of_ble_eq_true rfl⟩) hK hU (bx_L0 (by omega)) rfl rfl rfl hl.1 rfl (Nat.le_of_ble_eq_true rfl) dX2_tubeAndBox_23 ⟨Nat.zero_le _, Nat.zero_le _⟩ ?_
    have h40 := mE_bd hBt hM hqp (a := 2) (hi := 1) (gr := m0) (by omega) (by omega) (by omega)
    refine lv_aload_n hx hb dX2_tubeAndBox_26 rfl (lv_at hl 1 rfl) ?_
    refine lv_iload_n hx hb dX2_tubeAndBox_27 rfl (lv_at hl 4 rfl) ?_
    refine lv_iload hx hb dX2_tubeAndBox_28 (lv_at hl 0 rfl) ?_
    refine li_iconst hx hb dX2_tubeAndBox_30 ?_
    refine lv_iload hx hb dX2_tubeAndBox_31 (lv_at hl 5 rfl) ?_
    refine bc_V (As := [.int (iI q), .int (iI 2), .int (iI 0), .int (iI n0)]) (rest := [.int (iI (mE (eff τ) p 2 1 m0)), .int (iI (mE (eff τ) p 2 0 m0))]) (kd := 7) (k := 0) (ci := 2) ⟨hx, hb, hml, hown, hts⟩ (c_X2_end l g ad σ τ w q 2 0 n0 hqq hBt hM (by omega) (by omega) (by omega)) (cwV 4 hts gX2_tubeAndBox_X2_end rfl rfl rfl (by decide +kernel) ⟨Nat.le_of_ble_eq_true rfl, Nat.le_of_ble_eq_true rfl⟩) hK hU (bx_L0 (by omega)) rfl rfl rfl hl.1 rfl (Nat.le_of_ble_eq_true rfl) dX2_tubeAndBox_33 ⟨Nat.zero_le _, Nat.zero_le _⟩ ?_
    have h41 := mE_bd hBt hM hqq (a := 2) (hi := 0) (gr := n0) (by omega) (by omega) (by omega)
    refine lv_aload_n hx hb dX2_tubeAndBox_36 rfl (lv_at hl 1 rfl) ?_
    refine lv_iload_n hx hb dX2_tubeAndBox_37 rfl (lv_at hl 4 rfl) ?_
    refine lv_iload hx hb dX2_tubeAndBox_38 (lv_at hl 0 rfl) ?_
    refine li_iconst hx hb dX2_tubeAndBox_40 ?_
    refine lv_iload hx hb dX2_tubeAndBox_41 (lv_at hl 5 rfl) ?_
    refine bc_V (As := [.int (iI q), .int (iI 2), .int (iI 1), .int (iI n0)]) (rest := [.int (iI (mE (eff τ) q 2 0 n0)), .int (iI (mE (eff τ) p 2 1 m0)), .int (iI (mE (eff τ) p 2 0 m0))]) (kd := 7) (k := 0) (ci := 2) ⟨hx, hb, hml, hown, hts⟩ (c_X2_end l g ad σ τ w q 2 1 n0 hqq hBt hM (by omega) (by omega) (by omega)) (cwV 4 hts gX2_tubeAndBox_X2_end rfl rfl rfl (by decide +kernel) ⟨Nat.le_of_ble_eq_true rfl, Nat.le_of_ble_eq_true rfl⟩) hK hU (bx_L0 (by omega)) rfl rfl rfl hl.1 rfl (Nat.le_of_ble_eq_true rfl) dX2_tubeAndBox_43 ⟨Nat.zero_le _, Nat.zero_le _⟩ ?_
    have h42 := mE_bd hBt hM hqq (a := 2) (hi := 1) (gr := n0) (by omega) (by omega) (by omega)
    refine bc_SB (As := [.int (iI (mE (eff τ) p 2 0 m0)), .int (iI (mE (eff τ) p 2 1 m0)), .int (iI (mE (eff τ) q 2 0 n0)), .int (iI (mE (eff τ) q 2 1 n0))]) (rest := []) ⟨hx, hb, hml, hown, hts⟩ (c_X2_overlaps l g ad σ τ w (mE (eff τ) p 2 0 m0) (mE (eff τ) p 2 1 m0) (mE (eff τ) q 2 0 n0) (mE (eff τ) q 2 1 n0) (by unfold iR; omega) (by unfold iR; omega) (by unfold iR; omega) (by unfold iR; omega)) (va_cwS 4 hts gX2_tubeAndBox_X2_overlaps rfl rfl rfl (by decide +kernel) ⟨Nat.le_of_ble_eq_true rfl, Nat.le_of_ble_eq_true rfl⟩) hK hU  rfl hl.1 rfl (Nat.le_of_ble_eq_true rfl) dX2_tubeAndBox_46 ⟨Nat.zero_le _, Nat.zero_le _⟩ (fun h43 => ?_) (fun h43 => ?_)
    · refine li_if_ne (tgt := 54) hx hb (by unfold iR; omega) dX2_tubeAndBox_49 (by decide) (fun _ => ?_) (fun h => absurd h (by decide))
      refine li_iconst hx hb dX2_tubeAndBox_54 ?_
      refine lv_istore (lv' := [(6, .int (iI 0)), (5, .int (iI 2)), (0, .ref (ad 7 0)), (1, .int (iI p)), (2, .int (iI m0)), (3, .int (iI q)), (4, .int (iI n0))]) hx hb dX2_tubeAndBox_55 hl (by decide) rfl (fun ls hl => ?_)
      refine li_iconst hx hb dX2_tubeAndBox_57 ?_
      refine lv_istore (lv' := [(7, .int (iI 0)), (6, .int (iI 0)), (5, .int (iI 2)), (0, .ref (ad 7 0)), (1, .int (iI p)), (2, .int (iI m0)), (3, .int (iI q)), (4, .int (iI n0))]) hx hb dX2_tubeAndBox_58 hl (by decide) rfl (fun ls hl => ?_)
      refine lv_iload hx hb dX2_tubeAndBox_60 (lv_at hl 0 rfl) ?_
      refine li_iconst hx hb dX2_tubeAndBox_62 ?_
      refine li_icmp_ge (tgt := 127) hx hb (by unfold iR; omega) (by unfold iR; omega) dX2_tubeAndBox_63 (by decide) (fun h => absurd h (by decide)) (fun _ => ?_)
      refine lv_iload hx hb dX2_tubeAndBox_66 (lv_at hl 0 rfl) ?_
      refine lv_iload hx hb dX2_tubeAndBox_68 (lv_at hl 2 rfl) ?_
      refine li_icmp_ne (tgt := 77) hx hb (by unfold iR; omega) (by unfold iR; omega) dX2_tubeAndBox_70 (by decide) (fun _ => ?_) (fun h => absurd h (by decide))
      refine lv_aload_n hx hb dX2_tubeAndBox_77 rfl (lv_at hl 3 rfl) ?_
      refine lv_iload_n hx hb dX2_tubeAndBox_78 rfl (lv_at hl 4 rfl) ?_
      refine lv_iload hx hb dX2_tubeAndBox_79 (lv_at hl 0 rfl) ?_
      refine li_iconst hx hb dX2_tubeAndBox_81 ?_
      refine li_iconst hx hb dX2_tubeAndBox_82 ?_
      refine bc_V (As := [.int (iI p), .int (iI 0), .int (iI 0), .int (iI 0)]) (rest := []) (kd := 7) (k := 0) (ci := 2) ⟨hx, hb, hml, hown, hts⟩ (c_X2_end l g ad σ τ w p 0 0 0 hqp hBt hM (by omega) (by omega) (by omega)) (cwV 4 hts gX2_tubeAndBox_X2_end rfl rfl rfl (by decide +kernel) ⟨Nat.le_of_ble_eq_true rfl, Nat.le_of_ble_eq_true rfl⟩) hK hU (bx_L0 (by omega)) rfl rfl rfl hl.1 rfl (Nat.le_of_ble_eq_true rfl) dX2_tubeAndBox_83 ⟨Nat.zero_le _, Nat.zero_le _⟩ ?_
      have h44 := mE_bd hBt hM hqp (a := 0) (hi := 0) (gr := 0) (by omega) (by omega) (by omega)
      refine lv_aload_n hx hb dX2_tubeAndBox_86 rfl (lv_at hl 3 rfl) ?_
      refine lv_iload_n hx hb dX2_tubeAndBox_87 rfl (lv_at hl 6 rfl) ?_
      refine lv_iload hx hb dX2_tubeAndBox_88 (lv_at hl 0 rfl) ?_
      refine li_iconst hx hb dX2_tubeAndBox_90 ?_
      refine lv_iload hx hb dX2_tubeAndBox_91 (lv_at hl 7 rfl) ?_
      refine bc_V (As := [.int (iI q), .int (iI 0), .int (iI 0), .int (iI n0)]) (rest := [.int (iI (mE (eff τ) p 0 0 0))]) (kd := 7) (k := 0) (ci := 2) ⟨hx, hb, hml, hown, hts⟩ (c_X2_end l g ad σ τ w q 0 0 n0 hqq hBt hM (by omega) (by omega) (by omega)) (cwV 4 hts gX2_tubeAndBox_X2_end rfl rfl rfl (by decide +kernel) ⟨Nat.le_of_ble_eq_true rfl, Nat.le_of_ble_eq_true rfl⟩) hK hU (bx_L0 (by omega)) rfl rfl rfl hl.1 rfl (Nat.le_of_ble_eq_true rfl) dX2_tubeAndBox_93 ⟨Nat.zero_le _, Nat.zero_le _⟩ ?_
      have h45 := mE_bd hBt hM hqq (a := 0) (hi := 0) (gr := n0) (by omega) (by omega) (by omega)
      refine lv_aload_n hx hb dX2_tubeAndBox_96 rfl (lv_at hl 3 rfl) ?_
      refine lv_iload_n hx hb dX2_tubeAndBox_97 rfl (lv_at hl 6 rfl) ?_
      refine lv_iload hx hb dX2_tubeAndBox_98 (lv_at hl 0 rfl) ?_
      refine li_iconst hx hb dX2_tubeAndBox_100 ?_
      refine lv_iload hx hb dX2_tubeAndBox_101 (lv_at hl 7 rfl) ?_
      refine bc_V (As := [.int (iI q), .int (iI 0), .int (iI 1), .int (iI n0)]) (rest := [.int (iI (mE (eff τ) q 0 0 n0)), .int (iI (mE (eff τ) p 0 0 0))]) (kd := 7) (k := 0) (ci := 2) ⟨hx, hb, hml, hown, hts⟩ (c_X2_end l g ad σ τ w q 0 1 n0 hqq hBt hM (by omega) (by omega) (by omega)) (cwV 4 hts gX2_tubeAndBox_X2_end rfl rfl rfl (by decide +kernel) ⟨Nat.le_of_ble_eq_true rfl, Nat.le_of_ble_eq_true rfl⟩) hK hU (bx_L0 (by omega)) rfl rfl rfl hl.1 rfl (Nat.le_of_ble_eq_true rfl) dX2_tubeAndBox_103 ⟨Nat.zero_le _, Nat.zero_le _⟩ ?_
      have h46 := mE_bd hBt hM hqq (a := 0) (hi := 1) (gr := n0) (by omega) (by omega) (by omega)
      refine bc_S (As := [.int (iI (mE (eff τ) p 0 0 0)), .int (iI (mE (eff τ) q 0 0 n0)), .int (iI (mE (eff τ) q 0 1 n0))]) (rest := []) ⟨hx, hb, hml, hown, hts⟩ (c_X2_off l g ad σ τ w (mE (eff τ) p 0 0 0) (mE (eff τ) q 0 0 n0) (mE (eff τ) q 0 1 n0) (by omega) (by omega) (by omega)) (va_cwS 3 hts gX2_tubeAndBox_X2_off rfl rfl rfl (by decide +kernel) ⟨Nat.le_of_ble_eq_true rfl, Nat.le_of_ble_eq_true rfl⟩) hK hU  rfl hl.1 rfl (Nat.le_of_ble_eq_true rfl) dX2_tubeAndBox_106 ⟨Nat.zero_le _, Nat.zero_le _⟩ ?_
      have h47 := offv_bd (v := (mE (eff τ) p 0 0 0)) (f := (mE (eff τ) q 0 0 n0)) (t := (mE (eff τ) q 0 1 n0)) (by omega) (by omega) (by omega)
      refine lv_istore (lv' := [(8, .int (iI (offv (mE (eff τ) p 0 0 0) (mE (eff τ) q 0 0 n0) (mE (eff τ) q 0 1 n0)))), (7, .int (iI 0)), (6, .int (iI 0)), (5, .int (iI 2)), (0, .ref (ad 7 0)), (1, .int (iI p)), (2, .int (iI m0)), (3, .int (iI q)), (4, .int (iI n0))]) hx hb dX2_tubeAndBox_109 hl (by decide) rfl (fun ls hl => ?_)
      have b48 := sq_bd (x := offv (mE (eff τ) p 0 0 0) (mE (eff τ) q 0 0 n0) (mE (eff τ) q 0 1 n0)) (B := 6000) (by omega) (by omega)
      refine lv_iload hx hb dX2_tubeAndBox_111 (lv_at hl 2 rfl) ?_
      refine lv_iload hx hb dX2_tubeAndBox_113 (lv_at hl 0 rfl) ?_
      refine lv_iload hx hb dX2_tubeAndBox_115 (lv_at hl 0 rfl) ?_
      refine li_imul hx hb dX2_tubeAndBox_117 ?_
      refine li_iadd hx hb dX2_tubeAndBox_118 ?_
      refine lv_istore (lv' := [(6, .int (iI (0 + ((offv (mE (eff τ) p 0 0 0) (mE (eff τ) q 0 0 n0) (mE (eff τ) q 0 1 n0)) * (offv (mE (eff τ) p 0 0 0) (mE (eff τ) q 0 0 n0) (mE (eff τ) q 0 1 n0)))))), (8, .int (iI (offv (mE (eff τ) p 0 0 0) (mE (eff τ) q 0 0 n0) (mE (eff τ) q 0 1 n0)))), (7, .int (iI 0)), (5, .int (iI 2)), (0, .ref (ad 7 0)), (1, .int (iI p)), (2, .int (iI m0)), (3, .int (iI q)), (4, .int (iI n0))]) hx hb dX2_tubeAndBox_119 hl (by decide) rfl (fun ls hl => ?_)
      refine li_iinc (k0 := 2) (lv' := [(7, .int (iI (0 + 1))), (6, .int (iI (0 + ((offv (mE (eff τ) p 0 0 0) (mE (eff τ) q 0 0 n0) (mE (eff τ) q 0 1 n0)) * (offv (mE (eff τ) p 0 0 0) (mE (eff τ) q 0 0 n0) (mE (eff τ) q 0 1 n0)))))), (8, .int (iI (offv (mE (eff τ) p 0 0 0) (mE (eff τ) q 0 0 n0) (mE (eff τ) q 0 1 n0)))), (5, .int (iI 2)), (0, .ref (ad 7 0)), (1, .int (iI p)), (2, .int (iI m0)), (3, .int (iI q)), (4, .int (iI n0))]) hx hb dX2_tubeAndBox_121 hl rfl (by decide) rfl (fun ls hl => ?_)
      have hl : lv_has ls 9 [(7, .int (iI 1)), (6, .int (iI (0 + ((offv (mE (eff τ) p 0 0 0) (mE (eff τ) q 0 0 n0) (mE (eff τ) q 0 1 n0)) * (offv (mE (eff τ) p 0 0 0) (mE (eff τ) q 0 0 n0) (mE (eff τ) q 0 1 n0)))))), (8, .int (iI (offv (mE (eff τ) p 0 0 0) (mE (eff τ) q 0 0 n0) (mE (eff τ) q 0 1 n0)))), (5, .int (iI 2)), (0, .ref (ad 7 0)), (1, .int (iI p)), (2, .int (iI m0)), (3, .int (iI q)), (4, .int (iI n0))] := hl
      refine lv_goto (tgt := 60) hx hb dX2_tubeAndBox_124 (by decide) ?_
      refine lv_iload hx hb dX2_tubeAndBox_60 (lv_at hl 0 rfl) ?_
      refine li_iconst hx hb dX2_tubeAndBox_62 ?_
      refine li_icmp_ge (tgt := 127) hx hb (by unfold iR; omega) (by unfold iR; omega) dX2_tubeAndBox_63 (by decide) (fun h => absurd h (by decide)) (fun _ => ?_)
      refine lv_iload hx hb dX2_tubeAndBox_66 (lv_at hl 0 rfl) ?_
      refine lv_iload hx hb dX2_tubeAndBox_68 (lv_at hl 3 rfl) ?_
      refine li_icmp_ne (tgt := 77) hx hb (by unfold iR; omega) (by unfold iR; omega) dX2_tubeAndBox_70 (by decide) (fun _ => ?_) (fun h => absurd h (by decide))
      refine lv_aload_n hx hb dX2_tubeAndBox_77 rfl (lv_at hl 4 rfl) ?_
      refine lv_iload_n hx hb dX2_tubeAndBox_78 rfl (lv_at hl 5 rfl) ?_
      refine lv_iload hx hb dX2_tubeAndBox_79 (lv_at hl 0 rfl) ?_
      refine li_iconst hx hb dX2_tubeAndBox_81 ?_
      refine li_iconst hx hb dX2_tubeAndBox_82 ?_
      refine bc_V (As := [.int (iI p), .int (iI 1), .int (iI 0), .int (iI 0)]) (rest := []) (kd := 7) (k := 0) (ci := 2) ⟨hx, hb, hml, hown, hts⟩ (c_X2_end l g ad σ τ w p 1 0 0 hqp hBt hM (by omega) (by omega) (by omega)) (cwV 4 hts gX2_tubeAndBox_X2_end rfl rfl rfl (by decide +kernel) ⟨Nat.le_of_ble_eq_true rfl, Nat.le_of_ble_eq_true rfl⟩) hK hU (bx_L0 (by omega)) rfl rfl rfl hl.1 rfl (Nat.le_of_ble_eq_true rfl) dX2_tubeAndBox_83 ⟨Nat.zero_le _, Nat.zero_le _⟩ ?_
      have h49 := mE_bd hBt hM hqp (a := 1) (hi := 0) (gr := 0) (by omega) (by omega) (by omega)
      refine lv_aload_n hx hb dX2_tubeAndBox_86 rfl (lv_at hl 4 rfl) ?_
      refine lv_iload_n hx hb dX2_tubeAndBox_87 rfl (lv_at hl 7 rfl) ?_
      refine lv_iload hx hb dX2_tubeAndBox_88 (lv_at hl 0 rfl) ?_
      refine li_iconst hx hb dX2_tubeAndBox_90 ?_
      refine lv_iload hx hb dX2_tubeAndBox_91 (lv_at hl 8 rfl) ?_
      refine bc_V (As := [.int (iI q), .int (iI 1), .int (iI 0), .int (iI n0)]) (rest := [.int (iI (mE (eff τ) p 1 0 0))]) (kd := 7) (k := 0) (ci := 2) ⟨hx, hb, hml, hown, hts⟩ (c_X2_end l g ad σ τ w q 1 0 n0 hqq hBt hM (by omega) (by omega) (by omega)) (cwV 4 hts gX2_tubeAndBox_X2_end rfl rfl rfl (by decide +kernel) ⟨Nat.le_of_ble_eq_true rfl, Nat.le_of_ble_eq_true rfl⟩) hK hU (bx_L0 (by omega)) rfl rfl rfl hl.1 rfl (Nat.le_of_ble_eq_true rfl) dX2_tubeAndBox_93 ⟨Nat.zero_le _, Nat.zero_le _⟩ ?_
      have h50 := mE_bd hBt hM hqq (a := 1) (hi := 0) (gr := n0) (by omega) (by omega) (by omega)
      refine lv_aload_n hx hb dX2_tubeAndBox_96 rfl (lv_at hl 4 rfl) ?_
      refine lv_iload_n hx hb dX2_tubeAndBox_97 rfl (lv_at hl 7 rfl) ?_
      refine lv_iload hx hb dX2_tubeAndBox_98 (lv_at hl 0 rfl) ?_
      refine li_iconst hx hb dX2_tubeAndBox_100 ?_
      refine lv_iload hx hb dX2_tubeAndBox_101 (lv_at hl 8 rfl) ?_
      refine bc_V (As := [.int (iI q), .int (iI 1), .int (iI 1), .int (iI n0)]) (rest := [.int (iI (mE (eff τ) q 1 0 n0)), .int (iI (mE (eff τ) p 1 0 0))]) (kd := 7) (k := 0) (ci := 2) ⟨hx, hb, hml, hown, hts⟩ (c_X2_end l g ad σ τ w q 1 1 n0 hqq hBt hM (by omega) (by omega) (by omega)) (cwV 4 hts gX2_tubeAndBox_X2_end rfl rfl rfl (by decide +kernel) ⟨Nat.le_of_ble_eq_true rfl, Nat.le_of_ble_eq_true rfl⟩) hK hU (bx_L0 (by omega)) rfl rfl rfl hl.1 rfl (Nat.le_of_ble_eq_true rfl) dX2_tubeAndBox_103 ⟨Nat.zero_le _, Nat.zero_le _⟩ ?_
      have h51 := mE_bd hBt hM hqq (a := 1) (hi := 1) (gr := n0) (by omega) (by omega) (by omega)
      refine bc_S (As := [.int (iI (mE (eff τ) p 1 0 0)), .int (iI (mE (eff τ) q 1 0 n0)), .int (iI (mE (eff τ) q 1 1 n0))]) (rest := []) ⟨hx, hb, hml, hown, hts⟩ (c_X2_off l g ad σ τ w (mE (eff τ) p 1 0 0) (mE (eff τ) q 1 0 n0) (mE (eff τ) q 1 1 n0) (by omega) (by omega) (by omega)) (va_cwS 3 hts gX2_tubeAndBox_X2_off rfl rfl rfl (by decide +kernel) ⟨Nat.le_of_ble_eq_true rfl, Nat.le_of_ble_eq_true rfl⟩) hK hU  rfl hl.1 rfl (Nat.le_of_ble_eq_true rfl) dX2_tubeAndBox_106 ⟨Nat.zero_le _, Nat.zero_le _⟩ ?_
      have h52 := offv_bd (v := (mE (eff τ) p 1 0 0)) (f := (mE (eff τ) q 1 0 n0)) (t := (mE (eff τ) q 1 1 n0)) (by omega) (by omega) (by omega)
      refine lv_istore (lv' := [(8, .int (iI (offv (mE (eff τ) p 1 0 0) (mE (eff τ) q 1 0 n0) (mE (eff τ) q 1 1 n0)))), (7, .int (iI 1)), (6, .int (iI (0 + ((offv (mE (eff τ) p 0 0 0) (mE (eff τ) q 0 0 n0) (mE (eff τ) q 0 1 n0)) * (offv (mE (eff τ) p 0 0 0) (mE (eff τ) q 0 0 n0) (mE (eff τ) q 0 1 n0)))))), (5, .int (iI 2)), (0, .ref (ad 7 0)), (1, .int (iI p)), (2, .int (iI m0)), (3, .int (iI q)), (4, .int (iI n0))]) hx hb dX2_tubeAndBox_109 hl (by decide) rfl (fun ls hl => ?_)
      have b53 := sq_bd (x := offv (mE (eff τ) p 1 0 0) (mE (eff τ) q 1 0 n0) (mE (eff τ) q 1 1 n0)) (B := 6000) (by omega) (by omega)
      refine lv_iload hx hb dX2_tubeAndBox_111 (lv_at hl 2 rfl) ?_
      refine lv_iload hx hb dX2_tubeAndBox_113 (lv_at hl 0 rfl) ?_
      refine lv_iload hx hb dX2_tubeAndBox_115 (lv_at hl 0 rfl) ?_
      refine li_imul hx hb dX2_tubeAndBox_117 ?_
      refine li_iadd hx hb dX2_tubeAndBox_118 ?_
      refine lv_istore (lv' := [(6, .int (iI ((0 + ((offv (mE (eff τ) p 0 0 0) (mE (eff τ) q 0 0 n0) (mE (eff τ) q 0 1 n0)) * (offv (mE (eff τ) p 0 0 0) (mE (eff τ) q 0 0 n0) (mE (eff τ) q 0 1 n0)))) + ((offv (mE (eff τ) p 1 0 0) (mE (eff τ) q 1 0 n0) (mE (eff τ) q 1 1 n0)) * (offv (mE (eff τ) p 1 0 0) (mE (eff τ) q 1 0 n0) (mE (eff τ) q 1 1 n0)))))), (8, .int (iI (offv (mE (eff τ) p 1 0 0) (mE (eff τ) q 1 0 n0) (mE (eff τ) q 1 1 n0)))), (7, .int (iI 1)), (5, .int (iI 2)), (0, .ref (ad 7 0)), (1, .int (iI p)), (2, .int (iI m0)), (3, .int (iI q)), (4, .int (iI n0))]) hx hb dX2_tubeAndBox_119 hl (by decide) rfl (fun ls hl => ?_)
      refine li_iinc (k0 := 2) (lv' := [(7, .int (iI (1 + 1))), (6, .int (iI ((0 + ((offv (mE (eff τ) p 0 0 0) (mE (eff τ) q 0 0 n0) (mE (eff τ) q 0 1 n0)) * (offv (mE (eff τ) p 0 0 0) (mE (eff τ) q 0 0 n0) (mE (eff τ) q 0 1 n0)))) + ((offv (mE (eff τ) p 1 0 0) (mE (eff τ) q 1 0 n0) (mE (eff τ) q 1 1 n0)) * (offv (mE (eff τ) p 1 0 0) (mE (eff τ) q 1 0 n0) (mE (eff τ) q 1 1 n0)))))), (8, .int (iI (offv (mE (eff τ) p 1 0 0) (mE (eff τ) q 1 0 n0) (mE (eff τ) q 1 1 n0)))), (5, .int (iI 2)), (0, .ref (ad 7 0)), (1, .int (iI p)), (2, .int (iI m0)), (3, .int (iI q)), (4, .int (iI n0))]) hx hb dX2_tubeAndBox_121 hl rfl (by decide) rfl (fun ls hl => ?_)
      have hl : lv_has ls 9 [(7, .int (iI 2)), (6, .int (iI ((0 + ((offv (mE (eff τ) p 0 0 0) (mE (eff τ) q 0 0 n0) (mE (eff τ) q 0 1 n0)) * (offv (mE (eff τ) p 0 0 0) (mE (eff τ) q 0 0 n0) (mE (eff τ) q 0 1 n0)))) + ((offv (mE (eff τ) p 1 0 0) (mE (eff τ) q 1 0 n0) (mE (eff τ) q 1 1 n0)) * (offv (mE (eff τ) p 1 0 0) (mE (eff τ) q 1 0 n0) (mE (eff τ) q 1 1 n0)))))), (8, .int (iI (offv (mE (eff τ) p 1 0 0) (mE (eff τ) q 1 0 n0) (mE (eff τ) q 1 1 n0)))), (5, .int (iI 2)), (0, .ref (ad 7 0)), (1, .int (iI p)), (2, .int (iI m0)), (3, .int (iI q)), (4, .int (iI n0))] := hl
      refine lv_goto (tgt := 60) hx hb dX2_tubeAndBox_124 (by decide) ?_
      refine lv_iload hx hb dX2_tubeAndBox_60 (lv_at hl 0 rfl) ?_
      refine li_iconst hx hb dX2_tubeAndBox_62 ?_
      refine li_icmp_ge (tgt := 127) hx hb (by unfold iR; omega) (by unfold iR; omega) dX2_tubeAndBox_63 (by decide) (fun h => absurd h (by decide)) (fun _ => ?_)
      refine lv_iload hx hb dX2_tubeAndBox_66 (lv_at hl 0 rfl) ?_
      refine lv_iload hx hb dX2_tubeAndBox_68 (lv_at hl 3 rfl) ?_
      refine li_icmp_ne (tgt := 77) hx hb (by unfold iR; omega) (by unfold iR; omega) dX2_tubeAndBox_70 (by decide) (fun h => absurd (by decide) h) (fun _ => ?_)
      refine li_iconst hx hb dX2_tubeAndBox_73 ?_
      refine lv_goto (tgt := 109) hx hb dX2_tubeAndBox_74 (by decide) ?_
      refine lv_istore (lv' := [(8, .int (iI 0)), (7, .int (iI 2)), (6, .int (iI ((0 + ((offv (mE (eff τ) p 0 0 0) (mE (eff τ) q 0 0 n0) (mE (eff τ) q 0 1 n0)) * (offv (mE (eff τ) p 0 0 0) (mE (eff τ) q 0 0 n0) (mE (eff τ) q 0 1 n0)))) + ((offv (mE (eff τ) p 1 0 0) (mE (eff τ) q 1 0 n0) (mE (eff τ) q 1 1 n0)) * (offv (mE (eff τ) p 1 0 0) (mE (eff τ) q 1 0 n0) (mE (eff τ) q 1 1 n0)))))), (5, .int (iI 2)), (0, .ref (ad 7 0)), (1, .int (iI p)), (2, .int (iI m0)), (3, .int (iI q)), (4, .int (iI n0))]) hx hb dX2_tubeAndBox_109 hl (by decide) rfl (fun ls hl => ?_)
      refine lv_iload hx hb dX2_tubeAndBox_111 (lv_at hl 2 rfl) ?_
      refine lv_iload hx hb dX2_tubeAndBox_113 (lv_at hl 0 rfl) ?_
      refine lv_iload hx hb dX2_tubeAndBox_115 (lv_at hl 0 rfl) ?_
      refine li_imul hx hb dX2_tubeAndBox_117 ?_
      refine W.eq (g2 := F0 mI 118 ls [.int (iI 0), .int (iI ((0 + ((offv (mE (eff τ) p 0 0 0) (mE (eff τ) q 0 0 n0) (mE (eff τ) q 0 1 n0)) * (offv (mE (eff τ) p 0 0 0) (mE (eff τ) q 0 0 n0) (mE (eff τ) q 0 1 n0)))) + ((offv (mE (eff τ) p 1 0 0) (mE (eff τ) q 1 0 n0) (mE (eff τ) q 1 1 n0)) * (offv (mE (eff τ) p 1 0 0) (mE (eff τ) q 1 0 n0) (mE (eff τ) q 1 1 n0)))))]) rfl ?_
      refine li_iadd hx hb dX2_tubeAndBox_118 ?_
      refine lv_istore (lv' := [(6, .int (iI (((0 + ((offv (mE (eff τ) p 0 0 0) (mE (eff τ) q 0 0 n0) (mE (eff τ) q 0 1 n0)) * (offv (mE (eff τ) p 0 0 0) (mE (eff τ) q 0 0 n0) (mE (eff τ) q 0 1 n0)))) + ((offv (mE (eff τ) p 1 0 0) (mE (eff τ) q 1 0 n0) (mE (eff τ) q 1 1 n0)) * (offv (mE (eff τ) p 1 0 0) (mE (eff τ) q 1 0 n0) (mE (eff τ) q 1 1 n0)))) + 0))), (8, .int (iI 0)), (7, .int (iI 2)), (5, .int (iI 2)), (0, .ref (ad 7 0)), (1, .int (iI p)), (2, .int (iI m0)), (3, .int (iI q)), (4, .int (iI n0))]) hx hb dX2_tubeAndBox_119 hl (by decide) rfl (fun ls hl => ?_)
      refine li_iinc (k0 := 2) (lv' := [(7, .int (iI (2 + 1))), (6, .int (iI (((0 + ((offv (mE (eff τ) p 0 0 0) (mE (eff τ) q 0 0 n0) (mE (eff τ) q 0 1 n0)) * (offv (mE (eff τ) p 0 0 0) (mE (eff τ) q 0 0 n0) (mE (eff τ) q 0 1 n0)))) + ((offv (mE (eff τ) p 1 0 0) (mE (eff τ) q 1 0 n0) (mE (eff τ) q 1 1 n0)) * (offv (mE (eff τ) p 1 0 0) (mE (eff τ) q 1 0 n0) (mE (eff τ) q 1 1 n0)))) + 0))), (8, .int (iI 0)), (5, .int (iI 2)), (0, .ref (ad 7 0)), (1, .int (iI p)), (2, .int (iI m0)), (3, .int (iI q)), (4, .int (iI n0))]) hx hb dX2_tubeAndBox_121 hl rfl (by decide) rfl (fun ls hl => ?_)
      have hl : lv_has ls 9 [(7, .int (iI 3)), (6, .int (iI (((0 + ((offv (mE (eff τ) p 0 0 0) (mE (eff τ) q 0 0 n0) (mE (eff τ) q 0 1 n0)) * (offv (mE (eff τ) p 0 0 0) (mE (eff τ) q 0 0 n0) (mE (eff τ) q 0 1 n0)))) + ((offv (mE (eff τ) p 1 0 0) (mE (eff τ) q 1 0 n0) (mE (eff τ) q 1 1 n0)) * (offv (mE (eff τ) p 1 0 0) (mE (eff τ) q 1 0 n0) (mE (eff τ) q 1 1 n0)))) + 0))), (8, .int (iI 0)), (5, .int (iI 2)), (0, .ref (ad 7 0)), (1, .int (iI p)), (2, .int (iI m0)), (3, .int (iI q)), (4, .int (iI n0))] := hl
      refine lv_goto (tgt := 60) hx hb dX2_tubeAndBox_124 (by decide) ?_
      refine lv_iload hx hb dX2_tubeAndBox_60 (lv_at hl 0 rfl) ?_
      refine li_iconst hx hb dX2_tubeAndBox_62 ?_
      refine li_icmp_ge (tgt := 127) hx hb (by unfold iR; omega) (by unfold iR; omega) dX2_tubeAndBox_63 (by decide) (fun _ => ?_) (fun h => absurd (by decide) h)
      refine lv_aload_n hx hb dX2_tubeAndBox_127 rfl (lv_at hl 4 rfl) ?_
      refine bg_X2_radii hx hb hts hinX2 hown hK hU (hts (.fieldLink RX2 23 "ClashBoxesModel" "radii" "[I") (by decide +kernel)) dX2_tubeAndBox_128 ?_
      refine lv_iload_n hx hb dX2_tubeAndBox_131 rfl (lv_at hl 5 rfl) ?_
      refine bl_12 hx hb hK hU (by omega) (by omega) dX2_tubeAndBox_132 ?_
      have b54 := bB6 hBt hqp
      refine lv_iload_n hx hb dX2_tubeAndBox_133 rfl (lv_at hl 6 rfl) ?_
      refine li_iadd hx hb dX2_tubeAndBox_134 ?_
      refine lv_istore (lv' := [(7, .int (iI ((τ 6 p 0) + m0))), (6, .int (iI (((0 + ((offv (mE (eff τ) p 0 0 0) (mE (eff τ) q 0 0 n0) (mE (eff τ) q 0 1 n0)) * (offv (mE (eff τ) p 0 0 0) (mE (eff τ) q 0 0 n0) (mE (eff τ) q 0 1 n0)))) + ((offv (mE (eff τ) p 1 0 0) (mE (eff τ) q 1 0 n0) (mE (eff τ) q 1 1 n0)) * (offv (mE (eff τ) p 1 0 0) (mE (eff τ) q 1 0 n0) (mE (eff τ) q 1 1 n0)))) + 0))), (8, .int (iI 0)), (5, .int (iI 2)), (0, .ref (ad 7 0)), (1, .int (iI p)), (2, .int (iI m0)), (3, .int (iI q)), (4, .int (iI n0))]) hx hb dX2_tubeAndBox_135 hl (by decide) rfl (fun ls hl => ?_)
      have b55 := sq_bd (x := (τ 6 p 0) + m0) (B := 250) (by omega) (by omega)
      refine lv_iload hx hb dX2_tubeAndBox_137 (lv_at hl 1 rfl) ?_
      refine lv_iload hx hb dX2_tubeAndBox_139 (lv_at hl 0 rfl) ?_
      refine lv_iload hx hb dX2_tubeAndBox_141 (lv_at hl 0 rfl) ?_
      refine li_imul hx hb dX2_tubeAndBox_143 ?_
      refine li_icmp_ge (tgt := 151) hx hb (by unfold iR; omega) (by unfold iR; omega) dX2_tubeAndBox_144 (by decide) (fun h56 => ?_) (fun h56 => ?_)
      · refine li_iconst hx hb dX2_tubeAndBox_151 ?_
        refine be_f hx hb hr hlocks ?_ dX2_tubeAndBox_152
        rw [hq2]; unfold tbx tsum tgap; rw [if_neg (by decide), if_neg (by decide), if_pos rfl]; (have e6 : eff τ 6 p 0 = τ 6 p 0 := rfl); rw [e6]; omega
      · refine li_iconst hx hb dX2_tubeAndBox_147 ?_
        refine lv_goto (tgt := 152) hx hb dX2_tubeAndBox_148 (by decide) ?_
        refine be_t hx hb hr hlocks ?_ dX2_tubeAndBox_152
        rw [hq2]; unfold tbx tsum tgap; rw [if_neg (by decide), if_neg (by decide), if_pos rfl]; (have e6 : eff τ 6 p 0 = τ 6 p 0 := rfl); rw [e6]; omega
    · refine li_if_ne (tgt := 54) hx hb (by unfold iR; omega) dX2_tubeAndBox_49 (by decide) (fun h => absurd (by decide) h) (fun _ => ?_)
      refine li_iconst hx hb dX2_tubeAndBox_52 ?_
      refine be_f hx hb hr hlocks ?_ dX2_tubeAndBox_53
      rw [hq2]; unfold tbx; omega
