theorem sqa_bd {x B : Int} (h0 : -B ≤ x) (h1 : x ≤ B) : 0 ≤ x * x ∧ x * x ≤ B * B := by
  by_cases h : 0 ≤ x
  · exact sq_bd h h1
  · have := sq_bd (x := -x) (B := B) (by omega) (by omega)
    rw [Int.neg_mul_neg] at this
    exact this
theorem mt_pos {ε : bxS} {p q m : Int} (h0 : 0 ≤ m) (hn : ¬ mt ε p 0 q) (h : mt ε p m q) : 0 < m := by
  by_cases hm : m = 0
  · subst hm; exact absurd h hn
  · omega

set_option maxHeartbeats 4000000 in
set_option maxRecDepth 100000 in
theorem c_X2_meets (l : Launch) (g : bxG) (ad : bxA) (σ τ : bxS) (w : bxW) (p m0 q : Int) (hqp : 0 ≤ p ∧ p < 60 ∧ τ 2 p 0 ≠ 0) (hqq : 0 ≤ q ∧ q < 60 ∧ τ 2 q 0 ≠ 0) (hBt : bx_B τ) (hM : bx_M τ) (hgm0 : 0 ≤ m0 ∧ m0 ≤ 50) : Met l yX2_meets wsX2_meets ({ frames := 3, cells := 0, slots := 0, locals := 78 }) (va_Pc [.ref (ad 7 0), .int (iI p), .int (iI m0), .int (iI q)] (fun U => bx_I g ad σ τ w U)) (k2_QcV (.int (iI (zB (mt (eff τ) p m0 q))))) 0 0 (fun _ => False) := by
  refine Met.ofW (cc := cX2_meets) (maxL := 8) (ret := (some .boolean)) (by decide) rfl ?_
  intro Pg Ev s mI args below meth cd s₁ B hml hv
  obtain ⟨rfl, hU, hK⟩ := hv
  have hx := B.exec
  have hb := B.bytes
  have hr := B.returns
  have hts := atoms_spec (ws := wsX2_meets) B.pre
  have hown : s.vm.findClass RX2 = some mI.cls := findClass_of_methodNamed B.named
  have hlocks := B.notSynchronized
  have hl := lv_entry ([.ref (ad 7 0), .int (iI p), .int (iI m0), .int (iI q)]) (n := 8) (Nat.le_of_ble_eq_true rfl)
  rw [lg_entry_eq]
  generalize (lg_sl ([.ref (ad 7 0), .int (iI p), .int (iI m0), .int (iI q)]) ++ List.replicate (8 - (lg_sl ([.ref (ad 7 0), .int (iI p), .int (iI m0), .int (iI q)])).length) Slot.unset).toArray = ls at hl ⊢
  have hl : lv_has ls 8 [(0, .ref (ad 7 0)), (1, .int (iI p)), (2, .int (iI m0)), (3, .int (iI q))] := hl
  have hinX2 : ∀ w ∈ wsX20, w ∈ wsX2_meets := by decide +kernel
  refine lv_aload_n hx hb dX2_meets_0 rfl (lv_at hl 0 rfl) ?_
  refine bg_X2_axes hx hb hts hinX2 hown hK hU (hts (.fieldLink RX2 20 "ClashBoxesModel" "axes" "[I") (by decide +kernel)) dX2_meets_1 ?_
  refine lv_iload_n hx hb dX2_meets_4 rfl (lv_at hl 1 rfl) ?_
  refine bl_11 hx hb hK hU (by omega) (by omega) dX2_meets_5 ?_
  have b1 := bB5 hBt hqp
  refine li_if_ge (tgt := 26) hx hb (by unfold iR; omega) dX2_meets_6 (by decide) (fun h2 => ?_) (fun h2 => ?_)
  · refine lv_aload_n hx hb dX2_meets_26 rfl (lv_at hl 0 rfl) ?_
    refine bg_X2_axes hx hb hts hinX2 hown hK hU (hts (.fieldLink RX2 20 "ClashBoxesModel" "axes" "[I") (by decide +kernel)) dX2_meets_27 ?_
    refine lv_iload_n hx hb dX2_meets_30 rfl (lv_at hl 3 rfl) ?_
    refine bl_11 hx hb hK hU (by omega) (by omega) dX2_meets_31 ?_
    have b3 := bB5 hBt hqq
    refine li_if_ge (tgt := 44) hx hb (by unfold iR; omega) dX2_meets_32 (by decide) (fun h4 => ?_) (fun h4 => ?_)
    · refine lv_aload_n hx hb dX2_meets_44 rfl (lv_at hl 0 rfl) ?_
      refine bg_X2_axes hx hb hts hinX2 hown hK hU (hts (.fieldLink RX2 20 "ClashBoxesModel" "axes" "[I") (by decide +kernel)) dX2_meets_45 ?_
      refine lv_iload_n hx hb dX2_meets_48 rfl (lv_at hl 1 rfl) ?_
      refine bl_11 hx hb hK hU (by omega) (by omega) dX2_meets_49 ?_
      have b5 := bB5 hBt hqp
      refine li_if_ge (tgt := 62) hx hb (by unfold iR; omega) dX2_meets_50 (by decide) (fun h6 => ?_) (fun h6 => ?_)
      · refine lv_aload_n hx hb dX2_meets_62 rfl (lv_at hl 0 rfl) ?_
        refine bg_X2_axes hx hb hts hinX2 hown hK hU (hts (.fieldLink RX2 20 "ClashBoxesModel" "axes" "[I") (by decide +kernel)) dX2_meets_63 ?_
        refine lv_iload_n hx hb dX2_meets_66 rfl (lv_at hl 1 rfl) ?_
        refine bl_11 hx hb hK hU (by omega) (by omega) dX2_meets_67 ?_
        have b7 := bB5 hBt hqp
        refine lv_aload_n hx hb dX2_meets_68 rfl (lv_at hl 0 rfl) ?_
        refine bg_X2_axes hx hb hts hinX2 hown hK hU (hts (.fieldLink RX2 20 "ClashBoxesModel" "axes" "[I") (by decide +kernel)) dX2_meets_69 ?_
        refine lv_iload_n hx hb dX2_meets_72 rfl (lv_at hl 3 rfl) ?_
        refine bl_11 hx hb hK hU (by omega) (by omega) dX2_meets_73 ?_
        have b8 := bB5 hBt hqq
        refine li_icmp_eq (tgt := 85) hx hb (by unfold iR; omega) (by unfold iR; omega) dX2_meets_74 (by decide) (fun h9 => ?_) (fun h9 => ?_)
        · refine lv_aload_n hx hb dX2_meets_85 rfl (lv_at hl 0 rfl) ?_
          refine bg_X2_axes hx hb hts hinX2 hown hK hU (hts (.fieldLink RX2 20 "ClashBoxesModel" "axes" "[I") (by decide +kernel)) dX2_meets_86 ?_
          refine lv_iload_n hx hb dX2_meets_89 rfl (lv_at hl 1 rfl) ?_
          refine bl_11 hx hb hK hU (by omega) (by omega) dX2_meets_90 ?_
          have b10 := bB5 hBt hqp
          rcases (by omega : τ 5 p 0 = 0 ∨ τ 5 p 0 = 1 ∨ τ 5 p 0 = 2) with hq11 | hq11 | hq11
          · refine W.eq (g2 := F0 mI 91 ls [.int (iI 0)]) (by rw [hq11]) ?_
            refine lv_istore (lv' := [(4, .int (iI 0)), (0, .ref (ad 7 0)), (1, .int (iI p)), (2, .int (iI m0)), (3, .int (iI q))]) hx hb dX2_meets_91 hl (by decide) rfl (fun ls hl => ?_)
            refine li_iconst hx hb dX2_meets_93 ?_
            refine lv_istore (lv' := [(5, .int (iI 0)), (4, .int (iI 0)), (0, .ref (ad 7 0)), (1, .int (iI p)), (2, .int (iI m0)), (3, .int (iI q))]) hx hb dX2_meets_94 hl (by decide) rfl (fun ls hl => ?_)
            refine li_iconst hx hb dX2_meets_96 ?_
            refine lv_istore (lv' := [(6, .int (iI 0)), (5, .int (iI 0)), (4, .int (iI 0)), (0, .ref (ad 7 0)), (1, .int (iI p)), (2, .int (iI m0)), (3, .int (iI q))]) hx hb dX2_meets_97 hl (by decide) rfl (fun ls hl => ?_)
            refine lv_iload hx hb dX2_meets_99 (lv_at hl 0 rfl) ?_
            refine li_iconst hx hb dX2_meets_101 ?_
            refine li_icmp_ge (tgt := 153) hx hb (by unfold iR; omega) (by unfold iR; omega) dX2_meets_102 (by decide) (fun h => absurd h (by decide)) (fun _ => ?_)
            refine lv_iload hx hb dX2_meets_105 (lv_at hl 0 rfl) ?_
            refine lv_iload hx hb dX2_meets_107 (lv_at hl 2 rfl) ?_
            refine li_icmp_ne (tgt := 116) hx hb (by unfold iR; omega) (by unfold iR; omega) dX2_meets_109 (by decide) (fun h => absurd (by decide) h) (fun _ => ?_)
            refine li_iconst hx hb dX2_meets_112 ?_
            refine lv_goto (tgt := 135) hx hb dX2_meets_113 (by decide) ?_
            refine lv_istore (lv' := [(7, .int (iI 0)), (6, .int (iI 0)), (5, .int (iI 0)), (4, .int (iI 0)), (0, .ref (ad 7 0)), (1, .int (iI p)), (2, .int (iI m0)), (3, .int (iI q))]) hx hb dX2_meets_135 hl (by decide) rfl (fun ls hl => ?_)
            refine lv_iload hx hb dX2_meets_137 (lv_at hl 2 rfl) ?_
            refine lv_iload hx hb dX2_meets_139 (lv_at hl 0 rfl) ?_
            refine lv_iload hx hb dX2_meets_141 (lv_at hl 0 rfl) ?_
            refine li_imul hx hb dX2_meets_143 ?_
            refine W.eq (g2 := F0 mI 144 ls [.int (iI 0), .int (iI 0)]) rfl ?_
            refine li_iadd hx hb dX2_meets_144 ?_
            refine W.eq (g2 := F0 mI 145 ls [.int (iI 0)]) rfl ?_
            refine lv_istore (lv' := [(5, .int (iI 0)), (7, .int (iI 0)), (6, .int (iI 0)), (4, .int (iI 0)), (0, .ref (ad 7 0)), (1, .int (iI p)), (2, .int (iI m0)), (3, .int (iI q))]) hx hb dX2_meets_145 hl (by decide) rfl (fun ls hl => ?_)
            refine li_iinc (k0 := 2) (lv' := [(6, .int (iI (0 + 1))), (5, .int (iI 0)), (7, .int (iI 0)), (4, .int (iI 0)), (0, .ref (ad 7 0)), (1, .int (iI p)), (2, .int (iI m0)), (3, .int (iI q))]) hx hb dX2_meets_147 hl rfl (by decide) rfl (fun ls hl => ?_)
            have hl : lv_has ls 8 [(6, .int (iI 1)), (5, .int (iI 0)), (7, .int (iI 0)), (4, .int (iI 0)), (0, .ref (ad 7 0)), (1, .int (iI p)), (2, .int (iI m0)), (3, .int (iI q))] := hl
            refine lv_goto (tgt := 99) hx hb dX2_meets_150 (by decide) ?_
            refine lv_iload hx hb dX2_meets_99 (lv_at hl 0 rfl) ?_
            refine li_iconst hx hb dX2_meets_101 ?_
            refine li_icmp_ge (tgt := 153) hx hb (by unfold iR; omega) (by unfold iR; omega) dX2_meets_102 (by decide) (fun h => absurd h (by decide)) (fun _ => ?_)
            refine lv_iload hx hb dX2_meets_105 (lv_at hl 0 rfl) ?_
            refine lv_iload hx hb dX2_meets_107 (lv_at hl 3 rfl) ?_
            refine li_icmp_ne (tgt := 116) hx hb (by unfold iR; omega) (by unfold iR; omega) dX2_meets_109 (by decide) (fun _ => ?_) (fun h => absurd h (by decide))
            refine lv_aload_n hx hb dX2_meets_116 rfl (lv_at hl 4 rfl) ?_
            refine lv_iload_n hx hb dX2_meets_117 rfl (lv_at hl 5 rfl) ?_
            refine lv_iload hx hb dX2_meets_118 (lv_at hl 0 rfl) ?_
            refine li_iconst hx hb dX2_meets_120 ?_
            refine li_iconst hx hb dX2_meets_121 ?_
            refine bc_V (As := [.int (iI p), .int (iI 1), .int (iI 0), .int (iI 0)]) (rest := []) (kd := 7) (k := 0) (ci := 2) ⟨hx, hb, hml, hown, hts⟩ (c_X2_end l g ad σ τ w p 1 0 0 hqp hBt hM (by omega) (by omega) (by omega)) (cwV 4 hts gX2_meets_X2_end rfl rfl rfl (by decide +kernel) ⟨Nat.le_of_ble_eq_true rfl, Nat.le_of_ble_eq_true rfl⟩) hK hU (bx_L0 (by omega)) rfl rfl rfl hl.1 rfl (Nat.le_of_ble_eq_true rfl) dX2_meets_122 ⟨Nat.zero_le _, Nat.zero_le _⟩ ?_
            have h12 := mE_bd hBt hM hqp (a := 1) (hi := 0) (gr := 0) (by omega) (by omega) (by omega)
            refine lv_aload_n hx hb dX2_meets_125 rfl (lv_at hl 4 rfl) ?_
            refine lv_iload_n hx hb dX2_meets_126 rfl (lv_at hl 7 rfl) ?_
            refine lv_iload hx hb dX2_meets_127 (lv_at hl 0 rfl) ?_
            refine li_iconst hx hb dX2_meets_129 ?_
            refine li_iconst hx hb dX2_meets_130 ?_
            refine bc_V (As := [.int (iI q), .int (iI 1), .int (iI 0), .int (iI 0)]) (rest := [.int (iI (mE (eff τ) p 1 0 0))]) (kd := 7) (k := 0) (ci := 2) ⟨hx, hb, hml, hown, hts⟩ (c_X2_end l g ad σ τ w q 1 0 0 hqq hBt hM (by omega) (by omega) (by omega)) (cwV 4 hts gX2_meets_X2_end rfl rfl rfl (by decide +kernel) ⟨Nat.le_of_ble_eq_true rfl, Nat.le_of_ble_eq_true rfl⟩) hK hU (bx_L0 (by omega)) rfl rfl rfl hl.1 rfl (Nat.le_of_ble_eq_true rfl) dX2_meets_131 ⟨Nat.zero_le _, Nat.zero_le _⟩ ?_
            have h13 := mE_bd hBt hM hqq (a := 1) (hi := 0) (gr := 0) (by omega) (by omega) (by omega)
            refine li_isub hx hb dX2_meets_134 ?_
            refine lv_istore (lv' := [(7, .int (iI ((mE (eff τ) p 1 0 0) - (mE (eff τ) q 1 0 0)))), (6, .int (iI 1)), (5, .int (iI 0)), (4, .int (iI 0)), (0, .ref (ad 7 0)), (1, .int (iI p)), (2, .int (iI m0)), (3, .int (iI q))]) hx hb dX2_meets_135 hl (by decide) rfl (fun ls hl => ?_)
            have b14 := sqa_bd (x := (mE (eff τ) p 1 0 0) - (mE (eff τ) q 1 0 0)) (B := 6000) (by omega) (by omega)
            refine lv_iload hx hb dX2_meets_137 (lv_at hl 2 rfl) ?_
            refine lv_iload hx hb dX2_meets_139 (lv_at hl 0 rfl) ?_
            refine lv_iload hx hb dX2_meets_141 (lv_at hl 0 rfl) ?_
            refine li_imul hx hb dX2_meets_143 ?_
            refine li_iadd hx hb dX2_meets_144 ?_
            refine lv_istore (lv' := [(5, .int (iI (0 + (((mE (eff τ) p 1 0 0) - (mE (eff τ) q 1 0 0)) * ((mE (eff τ) p 1 0 0) - (mE (eff τ) q 1 0 0)))))), (7, .int (iI ((mE (eff τ) p 1 0 0) - (mE (eff τ) q 1 0 0)))), (6, .int (iI 1)), (4, .int (iI 0)), (0, .ref (ad 7 0)), (1, .int (iI p)), (2, .int (iI m0)), (3, .int (iI q))]) hx hb dX2_meets_145 hl (by decide) rfl (fun ls hl => ?_)
            refine li_iinc (k0 := 2) (lv' := [(6, .int (iI (1 + 1))), (5, .int (iI (0 + (((mE (eff τ) p 1 0 0) - (mE (eff τ) q 1 0 0)) * ((mE (eff τ) p 1 0 0) - (mE (eff τ) q 1 0 0)))))), (7, .int (iI ((mE (eff τ) p 1 0 0) - (mE (eff τ) q 1 0 0)))), (4, .int (iI 0)), (0, .ref (ad 7 0)), (1, .int (iI p)), (2, .int (iI m0)), (3, .int (iI q))]) hx hb dX2_meets_147 hl rfl (by decide) rfl (fun ls hl => ?_)
            have hl : lv_has ls 8 [(6, .int (iI 2)), (5, .int (iI (0 + (((mE (eff τ) p 1 0 0) - (mE (eff τ) q 1 0 0)) * ((mE (eff τ) p 1 0 0) - (mE (eff τ) q 1 0 0)))))), (7, .int (iI ((mE (eff τ) p 1 0 0) - (mE (eff τ) q 1 0 0)))), (4, .int (iI 0)), (0, .ref (ad 7 0)), (1, .int (iI p)), (2, .int (iI m0)), (3, .int (iI q))] := hl
            refine lv_goto (tgt := 99) hx hb dX2_meets_150 (by decide) ?_
            refine lv_iload hx hb dX2_meets_99 (lv_at hl 0 rfl) ?_
            refine li_iconst hx hb dX2_meets_101 ?_
            refine li_icmp_ge (tgt := 153) hx hb (by unfold iR; omega) (by unfold iR; omega) dX2_meets_102 (by decide) (fun h => absurd h (by decide)) (fun _ => ?_)
            refine lv_iload hx hb dX2_meets_105 (lv_at hl 0 rfl) ?_
            refine lv_iload hx hb dX2_meets_107 (lv_at hl 3 rfl) ?_
            refine li_icmp_ne (tgt := 116) hx hb (by unfold iR; omega) (by unfold iR; omega) dX2_meets_109 (by decide) (fun _ => ?_) (fun h => absurd h (by decide))
            refine lv_aload_n hx hb dX2_meets_116 rfl (lv_at hl 4 rfl) ?_
            refine lv_iload_n hx hb dX2_meets_117 rfl (lv_at hl 5 rfl) ?_
            refine lv_iload hx hb dX2_meets_118 (lv_at hl 0 rfl) ?_
            refine li_iconst hx hb dX2_meets_120 ?_
            refine li_iconst hx hb dX2_meets_121 ?_
            refine bc_V (As := [.int (iI p), .int (iI 2), .int (iI 0), .int (iI 0)]) (rest := []) (kd := 7) (k := 0) (ci := 2) ⟨hx, hb, hml, hown, hts⟩ (c_X2_end l g ad σ τ w p 2 0 0 hqp hBt hM (by omega) (by omega) (by omega)) (cwV 4 hts gX2_meets_X2_end rfl rfl rfl (by decide +kernel) ⟨Nat.le_of_ble_eq_true rfl, Nat.le_of_ble_eq_true rfl⟩) hK hU (bx_L0 (by omega)) rfl rfl rfl hl.1 rfl (Nat.le_of_ble_eq_true rfl) dX2_meets_122 ⟨Nat.zero_le _, Nat.zero_le _⟩ ?_
            have h15 := mE_bd hBt hM hqp (a := 2) (hi := 0) (gr := 0) (by omega) (by omega) (by omega)
            refine lv_aload_n hx hb dX2_meets_125 rfl (lv_at hl 4 rfl) ?_
            refine lv_iload_n hx hb dX2_meets_126 rfl (lv_at hl 7 rfl) ?_
            refine lv_iload hx hb dX2_meets_127 (lv_at hl 0 rfl) ?_
            refine li_iconst hx hb dX2_meets_129 ?_
            refine li_iconst hx hb dX2_meets_130 ?_
            refine bc_V (As := [.int (iI q), .int (iI 2), .int (iI 0), .int (iI 0)]) (rest := [.int (iI (mE (eff τ) p 2 0 0))]) (kd := 7) (k := 0) (ci := 2) ⟨hx, hb, hml, hown, hts⟩ (c_X2_end l g ad σ τ w q 2 0 0 hqq hBt hM (by omega) (by omega) (by omega)) (cwV 4 hts gX2_meets_X2_end rfl rfl rfl (by decide +kernel) ⟨Nat.le_of_ble_eq_true rfl, Nat.le_of_ble_eq_true rfl⟩) hK hU (bx_L0 (by omega)) rfl rfl rfl hl.1 rfl (Nat.le_of_ble_eq_true rfl) dX2_meets_131 ⟨Nat.zero_le _, Nat.zero_le _⟩ ?_
            have h16 := mE_bd hBt hM hqq (a := 2) (hi := 0) (gr := 0) (by omega) (by omega) (by omega)
            refine li_isub hx hb dX2_meets_134 ?_
            refine lv_istore (lv' := [(7, .int (iI ((mE (eff τ) p 2 0 0) - (mE (eff τ) q 2 0 0)))), (6, .int (iI 2)), (5, .int (iI (0 + (((mE (eff τ) p 1 0 0) - (mE (eff τ) q 1 0 0)) * ((mE (eff τ) p 1 0 0) - (mE (eff τ) q 1 0 0)))))), (4, .int (iI 0)), (0, .ref (ad 7 0)), (1, .int (iI p)), (2, .int (iI m0)), (3, .int (iI q))]) hx hb dX2_meets_135 hl (by decide) rfl (fun ls hl => ?_)
            have b17 := sqa_bd (x := (mE (eff τ) p 2 0 0) - (mE (eff τ) q 2 0 0)) (B := 6000) (by omega) (by omega)
            refine lv_iload hx hb dX2_meets_137 (lv_at hl 2 rfl) ?_
            refine lv_iload hx hb dX2_meets_139 (lv_at hl 0 rfl) ?_
            refine lv_iload hx hb dX2_meets_141 (lv_at hl 0 rfl) ?_
            refine li_imul hx hb dX2_meets_143 ?_
            refine li_iadd hx hb dX2_meets_144 ?_
            refine lv_istore (lv' := [(5, .int (iI ((0 + (((mE (eff τ) p 1 0 0) - (mE (eff τ) q 1 0 0)) * ((mE (eff τ) p 1 0 0) - (mE (eff τ) q 1 0 0)))) + (((mE (eff τ) p 2 0 0) - (mE (eff τ) q 2 0 0)) * ((mE (eff τ) p 2 0 0) - (mE (eff τ) q 2 0 0)))))), (7, .int (iI ((mE (eff τ) p 2 0 0) - (mE (eff τ) q 2 0 0)))), (6, .int (iI 2)), (4, .int (iI 0)), (0, .ref (ad 7 0)), (1, .int (iI p)), (2, .int (iI m0)), (3, .int (iI q))]) hx hb dX2_meets_145 hl (by decide) rfl (fun ls hl => ?_)
            refine li_iinc (k0 := 2) (lv' := [(6, .int (iI (2 + 1))), (5, .int (iI ((0 + (((mE (eff τ) p 1 0 0) - (mE (eff τ) q 1 0 0)) * ((mE (eff τ) p 1 0 0) - (mE (eff τ) q 1 0 0)))) + (((mE (eff τ) p 2 0 0) - (mE (eff τ) q 2 0 0)) * ((mE (eff τ) p 2 0 0) - (mE (eff τ) q 2 0 0)))))), (7, .int (iI ((mE (eff τ) p 2 0 0) - (mE (eff τ) q 2 0 0)))), (4, .int (iI 0)), (0, .ref (ad 7 0)), (1, .int (iI p)), (2, .int (iI m0)), (3, .int (iI q))]) hx hb dX2_meets_147 hl rfl (by decide) rfl (fun ls hl => ?_)
            have hl : lv_has ls 8 [(6, .int (iI 3)), (5, .int (iI ((0 + (((mE (eff τ) p 1 0 0) - (mE (eff τ) q 1 0 0)) * ((mE (eff τ) p 1 0 0) - (mE (eff τ) q 1 0 0)))) + (((mE (eff τ) p 2 0 0) - (mE (eff τ) q 2 0 0)) * ((mE (eff τ) p 2 0 0) - (mE (eff τ) q 2 0 0)))))), (7, .int (iI ((mE (eff τ) p 2 0 0) - (mE (eff τ) q 2 0 0)))), (4, .int (iI 0)), (0, .ref (ad 7 0)), (1, .int (iI p)), (2, .int (iI m0)), (3, .int (iI q))] := hl
            refine lv_goto (tgt := 99) hx hb dX2_meets_150 (by decide) ?_
            refine lv_iload hx hb dX2_meets_99 (lv_at hl 0 rfl) ?_
            refine li_iconst hx hb dX2_meets_101 ?_
            refine li_icmp_ge (tgt := 153) hx hb (by unfold iR; omega) (by unfold iR; omega) dX2_meets_102 (by decide) (fun _ => ?_) (fun h => absurd (by decide) h)
            refine lv_aload_n hx hb dX2_meets_153 rfl (lv_at hl 4 rfl) ?_
            refine bg_X2_radii hx hb hts hinX2 hown hK hU (hts (.fieldLink RX2 23 "ClashBoxesModel" "radii" "[I") (by decide +kernel)) dX2_meets_154 ?_
            refine lv_iload_n hx hb dX2_meets_157 rfl (lv_at hl 5 rfl) ?_
            refine bl_12 hx hb hK hU (by omega) (by omega) dX2_meets_158 ?_
            have b18 := bB6 hBt hqp
            refine lv_iload_n hx hb dX2_meets_159 rfl (lv_at hl 6 rfl) ?_
            refine li_iadd hx hb dX2_meets_160 ?_
            refine lv_aload_n hx hb dX2_meets_161 rfl (lv_at hl 4 rfl) ?_
            refine bg_X2_radii hx hb hts hinX2 hown hK hU (hts (.fieldLink RX2 23 "ClashBoxesModel" "radii" "[I") (by decide +kernel)) dX2_meets_162 ?_
            refine lv_iload_n hx hb dX2_meets_165 rfl (lv_at hl 7 rfl) ?_
            refine bl_12 hx hb hK hU (by omega) (by omega) dX2_meets_166 ?_
            have b19 := bB6 hBt hqq
            refine li_iadd hx hb dX2_meets_167 ?_
            refine lv_istore (lv' := [(6, .int (iI (((τ 6 p 0) + m0) + (τ 6 q 0)))), (5, .int (iI ((0 + (((mE (eff τ) p 1 0 0) - (mE (eff τ) q 1 0 0)) * ((mE (eff τ) p 1 0 0) - (mE (eff τ) q 1 0 0)))) + (((mE (eff τ) p 2 0 0) - (mE (eff τ) q 2 0 0)) * ((mE (eff τ) p 2 0 0) - (mE (eff τ) q 2 0 0)))))), (7, .int (iI ((mE (eff τ) p 2 0 0) - (mE (eff τ) q 2 0 0)))), (4, .int (iI 0)), (0, .ref (ad 7 0)), (1, .int (iI p)), (2, .int (iI m0)), (3, .int (iI q))]) hx hb dX2_meets_168 hl (by decide) rfl (fun ls hl => ?_)
            have b20 := sq_bd (x := ((τ 6 p 0) + m0) + (τ 6 q 0)) (B := 450) (by omega) (by omega)
            refine lv_aload_n hx hb dX2_meets_170 rfl (lv_at hl 4 rfl) ?_
            refine lv_iload_n hx hb dX2_meets_171 rfl (lv_at hl 5 rfl) ?_
            refine lv_iload hx hb dX2_meets_172 (lv_at hl 3 rfl) ?_
            refine li_iconst hx hb dX2_meets_174 ?_
            refine lv_iload_n hx hb dX2_meets_175 rfl (lv_at hl 6 rfl) ?_
            refine bc_V (As := [.int (iI p), .int (iI 0), .int (iI 0), .int (iI m0)]) (rest := []) (kd := 7) (k := 0) (ci := 2) ⟨hx, hb, hml, hown, hts⟩ (c_X2_end l g ad σ τ w p 0 0 m0 hqp hBt hM (by omega) (by omega) (by omega)) (cwV 4 hts gX2_meets_X2_end rfl rfl rfl (by decide +kernel) ⟨Nat.le_of_ble_eq_true rfl, Nat.le_of_ble_eq_true rfl⟩) hK hU (bx_L0 (by omega)) rfl rfl rfl hl.1 rfl (Nat.le_of_ble_eq_true rfl) dX2_meets_176 ⟨Nat.zero_le _, Nat.zero_le _⟩ ?_
            have h21 := mE_bd hBt hM hqp (a := 0) (hi := 0) (gr := m0) (by omega) (by omega) (by omega)
            refine lv_aload_n hx hb dX2_meets_179 rfl (lv_at hl 4 rfl) ?_
            refine lv_iload_n hx hb dX2_meets_180 rfl (lv_at hl 5 rfl) ?_
            refine lv_iload hx hb dX2_meets_181 (lv_at hl 3 rfl) ?_
            refine li_iconst hx hb dX2_meets_183 ?_
            refine lv_iload_n hx hb dX2_meets_184 rfl (lv_at hl 6 rfl) ?_
            refine bc_V (As := [.int (iI p), .int (iI 0), .int (iI 1), .int (iI m0)]) (rest := [.int (iI (mE (eff τ) p 0 0 m0))]) (kd := 7) (k := 0) (ci := 2) ⟨hx, hb, hml, hown, hts⟩ (c_X2_end l g ad σ τ w p 0 1 m0 hqp hBt hM (by omega) (by omega) (by omega)) (cwV 4 hts gX2_meets_X2_end rfl rfl rfl (by decide +kernel) ⟨Nat.le_of_ble_eq_true rfl, Nat.le_of_ble_eq_true rfl⟩) hK hU (bx_L0 (by omega)) rfl rfl rfl hl.1 rfl (Nat.le_of_ble_eq_true rfl) dX2_meets_185 ⟨Nat.zero_le _, Nat.zero_le _⟩ ?_
            have h22 := mE_bd hBt hM hqp (a := 0) (hi := 1) (gr := m0) (by omega) (by omega) (by omega)
            refine lv_aload_n hx hb dX2_meets_188 rfl (lv_at hl 4 rfl) ?_
            refine lv_iload_n hx hb dX2_meets_189 rfl (lv_at hl 7 rfl) ?_
            refine lv_iload hx hb dX2_meets_190 (lv_at hl 3 rfl) ?_
            refine li_iconst hx hb dX2_meets_192 ?_
            refine li_iconst hx hb dX2_meets_193 ?_
            refine bc_V (As := [.int (iI q), .int (iI 0), .int (iI 0), .int (iI 0)]) (rest := [.int (iI (mE (eff τ) p 0 1 m0)), .int (iI (mE (eff τ) p 0 0 m0))]) (kd := 7) (k := 0) (ci := 2) ⟨hx, hb, hml, hown, hts⟩ (c_X2_end l g ad σ τ w q 0 0 0 hqq hBt hM (by omega) (by omega) (by omega)) (cwV 4 hts gX2_meets_X2_end rfl rfl rfl (by decide +kernel) ⟨Nat.le_of_ble_eq_true rfl, Nat.le_of_ble_eq_true rfl⟩) hK hU (bx_L0 (by omega)) rfl rfl rfl hl.1 rfl (Nat.le_of_ble_eq_true rfl) dX2_meets_194 ⟨Nat.zero_le _, Nat.zero_le _⟩ ?_
            have h23 := mE_bd hBt hM hqq (a := 0) (hi := 0) (gr := 0) (by omega) (by omega) (by omega)
            refine lv_aload_n hx hb dX2_meets_197 rfl (lv_at hl 4 rfl) ?_
            refine lv_iload_n hx hb dX2_meets_198 rfl (lv_at hl 7 rfl) ?_
            refine lv_iload hx hb dX2_meets_199 (lv_at hl 3 rfl) ?_
            refine li_iconst hx hb dX2_meets_201 ?_
            refine li_iconst hx hb dX2_meets_202 ?_
            refine bc_V (As := [.int (iI q), .int (iI 0), .int (iI 1), .int (iI 0)]) (rest := [.int (iI (mE (eff τ) q 0 0 0)), .int (iI (mE (eff τ) p 0 1 m0)), .int (iI (mE (eff τ) p 0 0 m0))]) (kd := 7) (k := 0) (ci := 2) ⟨hx, hb, hml, hown, hts⟩ (c_X2_end l g ad σ τ w q 0 1 0 hqq hBt hM (by omega) (by omega) (by omega)) (cwV 4 hts gX2_meets_X2_end rfl rfl rfl (by decide +kernel) ⟨Nat.le_of_ble_eq_true rfl, Nat.le_of_ble_eq_true rfl⟩) hK hU (bx_L0 (by omega)) rfl rfl rfl hl.1 rfl (Nat.le_of_ble_eq_true rfl) dX2_meets_203 ⟨Nat.zero_le _, Nat.zero_le _⟩ ?_
            have h24 := mE_bd hBt hM hqq (a := 0) (hi := 1) (gr := 0) (by omega) (by omega) (by omega)
            refine bc_SB (As := [.int (iI (mE (eff τ) p 0 0 m0)), .int (iI (mE (eff τ) p 0 1 m0)), .int (iI (mE (eff τ) q 0 0 0)), .int (iI (mE (eff τ) q 0 1 0))]) (rest := []) ⟨hx, hb, hml, hown, hts⟩ (c_X2_overlaps l g ad σ τ w (mE (eff τ) p 0 0 m0) (mE (eff τ) p 0 1 m0) (mE (eff τ) q 0 0 0) (mE (eff τ) q 0 1 0) (by unfold iR; omega) (by unfold iR; omega) (by unfold iR; omega) (by unfold iR; omega)) (va_cwS 4 hts gX2_meets_X2_overlaps rfl rfl rfl (by decide +kernel) ⟨Nat.le_of_ble_eq_true rfl, Nat.le_of_ble_eq_true rfl⟩) hK hU  rfl hl.1 rfl (Nat.le_of_ble_eq_true rfl) dX2_meets_206 ⟨Nat.zero_le _, Nat.zero_le _⟩ (fun h25 => ?_) (fun h25 => ?_)
            · refine li_if_eq (tgt := 226) hx hb (by unfold iR; omega) dX2_meets_209 (by decide) (fun h => absurd h (by decide)) (fun _ => ?_)
              refine lv_iload hx hb dX2_meets_212 (lv_at hl 1 rfl) ?_
              refine lv_iload hx hb dX2_meets_214 (lv_at hl 0 rfl) ?_
              refine lv_iload hx hb dX2_meets_216 (lv_at hl 0 rfl) ?_
              refine li_imul hx hb dX2_meets_218 ?_
              refine li_icmp_ge (tgt := 226) hx hb (by unfold iR; omega) (by unfold iR; omega) dX2_meets_219 (by decide) (fun h26 => ?_) (fun h26 => ?_)
              · refine li_iconst hx hb dX2_meets_226 ?_
                refine be_f hx hb hr hlocks ?_ dX2_meets_227
                rw [← mt_tt (wf_eff hBt hqp) (wf_eff hBt hqq) m0 (show eff τ 5 p 0 ≠ -1 by show τ 5 p 0 ≠ -1; omega) (show eff τ 5 q 0 = eff τ 5 p 0 by show τ 5 q 0 = τ 5 p 0; omega)]; (have e5 : eff τ 5 p 0 = 0 := hq11); (have e6 : eff τ 6 p 0 = τ 6 p 0 := rfl); (have e7 : eff τ 6 q 0 = τ 6 q 0 := rfl); rw [e5]; unfold ttx dsum; rw [if_pos rfl, if_neg (by decide), if_neg (by decide), e6, e7]; omega
              · refine li_iconst hx hb dX2_meets_222 ?_
                refine lv_goto (tgt := 227) hx hb dX2_meets_223 (by decide) ?_
                refine be_t hx hb hr hlocks ?_ dX2_meets_227
                rw [← mt_tt (wf_eff hBt hqp) (wf_eff hBt hqq) m0 (show eff τ 5 p 0 ≠ -1 by show τ 5 p 0 ≠ -1; omega) (show eff τ 5 q 0 = eff τ 5 p 0 by show τ 5 q 0 = τ 5 p 0; omega)]; (have e5 : eff τ 5 p 0 = 0 := hq11); (have e6 : eff τ 6 p 0 = τ 6 p 0 := rfl); (have e7 : eff τ 6 q 0 = τ 6 q 0 := rfl); rw [e5]; unfold ttx dsum; rw [if_pos rfl, if_neg (by decide), if_neg (by decide), e6, e7]; omega
            · refine li_if_eq (tgt := 226) hx hb (by unfold iR; omega) dX2_meets_209 (by decide) (fun _ => ?_) (fun h => absurd (by decide) h)
              refine li_iconst hx hb dX2_meets_226 ?_
              refine be_f hx hb hr hlocks ?_ dX2_meets_227
              rw [← mt_tt (wf_eff hBt hqp) (wf_eff hBt hqq) m0 (show eff τ 5 p 0 ≠ -1 by show τ 5 p 0 ≠ -1; omega) (show eff τ 5 q 0 = eff τ 5 p 0 by show τ 5 q 0 = τ 5 p 0; omega)]; (have e5 : eff τ 5 p 0 = 0 := hq11); (have e6 : eff τ 6 p 0 = τ 6 p 0 := rfl); (have e7 : eff τ 6 q 0 = τ 6 q 0 := rfl); rw [e5]; unfold ttx dsum; rw [if_pos rfl, if_neg (by decide), if_neg (by decide), e6, e7]; omega
          · refine W.eq (g2 := F0 mI 91 ls [.int (iI 1)]) (by rw [hq11]) ?_
            refine lv_istore (lv' := [(4, .int (iI 1)), (0, .ref (ad 7 0)), (1, .int (iI p)), (2, .int (iI m0)), (3, .int (iI q))]) hx hb dX2_meets_91 hl (by decide) rfl (fun ls hl => ?_)
            refine li_iconst hx hb dX2_meets_93 ?_
            refine lv_istore (lv' := [(5, .int (iI 0)), (4, .int (iI 1)), (0, .ref (ad 7 0)), (1, .int (iI p)), (2, .int (iI m0)), (3, .int (iI q))]) hx hb dX2_meets_94 hl (by decide) rfl (fun ls hl => ?_)
            refine li_iconst hx hb dX2_meets_96 ?_
            refine lv_istore (lv' := [(6, .int (iI 0)), (5, .int (iI 0)), (4, .int (iI 1)), (0, .ref (ad 7 0)), (1, .int (iI p)), (2, .int (iI m0)), (3, .int (iI q))]) hx hb dX2_meets_97 hl (by decide) rfl (fun ls hl => ?_)
            refine lv_iload hx hb dX2_meets_99 (lv_at hl 0 rfl) ?_
            refine li_iconst hx hb dX2_meets_101 ?_
            refine li_icmp_ge (tgt := 153) hx hb (by unfold iR; omega) (by unfold iR; omega) dX2_meets_102 (by decide) (fun h => absurd h (by decide)) (fun _ => ?_)
            refine lv_iload hx hb dX2_meets_105 (lv_at hl 0 rfl) ?_
            refine lv_iload hx hb dX2_meets_107 (lv_at hl 2 rfl) ?_
            refine li_icmp_ne (tgt := 116) hx hb (by unfold iR; omega) (by unfold iR; omega) dX2_meets_109 (by decide) (fun _ => ?_) (fun h => absurd h (by decide))
            refine lv_aload_n hx hb dX2_meets_116 rfl (lv_at hl 3 rfl) ?_
            refine lv_iload_n hx hb dX2_meets_117 rfl (lv_at hl 4 rfl) ?_
            refine lv_iload hx hb dX2_meets_118 (lv_at hl 0 rfl) ?_
            refine li_iconst hx hb dX2_meets_120 ?_
            refine li_iconst hx hb dX2_meets_121 ?_
            refine bc_V (As := [.int (iI p), .int (iI 0), .int (iI 0), .int (iI 0)]) (rest := []) (kd := 7) (k := 0) (ci := 2) ⟨hx, hb, hml, hown, hts⟩ (c_X2_end l g ad σ τ w p 0 0 0 hqp hBt hM (by omega) (by omega) (by omega)) (cwV 4 hts gX2_meets_X2_end rfl rfl rfl (by decide +kernel) ⟨Nat.le_of_ble_eq_true rfl, Nat.le_of_ble_eq_true rfl⟩) hK hU (bx_L0 (by omega)) rfl rfl rfl hl.1 rfl (Nat.le_of_ble_eq_true rfl) dX2_meets_122 ⟨Nat.zero_le _, Nat.zero_le _⟩ ?_
            have h27 := mE_bd hBt hM hqp (a := 0) (hi := 0) (gr := 0) (by omega) (by omega) (by omega)
            refine lv_aload_n hx hb dX2_meets_125 rfl (lv_at hl 3 rfl) ?_
            refine lv_iload_n hx hb dX2_meets_126 rfl (lv_at hl 6 rfl) ?_
            refine lv_iload hx hb dX2_meets_127 (lv_at hl 0 rfl) ?_
            refine li_iconst hx hb dX2_meets_129 ?_
            refine li_iconst hx hb dX2_meets_130 ?_
            refine bc_V (As := [.int (iI q), .int (iI 0), .int (iI 0), .int (iI 0)]) (rest := [.int (iI (mE (eff τ) p 0 0 0))]) (kd := 7) (k := 0) (ci := 2) ⟨hx, hb, hml, hown, hts⟩ (c_X2_end l g ad σ τ w q 0 0 0 hqq hBt hM (by omega) (by omega) (by omega)) (cwV 4 hts gX2_meets_X2_end rfl rfl rfl (by decide +kernel) ⟨Nat.le_of_ble_eq_true rfl, Nat.le_of_ble_eq_true rfl⟩) hK hU (bx_L0 (by omega)) rfl rfl rfl hl.1 rfl (Nat.le_of_ble_eq_true rfl) dX2_meets_131 ⟨Nat.zero_le _, Nat.zero_le _⟩ ?_
            have h28 := mE_bd hBt hM hqq (a := 0) (hi := 0) (gr := 0) (by omega) (by omega) (by omega)
            refine li_isub hx hb dX2_meets_134 ?_
            refine lv_istore (lv' := [(7, .int (iI ((mE (eff τ) p 0 0 0) - (mE (eff τ) q 0 0 0)))), (6, .int (iI 0)), (5, .int (iI 0)), (4, .int (iI 1)), (0, .ref (ad 7 0)), (1, .int (iI p)), (2, .int (iI m0)), (3, .int (iI q))]) hx hb dX2_meets_135 hl (by decide) rfl (fun ls hl => ?_)
            have b29 := sqa_bd (x := (mE (eff τ) p 0 0 0) - (mE (eff τ) q 0 0 0)) (B := 6000) (by omega) (by omega)
            refine lv_iload hx hb dX2_meets_137 (lv_at hl 2 rfl) ?_
            refine lv_iload hx hb dX2_meets_139 (lv_at hl 0 rfl) ?_
            refine lv_iload hx hb dX2_meets_141 (lv_at hl 0 rfl) ?_
            refine li_imul hx hb dX2_meets_143 ?_
            refine li_iadd hx hb dX2_meets_144 ?_
            refine lv_istore (lv' := [(5, .int (iI (0 + (((mE (eff τ) p 0 0 0) - (mE (eff τ) q 0 0 0)) * ((mE (eff τ) p 0 0 0) - (mE (eff τ) q 0 0 0)))))), (7, .int (iI ((mE (eff τ) p 0 0 0) - (mE (eff τ) q 0 0 0)))), (6, .int (iI 0)), (4, .int (iI 1)), (0, .ref (ad 7 0)), (1, .int (iI p)), (2, .int (iI m0)), (3, .int (iI q))]) hx hb dX2_meets_145 hl (by decide) rfl (fun ls hl => ?_)
            refine li_iinc (k0 := 2) (lv' := [(6, .int (iI (0 + 1))), (5, .int (iI (0 + (((mE (eff τ) p 0 0 0) - (mE (eff τ) q 0 0 0)) * ((mE (eff τ) p 0 0 0) - (mE (eff τ) q 0 0 0)))))), (7, .int (iI ((mE (eff τ) p 0 0 0) - (mE (eff τ) q 0 0 0)))), (4, .int (iI 1)), (0, .ref (ad 7 0)), (1, .int (iI p)), (2, .int (iI m0)), (3, .int (iI q))]) hx hb dX2_meets_147 hl rfl (by decide) rfl (fun ls hl => ?_)
            have hl : lv_has ls 8 [(6, .int (iI 1)), (5, .int (iI (0 + (((mE (eff τ) p 0 0 0) - (mE (eff τ) q 0 0 0)) * ((mE (eff τ) p 0 0 0) - (mE (eff τ) q 0 0 0)))))), (7, .int (iI ((mE (eff τ) p 0 0 0) - (mE (eff τ) q 0 0 0)))), (4, .int (iI 1)), (0, .ref (ad 7 0)), (1, .int (iI p)), (2, .int (iI m0)), (3, .int (iI q))] := hl
            refine lv_goto (tgt := 99) hx hb dX2_meets_150 (by decide) ?_
            refine lv_iload hx hb dX2_meets_99 (lv_at hl 0 rfl) ?_
            refine li_iconst hx hb dX2_meets_101 ?_
            refine li_icmp_ge (tgt := 153) hx hb (by unfold iR; omega) (by unfold iR; omega) dX2_meets_102 (by decide) (fun h => absurd h (by decide)) (fun _ => ?_)
            refine lv_iload hx hb dX2_meets_105 (lv_at hl 0 rfl) ?_
            refine lv_iload hx hb dX2_meets_107 (lv_at hl 3 rfl) ?_
            refine li_icmp_ne (tgt := 116) hx hb (by unfold iR; omega) (by unfold iR; omega) dX2_meets_109 (by decide) (fun h => absurd (by decide) h) (fun _ => ?_)
            refine li_iconst hx hb dX2_meets_112 ?_
            refine lv_goto (tgt := 135) hx hb dX2_meets_113 (by decide) ?_
            refine lv_istore (lv' := [(7, .int (iI 0)), (6, .int (iI 1)), (5, .int (iI (0 + (((mE (eff τ) p 0 0 0) - (mE (eff τ) q 0 0 0)) * ((mE (eff τ) p 0 0 0) - (mE (eff τ) q 0 0 0)))))), (4, .int (iI 1)), (0, .ref (ad 7 0)), (1, .int (iI p)), (2, .int (iI m0)), (3, .int (iI q))]) hx hb dX2_meets_135 hl (by decide) rfl (fun ls hl => ?_)
            refine lv_iload hx hb dX2_meets_137 (lv_at hl 2 rfl) ?_
            refine lv_iload hx hb dX2_meets_139 (lv_at hl 0 rfl) ?_
            refine lv_iload hx hb dX2_meets_141 (lv_at hl 0 rfl) ?_
            refine li_imul hx hb dX2_meets_143 ?_
            refine W.eq (g2 := F0 mI 144 ls [.int (iI 0), .int (iI (0 + (((mE (eff τ) p 0 0 0) - (mE (eff τ) q 0 0 0)) * ((mE (eff τ) p 0 0 0) - (mE (eff τ) q 0 0 0)))))]) rfl ?_
            refine li_iadd hx hb dX2_meets_144 ?_
            refine lv_istore (lv' := [(5, .int (iI ((0 + (((mE (eff τ) p 0 0 0) - (mE (eff τ) q 0 0 0)) * ((mE (eff τ) p 0 0 0) - (mE (eff τ) q 0 0 0)))) + 0))), (7, .int (iI 0)), (6, .int (iI 1)), (4, .int (iI 1)), (0, .ref (ad 7 0)), (1, .int (iI p)), (2, .int (iI m0)), (3, .int (iI q))]) hx hb dX2_meets_145 hl (by decide) rfl (fun ls hl => ?_)
            refine li_iinc (k0 := 2) (lv' := [(6, .int (iI (1 + 1))), (5, .int (iI ((0 + (((mE (eff τ) p 0 0 0) - (mE (eff τ) q 0 0 0)) * ((mE (eff τ) p 0 0 0) - (mE (eff τ) q 0 0 0)))) + 0))), (7, .int (iI 0)), (4, .int (iI 1)), (0, .ref (ad 7 0)), (1, .int (iI p)), (2, .int (iI m0)), (3, .int (iI q))]) hx hb dX2_meets_147 hl rfl (by decide) rfl (fun ls hl => ?_)
            have hl : lv_has ls 8 [(6, .int (iI 2)), (5, .int (iI ((0 + (((mE (eff τ) p 0 0 0) - (mE (eff τ) q 0 0 0)) * ((mE (eff τ) p 0 0 0) - (mE (eff τ) q 0 0 0)))) + 0))), (7, .int (iI 0)), (4, .int (iI 1)), (0, .ref (ad 7 0)), (1, .int (iI p)), (2, .int (iI m0)), (3, .int (iI q))] := hl
            refine lv_goto (tgt := 99) hx hb dX2_meets_150 (by decide) ?_
            refine lv_iload hx hb dX2_meets_99 (lv_at hl 0 rfl) ?_
            refine li_iconst hx hb dX2_meets_101 ?_
            refine li_icmp_ge (tgt := 153) hx hb (by unfold iR; omega) (by unfold iR; omega) dX2_meets_102 (by decide) (fun h => absurd h (by decide)) (fun _ => ?_)
            refine lv_iload hx hb dX2_meets_105 (lv_at hl 0 rfl) ?_
            refine lv_iload hx hb dX2_meets_107 (lv_at hl 3 rfl) ?_
            refine li_icmp_ne (tgt := 116) hx hb (by unfold iR; omega) (by unfold iR; omega) dX2_meets_109 (by decide) (fun _ => ?_) (fun h => absurd h (by decide))
            refine lv_aload_n hx hb dX2_meets_116 rfl (lv_at hl 4 rfl) ?_
            refine lv_iload_n hx hb dX2_meets_117 rfl (lv_at hl 5 rfl) ?_
            refine lv_iload hx hb dX2_meets_118 (lv_at hl 0 rfl) ?_
            refine li_iconst hx hb dX2_meets_120 ?_
            refine li_iconst hx hb dX2_meets_121 ?_
            refine bc_V (As := [.int (iI p), .int (iI 2), .int (iI 0), .int (iI 0)]) (rest := []) (kd := 7) (k := 0) (ci := 2) ⟨hx, hb, hml, hown, hts⟩ (c_X2_end l g ad σ τ w p 2 0 0 hqp hBt hM (by omega) (by omega) (by omega)) (cwV 4 hts gX2_meets_X2_end rfl rfl rfl (by decide +kernel) ⟨Nat.le_of_ble_eq_true rfl, Nat.le_of_ble_eq_true rfl⟩) hK hU (bx_L0 (by omega)) rfl rfl rfl hl.1 rfl (Nat.le_of_ble_eq_true rfl) dX2_meets_122 ⟨Nat.zero_le _, Nat.zero_le _⟩ ?_
            have h30 := mE_bd hBt hM hqp (a := 2) (hi := 0) (gr := 0) (by omega) (by omega) (by omega)
            refine lv_aload_n hx hb dX2_meets_125 rfl (lv_at hl 4 rfl) ?_
            refine lv_iload_n hx hb dX2_meets_126 rfl (lv_at hl 7 rfl) ?_
            refine lv_iload hx hb dX2_meets_127 (lv_at hl 0 rfl) ?_
            refine li_iconst hx hb dX2_meets_129 ?_
            refine li_iconst hx hb dX2_meets_130 ?_
            refine bc_V (As := [.int (iI q), .int (iI 2), .int (iI 0), .int (iI 0)]) (rest := [.int (iI (mE (eff τ) p 2 0 0))]) (kd := 7) (k := 0) (ci := 2) ⟨hx, hb, hml, hown, hts⟩ (c_X2_end l g ad σ τ w q 2 0 0 hqq hBt hM (by omega) (by omega) (by omega)) (cwV 4 hts gX2_meets_X2_end rfl rfl rfl (by decide +kernel) ⟨Nat.le_of_ble_eq_true rfl, Nat.le_of_ble_eq_true rfl⟩) hK hU (bx_L0 (by omega)) rfl rfl rfl hl.1 rfl (Nat.le_of_ble_eq_true rfl) dX2_meets_131 ⟨Nat.zero_le _, Nat.zero_le _⟩ ?_
            have h31 := mE_bd hBt hM hqq (a := 2) (hi := 0) (gr := 0) (by omega) (by omega) (by omega)
            refine li_isub hx hb dX2_meets_134 ?_
            refine lv_istore (lv' := [(7, .int (iI ((mE (eff τ) p 2 0 0) - (mE (eff τ) q 2 0 0)))), (6, .int (iI 2)), (5, .int (iI ((0 + (((mE (eff τ) p 0 0 0) - (mE (eff τ) q 0 0 0)) * ((mE (eff τ) p 0 0 0) - (mE (eff τ) q 0 0 0)))) + 0))), (4, .int (iI 1)), (0, .ref (ad 7 0)), (1, .int (iI p)), (2, .int (iI m0)), (3, .int (iI q))]) hx hb dX2_meets_135 hl (by decide) rfl (fun ls hl => ?_)
            have b32 := sqa_bd (x := (mE (eff τ) p 2 0 0) - (mE (eff τ) q 2 0 0)) (B := 6000) (by omega) (by omega)
            refine lv_iload hx hb dX2_meets_137 (lv_at hl 2 rfl) ?_
            refine lv_iload hx hb dX2_meets_139 (lv_at hl 0 rfl) ?_
            refine lv_iload hx hb dX2_meets_141 (lv_at hl 0 rfl) ?_
            refine li_imul hx hb dX2_meets_143 ?_
            refine li_iadd hx hb dX2_meets_144 ?_
            refine lv_istore (lv' := [(5, .int (iI (((0 + (((mE (eff τ) p 0 0 0) - (mE (eff τ) q 0 0 0)) * ((mE (eff τ) p 0 0 0) - (mE (eff τ) q 0 0 0)))) + 0) + (((mE (eff τ) p 2 0 0) - (mE (eff τ) q 2 0 0)) * ((mE (eff τ) p 2 0 0) - (mE (eff τ) q 2 0 0)))))), (7, .int (iI ((mE (eff τ) p 2 0 0) - (mE (eff τ) q 2 0 0)))), (6, .int (iI 2)), (4, .int (iI 1)), (0, .ref (ad 7 0)), (1, .int (iI p)), (2, .int (iI m0)), (3, .int (iI q))]) hx hb dX2_meets_145 hl (by decide) rfl (fun ls hl => ?_)
            refine li_iinc (k0 := 2) (lv' := [(6, .int (iI (2 + 1))), (5, .int (iI (((0 + (((mE (eff τ) p 0 0 0) - (mE (eff τ) q 0 0 0)) * ((mE (eff τ) p 0 0 0) - (mE (eff τ) q 0 0 0)))) + 0) + (((mE (eff τ) p 2 0 0) - (mE (eff τ) q 2 0 0)) * ((mE (eff τ) p 2 0 0) - (mE (eff τ) q 2 0 0)))))), (7, .int (iI ((mE (eff τ) p 2 0 0) - (mE (eff τ) q 2 0 0)))), (4, .int (iI 1)), (0, .ref (ad 7 0)), (1, .int (iI p)), (2, .int (iI m0)), (3, .int (iI q))]) hx hb dX2_meets_147 hl rfl (by decide) rfl (fun ls hl => ?_)
            have hl : lv_has ls 8 [(6, .int (iI 3)), (5, .int (iI (((0 + (((mE (eff τ) p 0 0 0) - (mE (eff τ) q 0 0 0)) * ((mE (eff τ) p 0 0 0) - (mE (eff τ) q 0 0 0)))) + 0) + (((mE (eff τ) p 2 0 0) - (mE (eff τ) q 2 0 0)) * ((mE (eff τ) p 2 0 0) - (mE (eff τ) q 2 0 0)))))), (7, .int (iI ((mE (eff τ) p 2 0 0) - (mE (eff τ) q 2 0 0)))), (4, .int (iI 1)), (0, .ref (ad 7 0)), (1, .int (iI p)), (2, .int (iI m0)), (3, .int (iI q))] := hl
            refine lv_goto (tgt := 99) hx hb dX2_meets_150 (by decide) ?_
            refine lv_iload hx hb dX2_meets_99 (lv_at hl 0 rfl) ?_
            refine li_iconst hx hb dX2_meets_101 ?_
            refine li_icmp_ge (tgt := 153) hx hb (by unfold iR; omega) (by unfold iR; omega) dX2_meets_102 (by decide) (fun _ => ?_) (fun h => absurd (by decide) h)
            refine lv_aload_n hx hb dX2_meets_153 rfl (lv_at hl 4 rfl) ?_
            refine bg_X2_radii hx hb hts hinX2 hown hK hU (hts (.fieldLink RX2 23 "ClashBoxesModel" "radii" "[I") (by decide +kernel)) dX2_meets_154 ?_
            refine lv_iload_n hx hb dX2_meets_157 rfl (lv_at hl 5 rfl) ?_
            refine bl_12 hx hb hK hU (by omega) (by omega) dX2_meets_158 ?_
            have b33 := bB6 hBt hqp
            refine lv_iload_n hx hb dX2_meets_159 rfl (lv_at hl 6 rfl) ?_
            refine li_iadd hx hb dX2_meets_160 ?_
            refine lv_aload_n hx hb dX2_meets_161 rfl (lv_at hl 4 rfl) ?_
            refine bg_X2_radii hx hb hts hinX2 hown hK hU (hts (.fieldLink RX2 23 "ClashBoxesModel" "radii" "[I") (by decide +kernel)) dX2_meets_162 ?_
            refine lv_iload_n hx hb dX2_meets_165 rfl (lv_at hl 7 rfl) ?_
            refine bl_12 hx hb hK hU (by omega) (by omega) dX2_meets_166 ?_
            have b34 := bB6 hBt hqq
            refine li_iadd hx hb dX2_meets_167 ?_
            refine lv_istore (lv' := [(6, .int (iI (((τ 6 p 0) + m0) + (τ 6 q 0)))), (5, .int (iI (((0 + (((mE (eff τ) p 0 0 0) - (mE (eff τ) q 0 0 0)) * ((mE (eff τ) p 0 0 0) - (mE (eff τ) q 0 0 0)))) + 0) + (((mE (eff τ) p 2 0 0) - (mE (eff τ) q 2 0 0)) * ((mE (eff τ) p 2 0 0) - (mE (eff τ) q 2 0 0)))))), (7, .int (iI ((mE (eff τ) p 2 0 0) - (mE (eff τ) q 2 0 0)))), (4, .int (iI 1)), (0, .ref (ad 7 0)), (1, .int (iI p)), (2, .int (iI m0)), (3, .int (iI q))]) hx hb dX2_meets_168 hl (by decide) rfl (fun ls hl => ?_)
            have b35 := sq_bd (x := ((τ 6 p 0) + m0) + (τ 6 q 0)) (B := 450) (by omega) (by omega)
            refine lv_aload_n hx hb dX2_meets_170 rfl (lv_at hl 4 rfl) ?_
            refine lv_iload_n hx hb dX2_meets_171 rfl (lv_at hl 5 rfl) ?_
            refine lv_iload hx hb dX2_meets_172 (lv_at hl 3 rfl) ?_
            refine li_iconst hx hb dX2_meets_174 ?_
            refine lv_iload_n hx hb dX2_meets_175 rfl (lv_at hl 6 rfl) ?_
            refine bc_V (As := [.int (iI p), .int (iI 1), .int (iI 0), .int (iI m0)]) (rest := []) (kd := 7) (k := 0) (ci := 2) ⟨hx, hb, hml, hown, hts⟩ (c_X2_end l g ad σ τ w p 1 0 m0 hqp hBt hM (by omega) (by omega) (by omega)) (cwV 4 hts gX2_meets_X2_end rfl rfl rfl (by decide +kernel) ⟨Nat.le_of_ble_eq_true rfl, Nat.le_of_ble_eq_true rfl⟩) hK hU (bx_L0 (by omega)) rfl rfl rfl hl.1 rfl (Nat.le_of_ble_eq_true rfl) dX2_meets_176 ⟨Nat.zero_le _, Nat.zero_le _⟩ ?_
            have h36 := mE_bd hBt hM hqp (a := 1) (hi := 0) (gr := m0) (by omega) (by omega) (by omega)
            refine lv_aload_n hx hb dX2_meets_179 rfl (lv_at hl 4 rfl) ?_
            refine lv_iload_n hx hb dX2_meets_180 rfl (lv_at hl 5 rfl) ?_
            refine lv_iload hx hb dX2_meets_181 (lv_at hl 3 rfl) ?_
            refine li_iconst hx hb dX2_meets_183 ?_
            refine lv_iload_n hx hb dX2_meets_184 rfl (lv_at hl 6 rfl) ?_
            refine bc_V (As := [.int (iI p), .int (iI 1), .int (iI 1), .int (iI m0)]) (rest := [.int (iI (mE (eff τ) p 1 0 m0))]) (kd := 7) (k := 0) (ci := 2) ⟨hx, hb, hml, hown, hts⟩ (c_X2_end l g ad σ τ w p 1 1 m0 hqp hBt hM (by omega) (by omega) (by omega)) (cwV 4 hts gX2_meets_X2_end rfl rfl rfl (by decide +kernel) ⟨Nat.le_of_ble_eq_true rfl, Nat.le_of_ble_eq_true rfl⟩) hK hU (bx_L0 (by omega)) rfl rfl rfl hl.1 rfl (Nat.le_of_ble_eq_true rfl) dX2_meets_185 ⟨Nat.zero_le _, Nat.zero_le _⟩ ?_
            have h37 := mE_bd hBt hM hqp (a := 1) (hi := 1) (gr := m0) (by omega) (by omega) (by omega)
            refine lv_aload_n hx hb dX2_meets_188 rfl (lv_at hl 4 rfl) ?_
            refine lv_iload_n hx hb dX2_meets_189 rfl (lv_at hl 7 rfl) ?_
            refine lv_iload hx hb dX2_meets_190 (lv_at hl 3 rfl) ?_
            refine li_iconst hx hb dX2_meets_192 ?_
            refine li_iconst hx hb dX2_meets_193 ?_
            refine bc_V (As := [.int (iI q), .int (iI 1), .int (iI 0), .int (iI 0)]) (rest := [.int (iI (mE (eff τ) p 1 1 m0)), .int (iI (mE (eff τ) p 1 0 m0))]) (kd := 7) (k := 0) (ci := 2) ⟨hx, hb, hml, hown, hts⟩ (c_X2_end l g ad σ τ w q 1 0 0 hqq hBt hM (by omega) (by omega) (by omega)) (cwV 4 hts gX2_meets_X2_end rfl rfl rfl (by decide +kernel) ⟨Nat.le_of_ble_eq_true rfl, Nat.le_of_ble_eq_true rfl⟩) hK hU (bx_L0 (by omega)) rfl rfl rfl hl.1 rfl (Nat.le_of_ble_eq_true rfl) dX2_meets_194 ⟨Nat.zero_le _, Nat.zero_le _⟩ ?_
            have h38 := mE_bd hBt hM hqq (a := 1) (hi := 0) (gr := 0) (by omega) (by omega) (by omega)
            refine lv_aload_n hx hb dX2_meets_197 rfl (lv_at hl 4 rfl) ?_
            refine lv_iload_n hx hb dX2_meets_198 rfl (lv_at hl 7 rfl) ?_
            refine lv_iload hx hb dX2_meets_199 (lv_at hl 3 rfl) ?_
            refine li_iconst hx hb dX2_meets_201 ?_
            refine li_iconst hx hb dX2_meets_202 ?_
            refine bc_V (As := [.int (iI q), .int (iI 1), .int (iI 1), .int (iI 0)]) (rest := [.int (iI (mE (eff τ) q 1 0 0)), .int (iI (mE (eff τ) p 1 1 m0)), .int (iI (mE (eff τ) p 1 0 m0))]) (kd := 7) (k := 0) (ci := 2) ⟨hx, hb, hml, hown, hts⟩ (c_X2_end l g ad σ τ w q 1 1 0 hqq hBt hM (by omega) (by omega) (by omega)) (cwV 4 hts gX2_meets_X2_end rfl rfl rfl (by decide +kernel) ⟨Nat.le_of_ble_eq_true rfl, Nat.le_of_ble_eq_true rfl⟩) hK hU (bx_L0 (by omega)) rfl rfl rfl hl.1 rfl (Nat.le_of_ble_eq_true rfl) dX2_meets_203 ⟨Nat.zero_le _, Nat.zero_le _⟩ ?_
            have h39 := mE_bd hBt hM hqq (a := 1) (hi := 1) (gr := 0) (by omega) (by omega) (by omega)
            refine bc_SB (As := [.int (iI (mE (eff τ) p 1 0 m0)), .int (iI (mE (eff τ) p 1 1 m0)), .int (iI (mE (eff τ) q 1 0 0)), .int (iI (mE (eff τ) q 1 1 0))]) (rest := []) ⟨hx, hb, hml, hown, hts⟩ (c_X2_overlaps l g ad σ τ w (mE (eff τ) p 1 0 m0) (mE (eff τ) p 1 1 m0) (mE (eff τ) q 1 0 0) (mE (eff τ) q 1 1 0) (by unfold iR; omega) (by unfold iR; omega) (by unfold iR; omega) (by unfold iR; omega)) (va_cwS 4 hts gX2_meets_X2_overlaps rfl rfl rfl (by decide +kernel) ⟨Nat.le_of_ble_eq_true rfl, Nat.le_of_ble_eq_true rfl⟩) hK hU  rfl hl.1 rfl (Nat.le_of_ble_eq_true rfl) dX2_meets_206 ⟨Nat.zero_le _, Nat.zero_le _⟩ (fun h40 => ?_) (fun h40 => ?_)
            · refine li_if_eq (tgt := 226) hx hb (by unfold iR; omega) dX2_meets_209 (by decide) (fun h => absurd h (by decide)) (fun _ => ?_)
              refine lv_iload hx hb dX2_meets_212 (lv_at hl 1 rfl) ?_
              refine lv_iload hx hb dX2_meets_214 (lv_at hl 0 rfl) ?_
              refine lv_iload hx hb dX2_meets_216 (lv_at hl 0 rfl) ?_
              refine li_imul hx hb dX2_meets_218 ?_
              refine li_icmp_ge (tgt := 226) hx hb (by unfold iR; omega) (by unfold iR; omega) dX2_meets_219 (by decide) (fun h41 => ?_) (fun h41 => ?_)
              · refine li_iconst hx hb dX2_meets_226 ?_
                refine be_f hx hb hr hlocks ?_ dX2_meets_227
                rw [← mt_tt (wf_eff hBt hqp) (wf_eff hBt hqq) m0 (show eff τ 5 p 0 ≠ -1 by show τ 5 p 0 ≠ -1; omega) (show eff τ 5 q 0 = eff τ 5 p 0 by show τ 5 q 0 = τ 5 p 0; omega)]; (have e5 : eff τ 5 p 0 = 1 := hq11); (have e6 : eff τ 6 p 0 = τ 6 p 0 := rfl); (have e7 : eff τ 6 q 0 = τ 6 q 0 := rfl); rw [e5]; unfold ttx dsum; rw [if_neg (by decide), if_pos rfl, if_neg (by decide), e6, e7]; omega
              · refine li_iconst hx hb dX2_meets_222 ?_
                refine lv_goto (tgt := 227) hx hb dX2_meets_223 (by decide) ?_
                refine be_t hx hb hr hlocks ?_ dX2_meets_227
                rw [← mt_tt (wf_eff hBt hqp) (wf_eff hBt hqq) m0 (show eff τ 5 p 0 ≠ -1 by show τ 5 p 0 ≠ -1; omega) (show eff τ 5 q 0 = eff τ 5 p 0 by show τ 5 q 0 = τ 5 p 0; omega)]; (have e5 : eff τ 5 p 0 = 1 := hq11); (have e6 : eff τ 6 p 0 = τ 6 p 0 := rfl); (have e7 : eff τ 6 q 0 = τ 6 q 0 := rfl); rw [e5]; unfold ttx dsum; rw [if_neg (by decide), if_pos rfl, if_neg (by decide), e6, e7]; omega
            · refine li_if_eq (tgt := 226) hx hb (by unfold iR; omega) dX2_meets_209 (by decide) (fun _ => ?_) (fun h => absurd (by decide) h)
              refine li_iconst hx hb dX2_meets_226 ?_
              refine be_f hx hb hr hlocks ?_ dX2_meets_227
              rw [← mt_tt (wf_eff hBt hqp) (wf_eff hBt hqq) m0 (show eff τ 5 p 0 ≠ -1 by show τ 5 p 0 ≠ -1; omega) (show eff τ 5 q 0 = eff τ 5 p 0 by show τ 5 q 0 = τ 5 p 0; omega)]; (have e5 : eff τ 5 p 0 = 1 := hq11); (have e6 : eff τ 6 p 0 = τ 6 p 0 := rfl); (have e7 : eff τ 6 q 0 = τ 6 q 0 := rfl); rw [e5]; unfold ttx dsum; rw [if_neg (by decide), if_pos rfl, if_neg (by decide), e6, e7]; omega
          · refine W.eq (g2 := F0 mI 91 ls [.int (iI 2)]) (by rw [hq11]) ?_
            refine lv_istore (lv' := [(4, .int (iI 2)), (0, .ref (ad 7 0)), (1, .int (iI p)), (2, .int (iI m0)), (3, .int (iI q))]) hx hb dX2_meets_91 hl (by decide) rfl (fun ls hl => ?_)
            refine li_iconst hx hb dX2_meets_93 ?_
            refine lv_istore (lv' := [(5, .int (iI 0)), (4, .int (iI 2)), (0, .ref (ad 7 0)), (1, .int (iI p)), (2, .int (iI m0)), (3, .int (iI q))]) hx hb dX2_meets_94 hl (by decide) rfl (fun ls hl => ?_)
            refine li_iconst hx hb dX2_meets_96 ?_
            refine lv_istore (lv' := [(6, .int (iI 0)), (5, .int (iI 0)), (4, .int (iI 2)), (0, .ref (ad 7 0)), (1, .int (iI p)), (2, .int (iI m0)), (3, .int (iI q))]) hx hb dX2_meets_97 hl (by decide) rfl (fun ls hl => ?_)
            refine lv_iload hx hb dX2_meets_99 (lv_at hl 0 rfl) ?_
            refine li_iconst hx hb dX2_meets_101 ?_
            refine li_icmp_ge (tgt := 153) hx hb (by unfold iR; omega) (by unfold iR; omega) dX2_meets_102 (by decide) (fun h => absurd h (by decide)) (fun _ => ?_)
            refine lv_iload hx hb dX2_meets_105 (lv_at hl 0 rfl) ?_
            refine lv_iload hx hb dX2_meets_107 (lv_at hl 2 rfl) ?_
            refine li_icmp_ne (tgt := 116) hx hb (by unfold iR; omega) (by unfold iR; omega) dX2_meets_109 (by decide) (fun _ => ?_) (fun h => absurd h (by decide))
            refine lv_aload_n hx hb dX2_meets_116 rfl (lv_at hl 3 rfl) ?_
            refine lv_iload_n hx hb dX2_meets_117 rfl (lv_at hl 4 rfl) ?_
            refine lv_iload hx hb dX2_meets_118 (lv_at hl 0 rfl) ?_
            refine li_iconst hx hb dX2_meets_120 ?_
            refine li_iconst hx hb dX2_meets_121 ?_
            refine bc_V (As := [.int (iI p), .int (iI 0), .int (iI 0), .int (iI 0)]) (rest := []) (kd := 7) (k := 0) (ci := 2) ⟨hx, hb, hml, hown, hts⟩ (c_X2_end l g ad σ τ w p 0 0 0 hqp hBt hM (by omega) (by omega) (by omega)) (cwV 4 hts gX2_meets_X2_end rfl rfl rfl (by decide +kernel) ⟨Nat.le_of_ble_eq_true rfl, Nat.le_of_ble_eq_true rfl⟩) hK hU (bx_L0 (by omega)) rfl rfl rfl hl.1 rfl (Nat.le_of_ble_eq_true rfl) dX2_meets_122 ⟨Nat.zero_le _, Nat.zero_le _⟩ ?_
            have h42 := mE_bd hBt hM hqp (a := 0) (hi := 0) (gr := 0) (by omega) (by omega) (by omega)
            refine lv_aload_n hx hb dX2_meets_125 rfl (lv_at hl 3 rfl) ?_
            refine lv_iload_n hx hb dX2_meets_126 rfl (lv_at hl 6 rfl) ?_
            refine lv_iload hx hb dX2_meets_127 (lv_at hl 0 rfl) ?_
            refine li_iconst hx hb dX2_meets_129 ?_
            refine li_iconst hx hb dX2_meets_130 ?_
            refine bc_V (As := [.int (iI q), .int (iI 0), .int (iI 0), .int (iI 0)]) (rest := [.int (iI (mE (eff τ) p 0 0 0))]) (kd := 7) (k := 0) (ci := 2) ⟨hx, hb, hml, hown, hts⟩ (c_X2_end l g ad σ τ w q 0 0 0 hqq hBt hM (by omega) (by omega) (by omega)) (cwV 4 hts gX2_meets_X2_end rfl rfl rfl (by decide +kernel) ⟨Nat.le_of_ble_eq_true rfl, Nat.le_of_ble_eq_true rfl⟩) hK hU (bx_L0 (by omega)) rfl rfl rfl hl.1 rfl (Nat.le_of_ble_eq_true rfl) dX2_meets_131 ⟨Nat.zero_le _, Nat.zero_le _⟩ ?_
            have h43 := mE_bd hBt hM hqq (a := 0) (hi := 0) (gr := 0) (by omega) (by omega) (by omega)
            refine li_isub hx hb dX2_meets_134 ?_
            refine lv_istore (lv' := [(7, .int (iI ((mE (eff τ) p 0 0 0) - (mE (eff τ) q 0 0 0)))), (6, .int (iI 0)), (5, .int (iI 0)), (4, .int (iI 2)), (0, .ref (ad 7 0)), (1, .int (iI p)), (2, .int (iI m0)), (3, .int (iI q))]) hx hb dX2_meets_135 hl (by decide) rfl (fun ls hl => ?_)
            have b44 := sqa_bd (x := (mE (eff τ) p 0 0 0) - (mE (eff τ) q 0 0 0)) (B := 6000) (by omega) (by omega)
            refine lv_iload hx hb dX2_meets_137 (lv_at hl 2 rfl) ?_
            refine lv_iload hx hb dX2_meets_139 (lv_at hl 0 rfl) ?_
            refine lv_iload hx hb dX2_meets_141 (lv_at hl 0 rfl) ?_
            refine li_imul hx hb dX2_meets_143 ?_
            refine li_iadd hx hb dX2_meets_144 ?_
            refine lv_istore (lv' := [(5, .int (iI (0 + (((mE (eff τ) p 0 0 0) - (mE (eff τ) q 0 0 0)) * ((mE (eff τ) p 0 0 0) - (mE (eff τ) q 0 0 0)))))), (7, .int (iI ((mE (eff τ) p 0 0 0) - (mE (eff τ) q 0 0 0)))), (6, .int (iI 0)), (4, .int (iI 2)), (0, .ref (ad 7 0)), (1, .int (iI p)), (2, .int (iI m0)), (3, .int (iI q))]) hx hb dX2_meets_145 hl (by decide) rfl (fun ls hl => ?_)
            refine li_iinc (k0 := 2) (lv' := [(6, .int (iI (0 + 1))), (5, .int (iI (0 + (((mE (eff τ) p 0 0 0) - (mE (eff τ) q 0 0 0)) * ((mE (eff τ) p 0 0 0) - (mE (eff τ) q 0 0 0)))))), (7, .int (iI ((mE (eff τ) p 0 0 0) - (mE (eff τ) q 0 0 0)))), (4, .int (iI 2)), (0, .ref (ad 7 0)), (1, .int (iI p)), (2, .int (iI m0)), (3, .int (iI q))]) hx hb dX2_meets_147 hl rfl (by decide) rfl (fun ls hl => ?_)
            have hl : lv_has ls 8 [(6, .int (iI 1)), (5, .int (iI (0 + (((mE (eff τ) p 0 0 0) - (mE (eff τ) q 0 0 0)) * ((mE (eff τ) p 0 0 0) - (mE (eff τ) q 0 0 0)))))), (7, .int (iI ((mE (eff τ) p 0 0 0) - (mE (eff τ) q 0 0 0)))), (4, .int (iI 2)), (0, .ref (ad 7 0)), (1, .int (iI p)), (2, .int (iI m0)), (3, .int (iI q))] := hl
            refine lv_goto (tgt := 99) hx hb dX2_meets_150 (by decide) ?_
            refine lv_iload hx hb dX2_meets_99 (lv_at hl 0 rfl) ?_
            refine li_iconst hx hb dX2_meets_101 ?_
            refine li_icmp_ge (tgt := 153) hx hb (by unfold iR; omega) (by unfold iR; omega) dX2_meets_102 (by decide) (fun h => absurd h (by decide)) (fun _ => ?_)
            refine lv_iload hx hb dX2_meets_105 (lv_at hl 0 rfl) ?_
            refine lv_iload hx hb dX2_meets_107 (lv_at hl 3 rfl) ?_
            refine li_icmp_ne (tgt := 116) hx hb (by unfold iR; omega) (by unfold iR; omega) dX2_meets_109 (by decide) (fun _ => ?_) (fun h => absurd h (by decide))
            refine lv_aload_n hx hb dX2_meets_116 rfl (lv_at hl 4 rfl) ?_
            refine lv_iload_n hx hb dX2_meets_117 rfl (lv_at hl 5 rfl) ?_
            refine lv_iload hx hb dX2_meets_118 (lv_at hl 0 rfl) ?_
            refine li_iconst hx hb dX2_meets_120 ?_
            refine li_iconst hx hb dX2_meets_121 ?_
            refine bc_V (As := [.int (iI p), .int (iI 1), .int (iI 0), .int (iI 0)]) (rest := []) (kd := 7) (k := 0) (ci := 2) ⟨hx, hb, hml, hown, hts⟩ (c_X2_end l g ad σ τ w p 1 0 0 hqp hBt hM (by omega) (by omega) (by omega)) (cwV 4 hts gX2_meets_X2_end rfl rfl rfl (by decide +kernel) ⟨Nat.le_of_ble_eq_true rfl, Nat.le_of_ble_eq_true rfl⟩) hK hU (bx_L0 (by omega)) rfl rfl rfl hl.1 rfl (Nat.le_of_ble_eq_true rfl) dX2_meets_122 ⟨Nat.zero_le _, Nat.zero_le _⟩ ?_
            have h45 := mE_bd hBt hM hqp (a := 1) (hi := 0) (gr := 0) (by omega) (by omega) (by omega)
            refine lv_aload_n hx hb dX2_meets_125 rfl (lv_at hl 4 rfl) ?_
            refine lv_iload_n hx hb dX2_meets_126 rfl (lv_at hl 7 rfl) ?_
            refine lv_iload hx hb dX2_meets_127 (lv_at hl 0 rfl) ?_
            refine li_iconst hx hb dX2_meets_129 ?_
            refine li_iconst hx hb dX2_meets_130 ?_
            refine bc_V (As := [.int (iI q), .int (iI 1), .int (iI 0), .int (iI 0)]) (rest := [.int (iI (mE (eff τ) p 1 0 0))]) (kd := 7) (k := 0) (ci := 2) ⟨hx, hb, hml, hown, hts⟩ (c_X2_end l g ad σ τ w q 1 0 0 hqq hBt hM (by omega) (by omega) (by omega)) (cwV 4 hts gX2_meets_X2_end rfl rfl rfl (by decide +kernel) ⟨Nat.le_of_ble_eq_true rfl, Nat.le_of_ble_eq_true rfl⟩) hK hU (bx_L0 (by omega)) rfl rfl rfl hl.1 rfl (Nat.le_of_ble_eq_true rfl) dX2_meets_131 ⟨Nat.zero_le _, Nat.zero_le _⟩ ?_
            have h46 := mE_bd hBt hM hqq (a := 1) (hi := 0) (gr := 0) (by omega) (by omega) (by omega)
            refine li_isub hx hb dX2_meets_134 ?_
            refine lv_istore (lv' := [(7, .int (iI ((mE (eff τ) p 1 0 0) - (mE (eff τ) q 1 0 0)))), (6, .int (iI 1)), (5, .int (iI (0 + (((mE (eff τ) p 0 0 0) - (mE (eff τ) q 0 0 0)) * ((mE (eff τ) p 0 0 0) - (mE (eff τ) q 0 0 0)))))), (4, .int (iI 2)), (0, .ref (ad 7 0)), (1, .int (iI p)), (2, .int (iI m0)), (3, .int (iI q))]) hx hb dX2_meets_135 hl (by decide) rfl (fun ls hl => ?_)
            have b47 := sqa_bd (x := (mE (eff τ) p 1 0 0) - (mE (eff τ) q 1 0 0)) (B := 6000) (by omega) (by omega)
            refine lv_iload hx hb dX2_meets_137 (lv_at hl 2 rfl) ?_
            refine lv_iload hx hb dX2_meets_139 (lv_at hl 0 rfl) ?_
            refine lv_iload hx hb dX2_meets_141 (lv_at hl 0 rfl) ?_
            refine li_imul hx hb dX2_meets_143 ?_
            refine li_iadd hx hb dX2_meets_144 ?_
            refine lv_istore (lv' := [(5, .int (iI ((0 + (((mE (eff τ) p 0 0 0) - (mE (eff τ) q 0 0 0)) * ((mE (eff τ) p 0 0 0) - (mE (eff τ) q 0 0 0)))) + (((mE (eff τ) p 1 0 0) - (mE (eff τ) q 1 0 0)) * ((mE (eff τ) p 1 0 0) - (mE (eff τ) q 1 0 0)))))), (7, .int (iI ((mE (eff τ) p 1 0 0) - (mE (eff τ) q 1 0 0)))), (6, .int (iI 1)), (4, .int (iI 2)), (0, .ref (ad 7 0)), (1, .int (iI p)), (2, .int (iI m0)), (3, .int (iI q))]) hx hb dX2_meets_145 hl (by decide) rfl (fun ls hl => ?_)
            refine li_iinc (k0 := 2) (lv' := [(6, .int (iI (1 + 1))), (5, .int (iI ((0 + (((mE (eff τ) p 0 0 0) - (mE (eff τ) q 0 0 0)) * ((mE (eff τ) p 0 0 0) - (mE (eff τ) q 0 0 0)))) + (((mE (eff τ) p 1 0 0) - (mE (eff τ) q 1 0 0)) * ((mE (eff τ) p 1 0 0) - (mE (eff τ) q 1 0 0)))))), (7, .int (iI ((mE (eff τ) p 1 0 0) - (mE (eff τ) q 1 0 0)))), (4, .int (iI 2)), (0, .ref (ad 7 0)), (1, .int (iI p)), (2, .int (iI m0)), (3, .int (iI q))]) hx hb dX2_meets_147 hl rfl (by decide) rfl (fun ls hl => ?_)
            have hl : lv_has ls 8 [(6, .int (iI 2)), (5, .int (iI ((0 + (((mE (eff τ) p 0 0 0) - (mE (eff τ) q 0 0 0)) * ((mE (eff τ) p 0 0 0) - (mE (eff τ) q 0 0 0)))) + (((mE (eff τ) p 1 0 0) - (mE (eff τ) q 1 0 0)) * ((mE (eff τ) p 1 0 0) - (mE (eff τ) q 1 0 0)))))), (7, .int (iI ((mE (eff τ) p 1 0 0) - (mE (eff τ) q 1 0 0)))), (4, .int (iI 2)), (0, .ref (ad 7 0)), (1, .int (iI p)), (2, .int (iI m0)), (3, .int (iI q))] := hl
            refine lv_goto (tgt := 99) hx hb dX2_meets_150 (by decide) ?_
            refine lv_iload hx hb dX2_meets_99 (lv_at hl 0 rfl) ?_
            refine li_iconst hx hb dX2_meets_101 ?_
            refine li_icmp_ge (tgt := 153) hx hb (by unfold iR; omega) (by unfold iR; omega) dX2_meets_102 (by decide) (fun h => absurd h (by decide)) (fun _ => ?_)
            refine lv_iload hx hb dX2_meets_105 (lv_at hl 0 rfl) ?_
            refine lv_iload hx hb dX2_meets_107 (lv_at hl 3 rfl) ?_
            refine li_icmp_ne (tgt := 116) hx hb (by unfold iR; omega) (by unfold iR; omega) dX2_meets_109 (by decide) (fun h => absurd (by decide) h) (fun _ => ?_)
            refine li_iconst hx hb dX2_meets_112 ?_
            refine lv_goto (tgt := 135) hx hb dX2_meets_113 (by decide) ?_
            refine lv_istore (lv' := [(7, .int (iI 0)), (6, .int (iI 2)), (5, .int (iI ((0 + (((mE (eff τ) p 0 0 0) - (mE (eff τ) q 0 0 0)) * ((mE (eff τ) p 0 0 0) - (mE (eff τ) q 0 0 0)))) + (((mE (eff τ) p 1 0 0) - (mE (eff τ) q 1 0 0)) * ((mE (eff τ) p 1 0 0) - (mE (eff τ) q 1 0 0)))))), (4, .int (iI 2)), (0, .ref (ad 7 0)), (1, .int (iI p)), (2, .int (iI m0)), (3, .int (iI q))]) hx hb dX2_meets_135 hl (by decide) rfl (fun ls hl => ?_)
            refine lv_iload hx hb dX2_meets_137 (lv_at hl 2 rfl) ?_
            refine lv_iload hx hb dX2_meets_139 (lv_at hl 0 rfl) ?_
            refine lv_iload hx hb dX2_meets_141 (lv_at hl 0 rfl) ?_
            refine li_imul hx hb dX2_meets_143 ?_
            refine W.eq (g2 := F0 mI 144 ls [.int (iI 0), .int (iI ((0 + (((mE (eff τ) p 0 0 0) - (mE (eff τ) q 0 0 0)) * ((mE (eff τ) p 0 0 0) - (mE (eff τ) q 0 0 0)))) + (((mE (eff τ) p 1 0 0) - (mE (eff τ) q 1 0 0)) * ((mE (eff τ) p 1 0 0) - (mE (eff τ) q 1 0 0)))))]) rfl ?_
            refine li_iadd hx hb dX2_meets_144 ?_
            refine lv_istore (lv' := [(5, .int (iI (((0 + (((mE (eff τ) p 0 0 0) - (mE (eff τ) q 0 0 0)) * ((mE (eff τ) p 0 0 0) - (mE (eff τ) q 0 0 0)))) + (((mE (eff τ) p 1 0 0) - (mE (eff τ) q 1 0 0)) * ((mE (eff τ) p 1 0 0) - (mE (eff τ) q 1 0 0)))) + 0))), (7, .int (iI 0)), (6, .int (iI 2)), (4, .int (iI 2)), (0, .ref (ad 7 0)), (1, .int (iI p)), (2, .int (iI m0)), (3, .int (iI q))]) hx hb dX2_meets_145 hl (by decide) rfl (fun ls hl => ?_)
            refine li_iinc (k0 := 2) (lv' := [(6, .int (iI (2 + 1))), (5, .int (iI (((0 + (((mE (eff τ) p 0 0 0) - (mE (eff τ) q 0 0 0)) * ((mE (eff τ) p 0 0 0) - (mE (eff τ) q 0 0 0)))) + (((mE (eff τ) p 1 0 0) - (mE (eff τ) q 1 0 0)) * ((mE (eff τ) p 1 0 0) - (mE (eff τ) q 1 0 0)))) + 0))), (7, .int (iI 0)), (4, .int (iI 2)), (0, .ref (ad 7 0)), (1, .int (iI p)), (2, .int (iI m0)), (3, .int (iI q))]) hx hb dX2_meets_147 hl rfl (by decide) rfl (fun ls hl => ?_)
            have hl : lv_has ls 8 [(6, .int (iI 3)), (5, .int (iI (((0 + (((mE (eff τ) p 0 0 0) - (mE (eff τ) q 0 0 0)) * ((mE (eff τ) p 0 0 0) - (mE (eff τ) q 0 0 0)))) + (((mE (eff τ) p 1 0 0) - (mE (eff τ) q 1 0 0)) * ((mE (eff τ) p 1 0 0) - (mE (eff τ) q 1 0 0)))) + 0))), (7, .int (iI 0)), (4, .int (iI 2)), (0, .ref (ad 7 0)), (1, .int (iI p)), (2, .int (iI m0)), (3, .int (iI q))] := hl
            refine lv_goto (tgt := 99) hx hb dX2_meets_150 (by decide) ?_
            refine lv_iload hx hb dX2_meets_99 (lv_at hl 0 rfl) ?_
            refine li_iconst hx hb dX2_meets_101 ?_
            refine li_icmp_ge (tgt := 153) hx hb (by unfold iR; omega) (by unfold iR; omega) dX2_meets_102 (by decide) (fun _ => ?_) (fun h => absurd (by decide) h)
            refine lv_aload_n hx hb dX2_meets_153 rfl (lv_at hl 4 rfl) ?_
            refine bg_X2_radii hx hb hts hinX2 hown hK hU (hts (.fieldLink RX2 23 "ClashBoxesModel" "radii" "[I") (by decide +kernel)) dX2_meets_154 ?_
            refine lv_iload_n hx hb dX2_meets_157 rfl (lv_at hl 5 rfl) ?_
            refine bl_12 hx hb hK hU (by omega) (by omega) dX2_meets_158 ?_
            have b48 := bB6 hBt hqp
            refine lv_iload_n hx hb dX2_meets_159 rfl (lv_at hl 6 rfl) ?_
            refine li_iadd hx hb dX2_meets_160 ?_
            refine lv_aload_n hx hb dX2_meets_161 rfl (lv_at hl 4 rfl) ?_
            refine bg_X2_radii hx hb hts hinX2 hown hK hU (hts (.fieldLink RX2 23 "ClashBoxesModel" "radii" "[I") (by decide +kernel)) dX2_meets_162 ?_
            refine lv_iload_n hx hb dX2_meets_165 rfl (lv_at hl 7 rfl) ?_
            refine bl_12 hx hb hK hU (by omega) (by omega) dX2_meets_166 ?_
            have b49 := bB6 hBt hqq
            refine li_iadd hx hb dX2_meets_167 ?_
            refine lv_istore (lv' := [(6, .int (iI (((τ 6 p 0) + m0) + (τ 6 q 0)))), (5, .int (iI (((0 + (((mE (eff τ) p 0 0 0) - (mE (eff τ) q 0 0 0)) * ((mE (eff τ) p 0 0 0) - (mE (eff τ) q 0 0 0)))) + (((mE (eff τ) p 1 0 0) - (mE (eff τ) q 1 0 0)) * ((mE (eff τ) p 1 0 0) - (mE (eff τ) q 1 0 0)))) + 0))), (7, .int (iI 0)), (4, .int (iI 2)), (0, .ref (ad 7 0)), (1, .int (iI p)), (2, .int (iI m0)), (3, .int (iI q))]) hx hb dX2_meets_168 hl (by decide) rfl (fun ls hl => ?_)
            have b50 := sq_bd (x := ((τ 6 p 0) + m0) + (τ 6 q 0)) (B := 450) (by omega) (by omega)
            refine lv_aload_n hx hb dX2_meets_170 rfl (lv_at hl 4 rfl) ?_
            refine lv_iload_n hx hb dX2_meets_171 rfl (lv_at hl 5 rfl) ?_
            refine lv_iload hx hb dX2_meets_172 (lv_at hl 3 rfl) ?_
            refine li_iconst hx hb dX2_meets_174 ?_
            refine lv_iload_n hx hb dX2_meets_175 rfl (lv_at hl 6 rfl) ?_
            refine bc_V (As := [.int (iI p), .int (iI 2), .int (iI 0), .int (iI m0)]) (rest := []) (kd := 7) (k := 0) (ci := 2) ⟨hx, hb, hml, hown, hts⟩ (c_X2_end l g ad σ τ w p 2 0 m0 hqp hBt hM (by omega) (by omega) (by omega)) (cwV 4 hts gX2_meets_X2_end rfl rfl rfl (by decide +kernel) ⟨Nat.le_of_ble_eq_true rfl, Nat.le_of_ble_eq_true rfl⟩) hK hU (bx_L0 (by omega)) rfl rfl rfl hl.1 rfl (Nat.le_of_ble_eq_true rfl) dX2_meets_176 ⟨Nat.zero_le _, Nat.zero_le _⟩ ?_
            have h51 := mE_bd hBt hM hqp (a := 2) (hi := 0) (gr := m0) (by omega) (by omega) (by omega)
            refine lv_aload_n hx hb dX2_meets_179 rfl (lv_at hl 4 rfl) ?_
            refine lv_iload_n hx hb dX2_meets_180 rfl (lv_at hl 5 rfl) ?_
            refine lv_iload hx hb dX2_meets_181 (lv_at hl 3 rfl) ?_
            refine li_iconst hx hb dX2_meets_183 ?_
            refine lv_iload_n hx hb dX2_meets_184 rfl (lv_at hl 6 rfl) ?_
            refine bc_V (As := [.int (iI p), .int (iI 2), .int (iI 1), .int (iI m0)]) (rest := [.int (iI (mE (eff τ) p 2 0 m0))]) (kd := 7) (k := 0) (ci := 2) ⟨hx, hb, hml, hown, hts⟩ (c_X2_end l g ad σ τ w p 2 1 m0 hqp hBt hM (by omega) (by omega) (by omega)) (cwV 4 hts gX2_meets_X2_end rfl rfl rfl (by decide +kernel) ⟨Nat.le_of_ble_eq_true rfl, Nat.le_of_ble_eq_true rfl⟩) hK hU (bx_L0 (by omega)) rfl rfl rfl hl.1 rfl (Nat.le_of_ble_eq_true rfl) dX2_meets_185 ⟨Nat.zero_le _, Nat.zero_le _⟩ ?_
            have h52 := mE_bd hBt hM hqp (a := 2) (hi := 1) (gr := m0) (by omega) (by omega) (by omega)
            refine lv_aload_n hx hb dX2_meets_188 rfl (lv_at hl 4 rfl) ?_
            refine lv_iload_n hx hb dX2_meets_189 rfl (lv_at hl 7 rfl) ?_
            refine lv_iload hx hb dX2_meets_190 (lv_at hl 3 rfl) ?_
            refine li_iconst hx hb dX2_meets_192 ?_
            refine li_iconst hx hb dX2_meets_193 ?_
            refine bc_V (As := [.int (iI q), .int (iI 2), .int (iI 0), .int (iI 0)]) (rest := [.int (iI (mE (eff τ) p 2 1 m0)), .int (iI (mE (eff τ) p 2 0 m0))]) (kd := 7) (k := 0) (ci := 2) ⟨hx, hb, hml, hown, hts⟩ (c_X2_end l g ad σ τ w q 2 0 0 hqq hBt hM (by omega) (by omega) (by omega)) (cwV 4 hts gX2_meets_X2_end rfl rfl rfl (by decide +kernel) ⟨Nat.le_of_ble_eq_true rfl, Nat.le_of_ble_eq_true rfl⟩) hK hU (bx_L0 (by omega)) rfl rfl rfl hl.1 rfl (Nat.le_of_ble_eq_true rfl) dX2_meets_194 ⟨Nat.zero_le _, Nat.zero_le _⟩ ?_
            have h53 := mE_bd hBt hM hqq (a := 2) (hi := 0) (gr := 0) (by omega) (by omega) (by omega)
            refine lv_aload_n hx hb dX2_meets_197 rfl (lv_at hl 4 rfl) ?_
            refine lv_iload_n hx hb dX2_meets_198 rfl (lv_at hl 7 rfl) ?_
            refine lv_iload hx hb dX2_meets_199 (lv_at hl 3 rfl) ?_
            refine li_iconst hx hb dX2_meets_201 ?_
            refine li_iconst hx hb dX2_meets_202 ?_
            refine bc_V (As := [.int (iI q), .int (iI 2), .int (iI 1), .int (iI 0)]) (rest := [.int (iI (mE (eff τ) q 2 0 0)), .int (iI (mE (eff τ) p 2 1 m0)), .int (iI (mE (eff τ) p 2 0 m0))]) (kd := 7) (k := 0) (ci := 2) ⟨hx, hb, hml, hown, hts⟩ (c_X2_end l g ad σ τ w q 2 1 0 hqq hBt hM (by omega) (by omega) (by omega)) (cwV 4 hts gX2_meets_X2_end rfl rfl rfl (by decide +kernel) ⟨Nat.le_of_ble_eq_true rfl, Nat.le_of_ble_eq_true rfl⟩) hK hU (bx_L0 (by omega)) rfl rfl rfl hl.1 rfl (Nat.le_of_ble_eq_true rfl) dX2_meets_203 ⟨Nat.zero_le _, Nat.zero_le _⟩ ?_
            have h54 := mE_bd hBt hM hqq (a := 2) (hi := 1) (gr := 0) (by omega) (by omega) (by omega)
            refine bc_SB (As := [.int (iI (mE (eff τ) p 2 0 m0)), .int (iI (mE (eff τ) p 2 1 m0)), .int (iI (mE (eff τ) q 2 0 0)), .int (iI (mE (eff τ) q 2 1 0))]) (rest := []) ⟨hx, hb, hml, hown, hts⟩ (c_X2_overlaps l g ad σ τ w (mE (eff τ) p 2 0 m0) (mE (eff τ) p 2 1 m0) (mE (eff τ) q 2 0 0) (mE (eff τ) q 2 1 0) (by unfold iR; omega) (by unfold iR; omega) (by unfold iR; omega) (by unfold iR; omega)) (va_cwS 4 hts gX2_meets_X2_overlaps rfl rfl rfl (by decide +kernel) ⟨Nat.le_of_ble_eq_true rfl, Nat.le_of_ble_eq_true rfl⟩) hK hU  rfl hl.1 rfl (Nat.le_of_ble_eq_true rfl) dX2_meets_206 ⟨Nat.zero_le _, Nat.zero_le _⟩ (fun h55 => ?_) (fun h55 => ?_)
            · refine li_if_eq (tgt := 226) hx hb (by unfold iR; omega) dX2_meets_209 (by decide) (fun h => absurd h (by decide)) (fun _ => ?_)
              refine lv_iload hx hb dX2_meets_212 (lv_at hl 1 rfl) ?_
              refine lv_iload hx hb dX2_meets_214 (lv_at hl 0 rfl) ?_
              refine lv_iload hx hb dX2_meets_216 (lv_at hl 0 rfl) ?_
              refine li_imul hx hb dX2_meets_218 ?_
              refine li_icmp_ge (tgt := 226) hx hb (by unfold iR; omega) (by unfold iR; omega) dX2_meets_219 (by decide) (fun h56 => ?_) (fun h56 => ?_)
              · refine li_iconst hx hb dX2_meets_226 ?_
                refine be_f hx hb hr hlocks ?_ dX2_meets_227
                rw [← mt_tt (wf_eff hBt hqp) (wf_eff hBt hqq) m0 (show eff τ 5 p 0 ≠ -1 by show τ 5 p 0 ≠ -1; omega) (show eff τ 5 q 0 = eff τ 5 p 0 by show τ 5 q 0 = τ 5 p 0; omega)]; (have e5 : eff τ 5 p 0 = 2 := hq11); (have e6 : eff τ 6 p 0 = τ 6 p 0 := rfl); (have e7 : eff τ 6 q 0 = τ 6 q 0 := rfl); rw [e5]; unfold ttx dsum; rw [if_neg (by decide), if_neg (by decide), if_pos rfl, e6, e7]; omega
              · refine li_iconst hx hb dX2_meets_222 ?_
                refine lv_goto (tgt := 227) hx hb dX2_meets_223 (by decide) ?_
                refine be_t hx hb hr hlocks ?_ dX2_meets_227
                rw [← mt_tt (wf_eff hBt hqp) (wf_eff hBt hqq) m0 (show eff τ 5 p 0 ≠ -1 by show τ 5 p 0 ≠ -1; omega) (show eff τ 5 q 0 = eff τ 5 p 0 by show τ 5 q 0 = τ 5 p 0; omega)]; (have e5 : eff τ 5 p 0 = 2 := hq11); (have e6 : eff τ 6 p 0 = τ 6 p 0 := rfl); (have e7 : eff τ 6 q 0 = τ 6 q 0 := rfl); rw [e5]; unfold ttx dsum; rw [if_neg (by decide), if_neg (by decide), if_pos rfl, e6, e7]; omega
            · refine li_if_eq (tgt := 226) hx hb (by unfold iR; omega) dX2_meets_209 (by decide) (fun _ => ?_) (fun h => absurd (by decide) h)
              refine li_iconst hx hb dX2_meets_226 ?_
              refine be_f hx hb hr hlocks ?_ dX2_meets_227
              rw [← mt_tt (wf_eff hBt hqp) (wf_eff hBt hqq) m0 (show eff τ 5 p 0 ≠ -1 by show τ 5 p 0 ≠ -1; omega) (show eff τ 5 q 0 = eff τ 5 p 0 by show τ 5 q 0 = τ 5 p 0; omega)]; (have e5 : eff τ 5 p 0 = 2 := hq11); (have e6 : eff τ 6 p 0 = τ 6 p 0 := rfl); (have e7 : eff τ 6 q 0 = τ 6 q 0 := rfl); rw [e5]; unfold ttx dsum; rw [if_neg (by decide), if_neg (by decide), if_pos rfl, e6, e7]; omega
        · refine lv_aload_n hx hb dX2_meets_77 rfl (lv_at hl 0 rfl) ?_
          refine lv_iload_n hx hb dX2_meets_78 rfl (lv_at hl 1 rfl) ?_
          refine lv_iload_n hx hb dX2_meets_79 rfl (lv_at hl 2 rfl) ?_
          refine lv_iload_n hx hb dX2_meets_80 rfl (lv_at hl 3 rfl) ?_
          refine bc_VB (As := [.int (iI p), .int (iI m0), .int (iI q)]) (rest := []) (kd := 7) (k := 0) (ci := 2) ⟨hx, hb, hml, hown, hts⟩ (c_X2_hullsMeet l g ad σ τ w p m0 q hqp hqq hBt hM (by omega)) (cwV 3 hts gX2_meets_X2_hullsMeet rfl rfl rfl (by decide +kernel) ⟨Nat.le_of_ble_eq_true rfl, Nat.le_of_ble_eq_true rfl⟩) hK hU (bx_L0 (by omega)) rfl rfl rfl hl.1 rfl (Nat.le_of_ble_eq_true rfl) dX2_meets_81 ⟨Nat.zero_le _, Nat.zero_le _⟩ (fun h57 => ?_) (fun h57 => ?_)
          · refine be_t hx hb hr hlocks ?_ dX2_meets_84
            exact (mt_bb (wf_eff hBt hqp) (wf_eff hBt hqq) m0 (Or.inr ⟨show eff τ 5 p 0 ≠ -1 by show τ 5 p 0 ≠ -1; omega, show eff τ 5 q 0 ≠ -1 by show τ 5 q 0 ≠ -1; omega, show eff τ 5 p 0 ≠ eff τ 5 q 0 by show τ 5 p 0 ≠ τ 5 q 0; omega⟩)).mp h57
          · refine be_f hx hb hr hlocks ?_ dX2_meets_84
            exact fun q9 => h57 ((mt_bb (wf_eff hBt hqp) (wf_eff hBt hqq) m0 (Or.inr ⟨show eff τ 5 p 0 ≠ -1 by show τ 5 p 0 ≠ -1; omega, show eff τ 5 q 0 ≠ -1 by show τ 5 q 0 ≠ -1; omega, show eff τ 5 p 0 ≠ eff τ 5 q 0 by show τ 5 p 0 ≠ τ 5 q 0; omega⟩)).mpr q9)
      · refine lv_aload_n hx hb dX2_meets_53 rfl (lv_at hl 0 rfl) ?_
        refine lv_iload_n hx hb dX2_meets_54 rfl (lv_at hl 3 rfl) ?_
        refine li_iconst hx hb dX2_meets_55 ?_
        refine lv_iload_n hx hb dX2_meets_56 rfl (lv_at hl 1 rfl) ?_
        refine lv_iload_n hx hb dX2_meets_57 rfl (lv_at hl 2 rfl) ?_
        refine bc_VB (As := [.int (iI q), .int (iI 0), .int (iI p), .int (iI m0)]) (rest := []) (kd := 7) (k := 0) (ci := 2) ⟨hx, hb, hml, hown, hts⟩ (c_X2_tubeAndBox l g ad σ τ w q 0 p m0 hqq hqp hBt hM (by omega) (by omega) (by omega)) (cwV 4 hts gX2_meets_X2_tubeAndBox rfl rfl rfl (by decide +kernel) ⟨Nat.le_of_ble_eq_true rfl, Nat.le_of_ble_eq_true rfl⟩) hK hU (bx_L0 (by omega)) rfl rfl rfl hl.1 rfl (Nat.le_of_ble_eq_true rfl) dX2_meets_58 ⟨Nat.zero_le _, Nat.zero_le _⟩ (fun h58 => ?_) (fun h58 => ?_)
        · refine be_t hx hb hr hlocks ?_ dX2_meets_61
          exact (mt_bt (wf_eff hBt hqp) (wf_eff hBt hqq) (m := m0) (by omega) (show eff τ 5 p 0 = -1 by show τ 5 p 0 = -1; omega) (show eff τ 5 q 0 ≠ -1 by show τ 5 q 0 ≠ -1; omega)).mp h58
        · refine be_f hx hb hr hlocks ?_ dX2_meets_61
          exact fun q9 => h58 ((mt_bt (wf_eff hBt hqp) (wf_eff hBt hqq) (m := m0) (by omega) (show eff τ 5 p 0 = -1 by show τ 5 p 0 = -1; omega) (show eff τ 5 q 0 ≠ -1 by show τ 5 q 0 ≠ -1; omega)).mpr q9)
    · refine lv_aload_n hx hb dX2_meets_35 rfl (lv_at hl 0 rfl) ?_
      refine lv_iload_n hx hb dX2_meets_36 rfl (lv_at hl 1 rfl) ?_
      refine lv_iload_n hx hb dX2_meets_37 rfl (lv_at hl 2 rfl) ?_
      refine lv_iload_n hx hb dX2_meets_38 rfl (lv_at hl 3 rfl) ?_
      refine li_iconst hx hb dX2_meets_39 ?_
      refine bc_VB (As := [.int (iI p), .int (iI m0), .int (iI q), .int (iI 0)]) (rest := []) (kd := 7) (k := 0) (ci := 2) ⟨hx, hb, hml, hown, hts⟩ (c_X2_tubeAndBox l g ad σ τ w p m0 q 0 hqp hqq hBt hM (by omega) (by omega) (by omega)) (cwV 4 hts gX2_meets_X2_tubeAndBox rfl rfl rfl (by decide +kernel) ⟨Nat.le_of_ble_eq_true rfl, Nat.le_of_ble_eq_true rfl⟩) hK hU (bx_L0 (by omega)) rfl rfl rfl hl.1 rfl (Nat.le_of_ble_eq_true rfl) dX2_meets_40 ⟨Nat.zero_le _, Nat.zero_le _⟩ (fun h59 => ?_) (fun h59 => ?_)
      · refine be_t hx hb hr hlocks ?_ dX2_meets_43
        exact (mt_tb (wf_eff hBt hqp) (wf_eff hBt hqq) m0 (show eff τ 5 p 0 ≠ -1 by show τ 5 p 0 ≠ -1; omega) (show eff τ 5 q 0 = -1 by show τ 5 q 0 = -1; omega)).mp h59
      · refine be_f hx hb hr hlocks ?_ dX2_meets_43
        exact fun q9 => h59 ((mt_tb (wf_eff hBt hqp) (wf_eff hBt hqq) m0 (show eff τ 5 p 0 ≠ -1 by show τ 5 p 0 ≠ -1; omega) (show eff τ 5 q 0 = -1 by show τ 5 q 0 = -1; omega)).mpr q9)
  · refine lv_aload_n hx hb dX2_meets_9 rfl (lv_at hl 0 rfl) ?_
    refine bg_X2_axes hx hb hts hinX2 hown hK hU (hts (.fieldLink RX2 20 "ClashBoxesModel" "axes" "[I") (by decide +kernel)) dX2_meets_10 ?_
    refine lv_iload_n hx hb dX2_meets_13 rfl (lv_at hl 3 rfl) ?_
    refine bl_11 hx hb hK hU (by omega) (by omega) dX2_meets_14 ?_
    have b60 := bB5 hBt hqq
    refine li_if_ge (tgt := 26) hx hb (by unfold iR; omega) dX2_meets_15 (by decide) (fun h61 => ?_) (fun h61 => ?_)
    · refine lv_aload_n hx hb dX2_meets_26 rfl (lv_at hl 0 rfl) ?_
      refine bg_X2_axes hx hb hts hinX2 hown hK hU (hts (.fieldLink RX2 20 "ClashBoxesModel" "axes" "[I") (by decide +kernel)) dX2_meets_27 ?_
      refine lv_iload_n hx hb dX2_meets_30 rfl (lv_at hl 3 rfl) ?_
      refine bl_11 hx hb hK hU (by omega) (by omega) dX2_meets_31 ?_
      have b62 := bB5 hBt hqq
      refine li_if_ge (tgt := 44) hx hb (by unfold iR; omega) dX2_meets_32 (by decide) (fun h63 => ?_) (fun h63 => ?_)
      · refine lv_aload_n hx hb dX2_meets_44 rfl (lv_at hl 0 rfl) ?_
        refine bg_X2_axes hx hb hts hinX2 hown hK hU (hts (.fieldLink RX2 20 "ClashBoxesModel" "axes" "[I") (by decide +kernel)) dX2_meets_45 ?_
        refine lv_iload_n hx hb dX2_meets_48 rfl (lv_at hl 1 rfl) ?_
        refine bl_11 hx hb hK hU (by omega) (by omega) dX2_meets_49 ?_
        have b64 := bB5 hBt hqp
        refine li_if_ge (tgt := 62) hx hb (by unfold iR; omega) dX2_meets_50 (by decide) (fun h65 => ?_) (fun h65 => ?_)
        · refine lv_aload_n hx hb dX2_meets_62 rfl (lv_at hl 0 rfl) ?_
          refine bg_X2_axes hx hb hts hinX2 hown hK hU (hts (.fieldLink RX2 20 "ClashBoxesModel" "axes" "[I") (by decide +kernel)) dX2_meets_63 ?_
          refine lv_iload_n hx hb dX2_meets_66 rfl (lv_at hl 1 rfl) ?_
          refine bl_11 hx hb hK hU (by omega) (by omega) dX2_meets_67 ?_
          have b66 := bB5 hBt hqp
          refine lv_aload_n hx hb dX2_meets_68 rfl (lv_at hl 0 rfl) ?_
          refine bg_X2_axes hx hb hts hinX2 hown hK hU (hts (.fieldLink RX2 20 "ClashBoxesModel" "axes" "[I") (by decide +kernel)) dX2_meets_69 ?_
          refine lv_iload_n hx hb dX2_meets_72 rfl (lv_at hl 3 rfl) ?_
          refine bl_11 hx hb hK hU (by omega) (by omega) dX2_meets_73 ?_
          have b67 := bB5 hBt hqq
          refine li_icmp_eq (tgt := 85) hx hb (by unfold iR; omega) (by unfold iR; omega) dX2_meets_74 (by decide) (fun h68 => ?_) (fun h68 => ?_)
          · refine lv_aload_n hx hb dX2_meets_85 rfl (lv_at hl 0 rfl) ?_
            refine bg_X2_axes hx hb hts hinX2 hown hK hU (hts (.fieldLink RX2 20 "ClashBoxesModel" "axes" "[I") (by decide +kernel)) dX2_meets_86 ?_
            refine lv_iload_n hx hb dX2_meets_89 rfl (lv_at hl 1 rfl) ?_
            refine bl_11 hx hb hK hU (by omega) (by omega) dX2_meets_90 ?_
            have b69 := bB5 hBt hqp
            rcases (by omega : τ 5 p 0 = 0 ∨ τ 5 p 0 = 1 ∨ τ 5 p 0 = 2) with hq70 | hq70 | hq70
            · refine W.eq (g2 := F0 mI 91 ls [.int (iI 0)]) (by rw [hq70]) ?_
              refine lv_istore (lv' := [(4, .int (iI 0)), (0, .ref (ad 7 0)), (1, .int (iI p)), (2, .int (iI m0)), (3, .int (iI q))]) hx hb dX2_meets_91 hl (by decide) rfl (fun ls hl => ?_)
              refine li_iconst hx hb dX2_meets_93 ?_
              refine lv_istore (lv' := [(5, .int (iI 0)), (4, .int (iI 0)), (0, .ref (ad 7 0)), (1, .int (iI p)), (2, .int (iI m0)), (3, .int (iI q))]) hx hb dX2_meets_94 hl (by decide) rfl (fun ls hl => ?_)
              refine li_iconst hx hb dX2_meets_96 ?_
              refine lv_istore (lv' := [(6, .int (iI 0)), (5, .int (iI 0)), (4, .int (iI 0)), (0, .ref (ad 7 0)), (1, .int (iI p)), (2, .int (iI m0)), (3, .int (iI q))]) hx hb dX2_meets_97 hl (by decide) rfl (fun ls hl => ?_)
              refine lv_iload hx hb dX2_meets_99 (lv_at hl 0 rfl) ?_
              refine li_iconst hx hb dX2_meets_101 ?_
              refine li_icmp_ge (tgt := 153) hx hb (by unfold iR; omega) (by unfold iR; omega) dX2_meets_102 (by decide) (fun h => absurd h (by decide)) (fun _ => ?_)
              refine lv_iload hx hb dX2_meets_105 (lv_at hl 0 rfl) ?_
              refine lv_iload hx hb dX2_meets_107 (lv_at hl 2 rfl) ?_
              refine li_icmp_ne (tgt := 116) hx hb (by unfold iR; omega) (by unfold iR; omega) dX2_meets_109 (by decide) (fun h => absurd (by decide) h) (fun _ => ?_)
              refine li_iconst hx hb dX2_meets_112 ?_
              refine lv_goto (tgt := 135) hx hb dX2_meets_113 (by decide) ?_
              refine lv_istore (lv' := [(7, .int (iI 0)), (6, .int (iI 0)), (5, .int (iI 0)), (4, .int (iI 0)), (0, .ref (ad 7 0)), (1, .int (iI p)), (2, .int (iI m0)), (3, .int (iI q))]) hx hb dX2_meets_135 hl (by decide) rfl (fun ls hl => ?_)
              refine lv_iload hx hb dX2_meets_137 (lv_at hl 2 rfl) ?_
              refine lv_iload hx hb dX2_meets_139 (lv_at hl 0 rfl) ?_
              refine lv_iload hx hb dX2_meets_141 (lv_at hl 0 rfl) ?_
              refine li_imul hx hb dX2_meets_143 ?_
              refine W.eq (g2 := F0 mI 144 ls [.int (iI 0), .int (iI 0)]) rfl ?_
              refine li_iadd hx hb dX2_meets_144 ?_
              refine W.eq (g2 := F0 mI 145 ls [.int (iI 0)]) rfl ?_
              refine lv_istore (lv' := [(5, .int (iI 0)), (7, .int (iI 0)), (6, .int (iI 0)), (4, .int (iI 0)), (0, .ref (ad 7 0)), (1, .int (iI p)), (2, .int (iI m0)), (3, .int (iI q))]) hx hb dX2_meets_145 hl (by decide) rfl (fun ls hl => ?_)
              refine li_iinc (k0 := 2) (lv' := [(6, .int (iI (0 + 1))), (5, .int (iI 0)), (7, .int (iI 0)), (4, .int (iI 0)), (0, .ref (ad 7 0)), (1, .int (iI p)), (2, .int (iI m0)), (3, .int (iI q))]) hx hb dX2_meets_147 hl rfl (by decide) rfl (fun ls hl => ?_)
              have hl : lv_has ls 8 [(6, .int (iI 1)), (5, .int (iI 0)), (7, .int (iI 0)), (4, .int (iI 0)), (0, .ref (ad 7 0)), (1, .int (iI p)), (2, .int (iI m0)), (3, .int (iI q))] := hl
              refine lv_goto (tgt := 99) hx hb dX2_meets_150 (by decide) ?_
              refine lv_iload hx hb dX2_meets_99 (lv_at hl 0 rfl) ?_
              refine li_iconst hx hb dX2_meets_101 ?_
              refine li_icmp_ge (tgt := 153) hx hb (by unfold iR; omega) (by unfold iR; omega) dX2_meets_102 (by decide) (fun h => absurd h (by decide)) (fun _ => ?_)
              refine lv_iload hx hb dX2_meets_105 (lv_at hl 0 rfl) ?_
              refine lv_iload hx hb dX2_meets_107 (lv_at hl 3 rfl) ?_
              refine li_icmp_ne (tgt := 116) hx hb (by unfold iR; omega) (by unfold iR; omega) dX2_meets_109 (by decide) (fun _ => ?_) (fun h => absurd h (by decide))
              refine lv_aload_n hx hb dX2_meets_116 rfl (lv_at hl 4 rfl) ?_
              refine lv_iload_n hx hb dX2_meets_117 rfl (lv_at hl 5 rfl) ?_
              refine lv_iload hx hb dX2_meets_118 (lv_at hl 0 rfl) ?_
              refine li_iconst hx hb dX2_meets_120 ?_
              refine li_iconst hx hb dX2_meets_121 ?_
              refine bc_V (As := [.int (iI p), .int (iI 1), .int (iI 0), .int (iI 0)]) (rest := []) (kd := 7) (k := 0) (ci := 2) ⟨hx, hb, hml, hown, hts⟩ (c_X2_end l g ad σ τ w p 1 0 0 hqp hBt hM (by omega) (by omega) (by omega)) (cwV 4 hts gX2_meets_X2_end rfl rfl rfl (by decide +kernel) ⟨Nat.le_of_ble_eq_true rfl, Nat.le_of_ble_eq_true rfl⟩) hK hU (bx_L0 (by omega)) rfl rfl rfl hl.1 rfl (Nat.le_of_ble_eq_true rfl) dX2_meets_122 ⟨Nat.zero_le _, Nat.zero_le _⟩ ?_
              have h71 := mE_bd hBt hM hqp (a := 1) (hi := 0) (gr := 0) (by omega) (by omega) (by omega)
              refine lv_aload_n hx hb dX2_meets_125 rfl (lv_at hl 4 rfl) ?_
              refine lv_iload_n hx hb dX2_meets_126 rfl (lv_at hl 7 rfl) ?_
              refine lv_iload hx hb dX2_meets_127 (lv_at hl 0 rfl) ?_
              refine li_iconst hx hb dX2_meets_129 ?_
              refine li_iconst hx hb dX2_meets_130 ?_
              refine bc_V (As := [.int (iI q), .int (iI 1), .int (iI 0), .int (iI 0)]) (rest := [.int (iI (mE (eff τ) p 1 0 0))]) (kd := 7) (k := 0) (ci := 2) ⟨hx, hb, hml, hown, hts⟩ (c_X2_end l g ad σ τ w q 1 0 0 hqq hBt hM (by omega) (by omega) (by omega)) (cwV 4 hts gX2_meets_X2_end rfl rfl rfl (by decide +kernel) ⟨Nat.le_of_ble_eq_true rfl, Nat.le_of_ble_eq_true rfl⟩) hK hU (bx_L0 (by omega)) rfl rfl rfl hl.1 rfl (Nat.le_of_ble_eq_true rfl) dX2_meets_131 ⟨Nat.zero_le _, Nat.zero_le _⟩ ?_
              have h72 := mE_bd hBt hM hqq (a := 1) (hi := 0) (gr := 0) (by omega) (by omega) (by omega)
              refine li_isub hx hb dX2_meets_134 ?_
              refine lv_istore (lv' := [(7, .int (iI ((mE (eff τ) p 1 0 0) - (mE (eff τ) q 1 0 0)))), (6, .int (iI 1)), (5, .int (iI 0)), (4, .int (iI 0)), (0, .ref (ad 7 0)), (1, .int (iI p)), (2, .int (iI m0)), (3, .int (iI q))]) hx hb dX2_meets_135 hl (by decide) rfl (fun ls hl => ?_)
              have b73 := sqa_bd (x := (mE (eff τ) p 1 0 0) - (mE (eff τ) q 1 0 0)) (B := 6000) (by omega) (by omega)
              refine lv_iload hx hb dX2_meets_137 (lv_at hl 2 rfl) ?_
              refine lv_iload hx hb dX2_meets_139 (lv_at hl 0 rfl) ?_
              refine lv_iload hx hb dX2_meets_141 (lv_at hl 0 rfl) ?_
              refine li_imul hx hb dX2_meets_143 ?_
              refine li_iadd hx hb dX2_meets_144 ?_
              refine lv_istore (lv' := [(5, .int (iI (0 + (((mE (eff τ) p 1 0 0) - (mE (eff τ) q 1 0 0)) * ((mE (eff τ) p 1 0 0) - (mE (eff τ) q 1 0 0)))))), (7, .int (iI ((mE (eff τ) p 1 0 0) - (mE (eff τ) q 1 0 0)))), (6, .int (iI 1)), (4, .int (iI 0)), (0, .ref (ad 7 0)), (1, .int (iI p)), (2, .int (iI m0)), (3, .int (iI q))]) hx hb dX2_meets_145 hl (by decide) rfl (fun ls hl => ?_)
              refine li_iinc (k0 := 2) (lv' := [(6, .int (iI (1 + 1))), (5, .int (iI (0 + (((mE (eff τ) p 1 0 0) - (mE (eff τ) q 1 0 0)) * ((mE (eff τ) p 1 0 0) - (mE (eff τ) q 1 0 0)))))), (7, .int (iI ((mE (eff τ) p 1 0 0) - (mE (eff τ) q 1 0 0)))), (4, .int (iI 0)), (0, .ref (ad 7 0)), (1, .int (iI p)), (2, .int (iI m0)), (3, .int (iI q))]) hx hb dX2_meets_147 hl rfl (by decide) rfl (fun ls hl => ?_)
              have hl : lv_has ls 8 [(6, .int (iI 2)), (5, .int (iI (0 + (((mE (eff τ) p 1 0 0) - (mE (eff τ) q 1 0 0)) * ((mE (eff τ) p 1 0 0) - (mE (eff τ) q 1 0 0)))))), (7, .int (iI ((mE (eff τ) p 1 0 0) - (mE (eff τ) q 1 0 0)))), (4, .int (iI 0)), (0, .ref (ad 7 0)), (1, .int (iI p)), (2, .int (iI m0)), (3, .int (iI q))] := hl
              refine lv_goto (tgt := 99) hx hb dX2_meets_150 (by decide) ?_
              refine lv_iload hx hb dX2_meets_99 (lv_at hl 0 rfl) ?_
              refine li_iconst hx hb dX2_meets_101 ?_
              refine li_icmp_ge (tgt := 153) hx hb (by unfold iR; omega) (by unfold iR; omega) dX2_meets_102 (by decide) (fun h => absurd h (by decide)) (fun _ => ?_)
              refine lv_iload hx hb dX2_meets_105 (lv_at hl 0 rfl) ?_
              refine lv_iload hx hb dX2_meets_107 (lv_at hl 3 rfl) ?_
              refine li_icmp_ne (tgt := 116) hx hb (by unfold iR; omega) (by unfold iR; omega) dX2_meets_109 (by decide) (fun _ => ?_) (fun h => absurd h (by decide))
              refine lv_aload_n hx hb dX2_meets_116 rfl (lv_at hl 4 rfl) ?_
              refine lv_iload_n hx hb dX2_meets_117 rfl (lv_at hl 5 rfl) ?_
              refine lv_iload hx hb dX2_meets_118 (lv_at hl 0 rfl) ?_
              refine li_iconst hx hb dX2_meets_120 ?_
              refine li_iconst hx hb dX2_meets_121 ?_
              refine bc_V (As := [.int (iI p), .int (iI 2), .int (iI 0), .int (iI 0)]) (rest := []) (kd := 7) (k := 0) (ci := 2) ⟨hx, hb, hml, hown, hts⟩ (c_X2_end l g ad σ τ w p 2 0 0 hqp hBt hM (by omega) (by omega) (by omega)) (cwV 4 hts gX2_meets_X2_end rfl rfl rfl (by decide +kernel) ⟨Nat.le_of_ble_eq_true rfl, Nat.le_of_ble_eq_true rfl⟩) hK hU (bx_L0 (by omega)) rfl rfl rfl hl.1 rfl (Nat.le_of_ble_eq_true rfl) dX2_meets_122 ⟨Nat.zero_le _, Nat.zero_le _⟩ ?_
              have h74 := mE_bd hBt hM hqp (a := 2) (hi := 0) (gr := 0) (by omega) (by omega) (by omega)
              refine lv_aload_n hx hb dX2_meets_125 rfl (lv_at hl 4 rfl) ?_
              refine lv_iload_n hx hb dX2_meets_126 rfl (lv_at hl 7 rfl) ?_
              refine lv_iload hx hb dX2_meets_127 (lv_at hl 0 rfl) ?_
              refine li_iconst hx hb dX2_meets_129 ?_
              refine li_iconst hx hb dX2_meets_130 ?_
              refine bc_V (As := [.int (iI q), .int (iI 2), .int (iI 0), .int (iI 0)]) (rest := [.int (iI (mE (eff τ) p 2 0 0))]) (kd := 7) (k := 0) (ci := 2) ⟨hx, hb, hml, hown, hts⟩ (c_X2_end l g ad σ τ w q 2 0 0 hqq hBt hM (by omega) (by omega) (by omega)) (cwV 4 hts gX2_meets_X2_end rfl rfl rfl (by decide +kernel) ⟨Nat.le_of_ble_eq_true rfl, Nat.le_of_ble_eq_true rfl⟩) hK hU (bx_L0 (by omega)) rfl rfl rfl hl.1 rfl (Nat.le_of_ble_eq_true rfl) dX2_meets_131 ⟨Nat.zero_le _, Nat.zero_le _⟩ ?_
              have h75 := mE_bd hBt hM hqq (a := 2) (hi := 0) (gr := 0) (by omega) (by omega) (by omega)
              refine li_isub hx hb dX2_meets_134 ?_
              refine lv_istore (lv' := [(7, .int (iI ((mE (eff τ) p 2 0 0) - (mE (eff τ) q 2 0 0)))), (6, .int (iI 2)), (5, .int (iI (0 + (((mE (eff τ) p 1 0 0) - (mE (eff τ) q 1 0 0)) * ((mE (eff τ) p 1 0 0) - (mE (eff τ) q 1 0 0)))))), (4, .int (iI 0)), (0, .ref (ad 7 0)), (1, .int (iI p)), (2, .int (iI m0)), (3, .int (iI q))]) hx hb dX2_meets_135 hl (by decide) rfl (fun ls hl => ?_)
              have b76 := sqa_bd (x := (mE (eff τ) p 2 0 0) - (mE (eff τ) q 2 0 0)) (B := 6000) (by omega) (by omega)
              refine lv_iload hx hb dX2_meets_137 (lv_at hl 2 rfl) ?_
              refine lv_iload hx hb dX2_meets_139 (lv_at hl 0 rfl) ?_
              refine lv_iload hx hb dX2_meets_141 (lv_at hl 0 rfl) ?_
              refine li_imul hx hb dX2_meets_143 ?_
              refine li_iadd hx hb dX2_meets_144 ?_
              refine lv_istore (lv' := [(5, .int (iI ((0 + (((mE (eff τ) p 1 0 0) - (mE (eff τ) q 1 0 0)) * ((mE (eff τ) p 1 0 0) - (mE (eff τ) q 1 0 0)))) + (((mE (eff τ) p 2 0 0) - (mE (eff τ) q 2 0 0)) * ((mE (eff τ) p 2 0 0) - (mE (eff τ) q 2 0 0)))))), (7, .int (iI ((mE (eff τ) p 2 0 0) - (mE (eff τ) q 2 0 0)))), (6, .int (iI 2)), (4, .int (iI 0)), (0, .ref (ad 7 0)), (1, .int (iI p)), (2, .int (iI m0)), (3, .int (iI q))]) hx hb dX2_meets_145 hl (by decide) rfl (fun ls hl => ?_)
              refine li_iinc (k0 := 2) (lv' := [(6, .int (iI (2 + 1))), (5, .int (iI ((0 + (((mE (eff τ) p 1 0 0) - (mE (eff τ) q 1 0 0)) * ((mE (eff τ) p 1 0 0) - (mE (eff τ) q 1 0 0)))) + (((mE (eff τ) p 2 0 0) - (mE (eff τ) q 2 0 0)) * ((mE (eff τ) p 2 0 0) - (mE (eff τ) q 2 0 0)))))), (7, .int (iI ((mE (eff τ) p 2 0 0) - (mE (eff τ) q 2 0 0)))), (4, .int (iI 0)), (0, .ref (ad 7 0)), (1, .int (iI p)), (2, .int (iI m0)), (3, .int (iI q))]) hx hb dX2_meets_147 hl rfl (by decide) rfl (fun ls hl => ?_)
              have hl : lv_has ls 8 [(6, .int (iI 3)), (5, .int (iI ((0 + (((mE (eff τ) p 1 0 0) - (mE (eff τ) q 1 0 0)) * ((mE (eff τ) p 1 0 0) - (mE (eff τ) q 1 0 0)))) + (((mE (eff τ) p 2 0 0) - (mE (eff τ) q 2 0 0)) * ((mE (eff τ) p 2 0 0) - (mE (eff τ) q 2 0 0)))))), (7, .int (iI ((mE (eff τ) p 2 0 0) - (mE (eff τ) q 2 0 0)))), (4, .int (iI 0)), (0, .ref (ad 7 0)), (1, .int (iI p)), (2, .int (iI m0)), (3, .int (iI q))] := hl
              refine lv_goto (tgt := 99) hx hb dX2_meets_150 (by decide) ?_
              refine lv_iload hx hb dX2_meets_99 (lv_at hl 0 rfl) ?_
              refine li_iconst hx hb dX2_meets_101 ?_
              refine li_icmp_ge (tgt := 153) hx hb (by unfold iR; omega) (by unfold iR; omega) dX2_meets_102 (by decide) (fun _ => ?_) (fun h => absurd (by decide) h)
              refine lv_aload_n hx hb dX2_meets_153 rfl (lv_at hl 4 rfl) ?_
              refine bg_X2_radii hx hb hts hinX2 hown hK hU (hts (.fieldLink RX2 23 "ClashBoxesModel" "radii" "[I") (by decide +kernel)) dX2_meets_154 ?_
              refine lv_iload_n hx hb dX2_meets_157 rfl (lv_at hl 5 rfl) ?_
              refine bl_12 hx hb hK hU (by omega) (by omega) dX2_meets_158 ?_
              have b77 := bB6 hBt hqp
              refine lv_iload_n hx hb dX2_meets_159 rfl (lv_at hl 6 rfl) ?_
              refine li_iadd hx hb dX2_meets_160 ?_
              refine lv_aload_n hx hb dX2_meets_161 rfl (lv_at hl 4 rfl) ?_
              refine bg_X2_radii hx hb hts hinX2 hown hK hU (hts (.fieldLink RX2 23 "ClashBoxesModel" "radii" "[I") (by decide +kernel)) dX2_meets_162 ?_
              refine lv_iload_n hx hb dX2_meets_165 rfl (lv_at hl 7 rfl) ?_
              refine bl_12 hx hb hK hU (by omega) (by omega) dX2_meets_166 ?_
              have b78 := bB6 hBt hqq
              refine li_iadd hx hb dX2_meets_167 ?_
              refine lv_istore (lv' := [(6, .int (iI (((τ 6 p 0) + m0) + (τ 6 q 0)))), (5, .int (iI ((0 + (((mE (eff τ) p 1 0 0) - (mE (eff τ) q 1 0 0)) * ((mE (eff τ) p 1 0 0) - (mE (eff τ) q 1 0 0)))) + (((mE (eff τ) p 2 0 0) - (mE (eff τ) q 2 0 0)) * ((mE (eff τ) p 2 0 0) - (mE (eff τ) q 2 0 0)))))), (7, .int (iI ((mE (eff τ) p 2 0 0) - (mE (eff τ) q 2 0 0)))), (4, .int (iI 0)), (0, .ref (ad 7 0)), (1, .int (iI p)), (2, .int (iI m0)), (3, .int (iI q))]) hx hb dX2_meets_168 hl (by decide) rfl (fun ls hl => ?_)
              have b79 := sq_bd (x := ((τ 6 p 0) + m0) + (τ 6 q 0)) (B := 450) (by omega) (by omega)
              refine lv_aload_n hx hb dX2_meets_170 rfl (lv_at hl 4 rfl) ?_
              refine lv_iload_n hx hb dX2_meets_171 rfl (lv_at hl 5 rfl) ?_
              refine lv_iload hx hb dX2_meets_172 (lv_at hl 3 rfl) ?_
              refine li_iconst hx hb dX2_meets_174 ?_
              refine lv_iload_n hx hb dX2_meets_175 rfl (lv_at hl 6 rfl) ?_
              refine bc_V (As := [.int (iI p), .int (iI 0), .int (iI 0), .int (iI m0)]) (rest := []) (kd := 7) (k := 0) (ci := 2) ⟨hx, hb, hml, hown, hts⟩ (c_X2_end l g ad σ τ w p 0 0 m0 hqp hBt hM (by omega) (by omega) (by omega)) (cwV 4 hts gX2_meets_X2_end rfl rfl rfl (by decide +kernel) ⟨Nat.le_of_ble_eq_true rfl, Nat.le_of_ble_eq_true rfl⟩) hK hU (bx_L0 (by omega)) rfl rfl rfl hl.1 rfl (Nat.le_of_ble_eq_true rfl) dX2_meets_176 ⟨Nat.zero_le _, Nat.zero_le _⟩ ?_
              have h80 := mE_bd hBt hM hqp (a := 0) (hi := 0) (gr := m0) (by omega) (by omega) (by omega)
              refine lv_aload_n hx hb dX2_meets_179 rfl (lv_at hl 4 rfl) ?_
              refine lv_iload_n hx hb dX2_meets_180 rfl (lv_at hl 5 rfl) ?_
              refine lv_iload hx hb dX2_meets_181 (lv_at hl 3 rfl) ?_
              refine li_iconst hx hb dX2_meets_183 ?_
              refine lv_iload_n hx hb dX2_meets_184 rfl (lv_at hl 6 rfl) ?_
              refine bc_V (As := [.int (iI p), .int (iI 0), .int (iI 1), .int (iI m0)]) (rest := [.int (iI (mE (eff τ) p 0 0 m0))]) (kd := 7) (k := 0) (ci := 2) ⟨hx, hb, hml, hown, hts⟩ (c_X2_end l g ad σ τ w p 0 1 m0 hqp hBt hM (by omega) (by omega) (by omega)) (cwV 4 hts gX2_meets_X2_end rfl rfl rfl (by decide +kernel) ⟨Nat.le_of_ble_eq_true rfl, Nat.le_of_ble_eq_true rfl⟩) hK hU (bx_L0 (by omega)) rfl rfl rfl hl.1 rfl (Nat.le_of_ble_eq_true rfl) dX2_meets_185 ⟨Nat.zero_le _, Nat.zero_le _⟩ ?_
              have h81 := mE_bd hBt hM hqp (a := 0) (hi := 1) (gr := m0) (by omega) (by omega) (by omega)
              refine lv_aload_n hx hb dX2_meets_188 rfl (lv_at hl 4 rfl) ?_
              refine lv_iload_n hx hb dX2_meets_189 rfl (lv_at hl 7 rfl) ?_
              refine lv_iload hx hb dX2_meets_190 (lv_at hl 3 rfl) ?_
              refine li_iconst hx hb dX2_meets_192 ?_
              refine li_iconst hx hb dX2_meets_193 ?_
              refine bc_V (As := [.int (iI q), .int (iI 0), .int (iI 0), .int (iI 0)]) (rest := [.int (iI (mE (eff τ) p 0 1 m0)), .int (iI (mE (eff τ) p 0 0 m0))]) (kd := 7) (k := 0) (ci := 2) ⟨hx, hb, hml, hown, hts⟩ (c_X2_end l g ad σ τ w q 0 0 0 hqq hBt hM (by omega) (by omega) (by omega)) (cwV 4 hts gX2_meets_X2_end rfl rfl rfl (by decide +kernel) ⟨Nat.le_of_ble_eq_true rfl, Nat.le_of_ble_eq_true rfl⟩) hK hU (bx_L0 (by omega)) rfl rfl rfl hl.1 rfl (Nat.le_of_ble_eq_true rfl) dX2_meets_194 ⟨Nat.zero_le _, Nat.zero_le _⟩ ?_
              have h82 := mE_bd hBt hM hqq (a := 0) (hi := 0) (gr := 0) (by omega) (by omega) (by omega)
              refine lv_aload_n hx hb dX2_meets_197 rfl (lv_at hl 4 rfl) ?_
              refine lv_iload_n hx hb dX2_meets_198 rfl (lv_at hl 7 rfl) ?_
              refine lv_iload hx hb dX2_meets_199 (lv_at hl 3 rfl) ?_
              refine li_iconst hx hb dX2_meets_201 ?_
              refine li_iconst hx hb dX2_meets_202 ?_
              refine bc_V (As := [.int (iI q), .int (iI 0), .int (iI 1), .int (iI 0)]) (rest := [.int (iI (mE (eff τ) q 0 0 0)), .int (iI (mE (eff τ) p 0 1 m0)), .int (iI (mE (eff τ) p 0 0 m0))]) (kd := 7) (k := 0) (ci := 2) ⟨hx, hb, hml, hown, hts⟩ (c_X2_end l g ad σ τ w q 0 1 0 hqq hBt hM (by omega) (by omega) (by omega)) (cwV 4 hts gX2_meets_X2_end rfl rfl rfl (by decide +kernel) ⟨Nat.le_of_ble_eq_true rfl, Nat.le_of_ble_eq_true rfl⟩) hK hU (bx_L0 (by omega)) rfl rfl rfl hl.1 rfl (Nat.le_of_ble_eq_true rfl) dX2_meets_203 ⟨Nat.zero_le _, Nat.zero_le _⟩ ?_
              have h83 := mE_bd hBt hM hqq (a := 0) (hi := 1) (gr := 0) (by omega) (by omega) (by omega)
              refine bc_SB (As := [.int (iI (mE (eff τ) p 0 0 m0)), .int (iI (mE (eff τ) p 0 1 m0)), .int (iI (mE (eff τ) q 0 0 0)), .int (iI (mE (eff τ) q 0 1 0))]) (rest := []) ⟨hx, hb, hml, hown, hts⟩ (c_X2_overlaps l g ad σ τ w (mE (eff τ) p 0 0 m0) (mE (eff τ) p 0 1 m0) (mE (eff τ) q 0 0 0) (mE (eff τ) q 0 1 0) (by unfold iR; omega) (by unfold iR; omega) (by unfold iR; omega) (by unfold iR; omega)) (va_cwS 4 hts gX2_meets_X2_overlaps rfl rfl rfl (by decide +kernel) ⟨Nat.le_of_ble_eq_true rfl, Nat.le_of_ble_eq_true rfl⟩) hK hU  rfl hl.1 rfl (Nat.le_of_ble_eq_true rfl) dX2_meets_206 ⟨Nat.zero_le _, Nat.zero_le _⟩ (fun h84 => ?_) (fun h84 => ?_)
              · refine li_if_eq (tgt := 226) hx hb (by unfold iR; omega) dX2_meets_209 (by decide) (fun h => absurd h (by decide)) (fun _ => ?_)
                refine lv_iload hx hb dX2_meets_212 (lv_at hl 1 rfl) ?_
                refine lv_iload hx hb dX2_meets_214 (lv_at hl 0 rfl) ?_
                refine lv_iload hx hb dX2_meets_216 (lv_at hl 0 rfl) ?_
                refine li_imul hx hb dX2_meets_218 ?_
                refine li_icmp_ge (tgt := 226) hx hb (by unfold iR; omega) (by unfold iR; omega) dX2_meets_219 (by decide) (fun h85 => ?_) (fun h85 => ?_)
                · refine li_iconst hx hb dX2_meets_226 ?_
                  refine be_f hx hb hr hlocks ?_ dX2_meets_227
                  rw [← mt_tt (wf_eff hBt hqp) (wf_eff hBt hqq) m0 (show eff τ 5 p 0 ≠ -1 by show τ 5 p 0 ≠ -1; omega) (show eff τ 5 q 0 = eff τ 5 p 0 by show τ 5 q 0 = τ 5 p 0; omega)]; (have e5 : eff τ 5 p 0 = 0 := hq70); (have e6 : eff τ 6 p 0 = τ 6 p 0 := rfl); (have e7 : eff τ 6 q 0 = τ 6 q 0 := rfl); rw [e5]; unfold ttx dsum; rw [if_pos rfl, if_neg (by decide), if_neg (by decide), e6, e7]; omega
                · refine li_iconst hx hb dX2_meets_222 ?_
                  refine lv_goto (tgt := 227) hx hb dX2_meets_223 (by decide) ?_
                  refine be_t hx hb hr hlocks ?_ dX2_meets_227
                  rw [← mt_tt (wf_eff hBt hqp) (wf_eff hBt hqq) m0 (show eff τ 5 p 0 ≠ -1 by show τ 5 p 0 ≠ -1; omega) (show eff τ 5 q 0 = eff τ 5 p 0 by show τ 5 q 0 = τ 5 p 0; omega)]; (have e5 : eff τ 5 p 0 = 0 := hq70); (have e6 : eff τ 6 p 0 = τ 6 p 0 := rfl); (have e7 : eff τ 6 q 0 = τ 6 q 0 := rfl); rw [e5]; unfold ttx dsum; rw [if_pos rfl, if_neg (by decide), if_neg (by decide), e6, e7]; omega
              · refine li_if_eq (tgt := 226) hx hb (by unfold iR; omega) dX2_meets_209 (by decide) (fun _ => ?_) (fun h => absurd (by decide) h)
                refine li_iconst hx hb dX2_meets_226 ?_
                refine be_f hx hb hr hlocks ?_ dX2_meets_227
                rw [← mt_tt (wf_eff hBt hqp) (wf_eff hBt hqq) m0 (show eff τ 5 p 0 ≠ -1 by show τ 5 p 0 ≠ -1; omega) (show eff τ 5 q 0 = eff τ 5 p 0 by show τ 5 q 0 = τ 5 p 0; omega)]; (have e5 : eff τ 5 p 0 = 0 := hq70); (have e6 : eff τ 6 p 0 = τ 6 p 0 := rfl); (have e7 : eff τ 6 q 0 = τ 6 q 0 := rfl); rw [e5]; unfold ttx dsum; rw [if_pos rfl, if_neg (by decide), if_neg (by decide), e6, e7]; omega
            · refine W.eq (g2 := F0 mI 91 ls [.int (iI 1)]) (by rw [hq70]) ?_
              refine lv_istore (lv' := [(4, .int (iI 1)), (0, .ref (ad 7 0)), (1, .int (iI p)), (2, .int (iI m0)), (3, .int (iI q))]) hx hb dX2_meets_91 hl (by decide) rfl (fun ls hl => ?_)
              refine li_iconst hx hb dX2_meets_93 ?_
              refine lv_istore (lv' := [(5, .int (iI 0)), (4, .int (iI 1)), (0, .ref (ad 7 0)), (1, .int (iI p)), (2, .int (iI m0)), (3, .int (iI q))]) hx hb dX2_meets_94 hl (by decide) rfl (fun ls hl => ?_)
              refine li_iconst hx hb dX2_meets_96 ?_
              refine lv_istore (lv' := [(6, .int (iI 0)), (5, .int (iI 0)), (4, .int (iI 1)), (0, .ref (ad 7 0)), (1, .int (iI p)), (2, .int (iI m0)), (3, .int (iI q))]) hx hb dX2_meets_97 hl (by decide) rfl (fun ls hl => ?_)
              refine lv_iload hx hb dX2_meets_99 (lv_at hl 0 rfl) ?_
              refine li_iconst hx hb dX2_meets_101 ?_
              refine li_icmp_ge (tgt := 153) hx hb (by unfold iR; omega) (by unfold iR; omega) dX2_meets_102 (by decide) (fun h => absurd h (by decide)) (fun _ => ?_)
              refine lv_iload hx hb dX2_meets_105 (lv_at hl 0 rfl) ?_
              refine lv_iload hx hb dX2_meets_107 (lv_at hl 2 rfl) ?_
              refine li_icmp_ne (tgt := 116) hx hb (by unfold iR; omega) (by unfold iR; omega) dX2_meets_109 (by decide) (fun _ => ?_) (fun h => absurd h (by decide))
              refine lv_aload_n hx hb dX2_meets_116 rfl (lv_at hl 3 rfl) ?_
              refine lv_iload_n hx hb dX2_meets_117 rfl (lv_at hl 4 rfl) ?_
              refine lv_iload hx hb dX2_meets_118 (lv_at hl 0 rfl) ?_
              refine li_iconst hx hb dX2_meets_120 ?_
              refine li_iconst hx hb dX2_meets_121 ?_
              refine bc_V (As := [.int (iI p), .int (iI 0), .int (iI 0), .int (iI 0)]) (rest := []) (kd := 7) (k := 0) (ci := 2) ⟨hx, hb, hml, hown, hts⟩ (c_X2_end l g ad σ τ w p 0 0 0 hqp hBt hM (by omega) (by omega) (by omega)) (cwV 4 hts gX2_meets_X2_end rfl rfl rfl (by decide +kernel) ⟨Nat.le_of_ble_eq_true rfl, Nat.le_of_ble_eq_true rfl⟩) hK hU (bx_L0 (by omega)) rfl rfl rfl hl.1 rfl (Nat.le_of_ble_eq_true rfl) dX2_meets_122 ⟨Nat.zero_le _, Nat.zero_le _⟩ ?_
              have h86 := mE_bd hBt hM hqp (a := 0) (hi := 0) (gr := 0) (by omega) (by omega) (by omega)
              refine lv_aload_n hx hb dX2_meets_125 rfl (lv_at hl 3 rfl) ?_
              refine lv_iload_n hx hb dX2_meets_126 rfl (lv_at hl 6 rfl) ?_
              refine lv_iload hx hb dX2_meets_127 (lv_at hl 0 rfl) ?_
              refine li_iconst hx hb dX2_meets_129 ?_
              refine li_iconst hx hb dX2_meets_130 ?_
              refine bc_V (As := [.int (iI q), .int (iI 0), .int (iI 0), .int (iI 0)]) (rest := [.int (iI (mE (eff τ) p 0 0 0))]) (kd := 7) (k := 0) (ci := 2) ⟨hx, hb, hml, hown, hts⟩ (c_X2_end l g ad σ τ w q 0 0 0 hqq hBt hM (by omega) (by omega) (by omega)) (cwV 4 hts gX2_meets_X2_end rfl rfl rfl (by decide +kernel) ⟨Nat.le_of_ble_eq_true rfl, Nat.le_of_ble_eq_true rfl⟩) hK hU (bx_L0 (by omega)) rfl rfl rfl hl.1 rfl (Nat.le_of_ble_eq_true rfl) dX2_meets_131 ⟨Nat.zero_le _, Nat.zero_le _⟩ ?_
              have h87 := mE_bd hBt hM hqq (a := 0) (hi := 0) (gr := 0) (by omega) (by omega) (by omega)
              refine li_isub hx hb dX2_meets_134 ?_
              refine lv_istore (lv' := [(7, .int (iI ((mE (eff τ) p 0 0 0) - (mE (eff τ) q 0 0 0)))), (6, .int (iI 0)), (5, .int (iI 0)), (4, .int (iI 1)), (0, .ref (ad 7 0)), (1, .int (iI p)), (2, .int (iI m0)), (3, .int (iI q))]) hx hb dX2_meets_135 hl (by decide) rfl (fun ls hl => ?_)
              have b88 := sqa_bd (x := (mE (eff τ) p 0 0 0) - (mE (eff τ) q 0 0 0)) (B := 6000) (by omega) (by omega)
              refine lv_iload hx hb dX2_meets_137 (lv_at hl 2 rfl) ?_
              refine lv_iload hx hb dX2_meets_139 (lv_at hl 0 rfl) ?_
              refine lv_iload hx hb dX2_meets_141 (lv_at hl 0 rfl) ?_
              refine li_imul hx hb dX2_meets_143 ?_
              refine li_iadd hx hb dX2_meets_144 ?_
              refine lv_istore (lv' := [(5, .int (iI (0 + (((mE (eff τ) p 0 0 0) - (mE (eff τ) q 0 0 0)) * ((mE (eff τ) p 0 0 0) - (mE (eff τ) q 0 0 0)))))), (7, .int (iI ((mE (eff τ) p 0 0 0) - (mE (eff τ) q 0 0 0)))), (6, .int (iI 0)), (4, .int (iI 1)), (0, .ref (ad 7 0)), (1, .int (iI p)), (2, .int (iI m0)), (3, .int (iI q))]) hx hb dX2_meets_145 hl (by decide) rfl (fun ls hl => ?_)
              refine li_iinc (k0 := 2) (lv' := [(6, .int (iI (0 + 1))), (5, .int (iI (0 + (((mE (eff τ) p 0 0 0) - (mE (eff τ) q 0 0 0)) * ((mE (eff τ) p 0 0 0) - (mE (eff τ) q 0 0 0)))))), (7, .int (iI ((mE (eff τ) p 0 0 0) - (mE (eff τ) q 0 0 0)))), (4, .int (iI 1)), (0, .ref (ad 7 0)), (1, .int (iI p)), (2, .int (iI m0)), (3, .int (iI q))]) hx hb dX2_meets_147 hl rfl (by decide) rfl (fun ls hl => ?_)
              have hl : lv_has ls 8 [(6, .int (iI 1)), (5, .int (iI (0 + (((mE (eff τ) p 0 0 0) - (mE (eff τ) q 0 0 0)) * ((mE (eff τ) p 0 0 0) - (mE (eff τ) q 0 0 0)))))), (7, .int (iI ((mE (eff τ) p 0 0 0) - (mE (eff τ) q 0 0 0)))), (4, .int (iI 1)), (0, .ref (ad 7 0)), (1, .int (iI p)), (2, .int (iI m0)), (3, .int (iI q))] := hl
              refine lv_goto (tgt := 99) hx hb dX2_meets_150 (by decide) ?_
              refine lv_iload hx hb dX2_meets_99 (lv_at hl 0 rfl) ?_
              refine li_iconst hx hb dX2_meets_101 ?_
              refine li_icmp_ge (tgt := 153) hx hb (by unfold iR; omega) (by unfold iR; omega) dX2_meets_102 (by decide) (fun h => absurd h (by decide)) (fun _ => ?_)
              refine lv_iload hx hb dX2_meets_105 (lv_at hl 0 rfl) ?_
              refine lv_iload hx hb dX2_meets_107 (lv_at hl 3 rfl) ?_
              refine li_icmp_ne (tgt := 116) hx hb (by unfold iR; omega) (by unfold iR; omega) dX2_meets_109 (by decide) (fun h => absurd (by decide) h) (fun _ => ?_)
              refine li_iconst hx hb dX2_meets_112 ?_
              refine lv_goto (tgt := 135) hx hb dX2_meets_113 (by decide) ?_
              refine lv_istore (lv' := [(7, .int (iI 0)), (6, .int (iI 1)), (5, .int (iI (0 + (((mE (eff τ) p 0 0 0) - (mE (eff τ) q 0 0 0)) * ((mE (eff τ) p 0 0 0) - (mE (eff τ) q 0 0 0)))))), (4, .int (iI 1)), (0, .ref (ad 7 0)), (1, .int (iI p)), (2, .int (iI m0)), (3, .int (iI q))]) hx hb dX2_meets_135 hl (by decide) rfl (fun ls hl => ?_)
              refine lv_iload hx hb dX2_meets_137 (lv_at hl 2 rfl) ?_
              refine lv_iload hx hb dX2_meets_139 (lv_at hl 0 rfl) ?_
              refine lv_iload hx hb dX2_meets_141 (lv_at hl 0 rfl) ?_
              refine li_imul hx hb dX2_meets_143 ?_
              refine W.eq (g2 := F0 mI 144 ls [.int (iI 0), .int (iI (0 + (((mE (eff τ) p 0 0 0) - (mE (eff τ) q 0 0 0)) * ((mE (eff τ) p 0 0 0) - (mE (eff τ) q 0 0 0)))))]) rfl ?_
              refine li_iadd hx hb dX2_meets_144 ?_
              refine lv_istore (lv' := [(5, .int (iI ((0 + (((mE (eff τ) p 0 0 0) - (mE (eff τ) q 0 0 0)) * ((mE (eff τ) p 0 0 0) - (mE (eff τ) q 0 0 0)))) + 0))), (7, .int (iI 0)), (6, .int (iI 1)), (4, .int (iI 1)), (0, .ref (ad 7 0)), (1, .int (iI p)), (2, .int (iI m0)), (3, .int (iI q))]) hx hb dX2_meets_145 hl (by decide) rfl (fun ls hl => ?_)
              refine li_iinc (k0 := 2) (lv' := [(6, .int (iI (1 + 1))), (5, .int (iI ((0 + (((mE (eff τ) p 0 0 0) - (mE (eff τ) q 0 0 0)) * ((mE (eff τ) p 0 0 0) - (mE (eff τ) q 0 0 0)))) + 0))), (7, .int (iI 0)), (4, .int (iI 1)), (0, .ref (ad 7 0)), (1, .int (iI p)), (2, .int (iI m0)), (3, .int (iI q))]) hx hb dX2_meets_147 hl rfl (by decide) rfl (fun ls hl => ?_)
              have hl : lv_has ls 8 [(6, .int (iI 2)), (5, .int (iI ((0 + (((mE (eff τ) p 0 0 0) - (mE (eff τ) q 0 0 0)) * ((mE (eff τ) p 0 0 0) - (mE (eff τ) q 0 0 0)))) + 0))), (7, .int (iI 0)), (4, .int (iI 1)), (0, .ref (ad 7 0)), (1, .int (iI p)), (2, .int (iI m0)), (3, .int (iI q))] := hl
              refine lv_goto (tgt := 99) hx hb dX2_meets_150 (by decide) ?_
              refine lv_iload hx hb dX2_meets_99 (lv_at hl 0 rfl) ?_
              refine li_iconst hx hb dX2_meets_101 ?_
              refine li_icmp_ge (tgt := 153) hx hb (by unfold iR; omega) (by unfold iR; omega) dX2_meets_102 (by decide) (fun h => absurd h (by decide)) (fun _ => ?_)
              refine lv_iload hx hb dX2_meets_105 (lv_at hl 0 rfl) ?_
              refine lv_iload hx hb dX2_meets_107 (lv_at hl 3 rfl) ?_
              refine li_icmp_ne (tgt := 116) hx hb (by unfold iR; omega) (by unfold iR; omega) dX2_meets_109 (by decide) (fun _ => ?_) (fun h => absurd h (by decide))
              refine lv_aload_n hx hb dX2_meets_116 rfl (lv_at hl 4 rfl) ?_
              refine lv_iload_n hx hb dX2_meets_117 rfl (lv_at hl 5 rfl) ?_
              refine lv_iload hx hb dX2_meets_118 (lv_at hl 0 rfl) ?_
              refine li_iconst hx hb dX2_meets_120 ?_
              refine li_iconst hx hb dX2_meets_121 ?_
              refine bc_V (As := [.int (iI p), .int (iI 2), .int (iI 0), .int (iI 0)]) (rest := []) (kd := 7) (k := 0) (ci := 2) ⟨hx, hb, hml, hown, hts⟩ (c_X2_end l g ad σ τ w p 2 0 0 hqp hBt hM (by omega) (by omega) (by omega)) (cwV 4 hts gX2_meets_X2_end rfl rfl rfl (by decide +kernel) ⟨Nat.le_of_ble_eq_true rfl, Nat.le_of_ble_eq_true rfl⟩) hK hU (bx_L0 (by omega)) rfl rfl rfl hl.1 rfl (Nat.le_of_ble_eq_true rfl) dX2_meets_122 ⟨Nat.zero_le _, Nat.zero_le _⟩ ?_
              have h89 := mE_bd hBt hM hqp (a := 2) (hi := 0) (gr := 0) (by omega) (by omega) (by omega)
              refine lv_aload_n hx hb dX2_meets_125 rfl (lv_at hl 4 rfl) ?_
              refine lv_iload_n hx hb dX2_meets_126 rfl (lv_at hl 7 rfl) ?_
              refine lv_iload hx hb dX2_meets_127 (lv_at hl 0 rfl) ?_
              refine li_iconst hx hb dX2_meets_129 ?_
              refine li_iconst hx hb dX2_meets_130 ?_
              refine bc_V (As := [.int (iI q), .int (iI 2), .int (iI 0), .int (iI 0)]) (rest := [.int (iI (mE (eff τ) p 2 0 0))]) (kd := 7) (k := 0) (ci := 2) ⟨hx, hb, hml, hown, hts⟩ (c_X2_end l g ad σ τ w q 2 0 0 hqq hBt hM (by omega) (by omega) (by omega)) (cwV 4 hts gX2_meets_X2_end rfl rfl rfl (by decide +kernel) ⟨Nat.le_of_ble_eq_true rfl, Nat.le_of_ble_eq_true rfl⟩) hK hU (bx_L0 (by omega)) rfl rfl rfl hl.1 rfl (Nat.le_of_ble_eq_true rfl) dX2_meets_131 ⟨Nat.zero_le _, Nat.zero_le _⟩ ?_
              have h90 := mE_bd hBt hM hqq (a := 2) (hi := 0) (gr := 0) (by omega) (by omega) (by omega)
              refine li_isub hx hb dX2_meets_134 ?_
              refine lv_istore (lv' := [(7, .int (iI ((mE (eff τ) p 2 0 0) - (mE (eff τ) q 2 0 0)))), (6, .int (iI 2)), (5, .int (iI ((0 + (((mE (eff τ) p 0 0 0) - (mE (eff τ) q 0 0 0)) * ((mE (eff τ) p 0 0 0) - (mE (eff τ) q 0 0 0)))) + 0))), (4, .int (iI 1)), (0, .ref (ad 7 0)), (1, .int (iI p)), (2, .int (iI m0)), (3, .int (iI q))]) hx hb dX2_meets_135 hl (by decide) rfl (fun ls hl => ?_)
              have b91 := sqa_bd (x := (mE (eff τ) p 2 0 0) - (mE (eff τ) q 2 0 0)) (B := 6000) (by omega) (by omega)
              refine lv_iload hx hb dX2_meets_137 (lv_at hl 2 rfl) ?_
              refine lv_iload hx hb dX2_meets_139 (lv_at hl 0 rfl) ?_
              refine lv_iload hx hb dX2_meets_141 (lv_at hl 0 rfl) ?_
              refine li_imul hx hb dX2_meets_143 ?_
              refine li_iadd hx hb dX2_meets_144 ?_
              refine lv_istore (lv' := [(5, .int (iI (((0 + (((mE (eff τ) p 0 0 0) - (mE (eff τ) q 0 0 0)) * ((mE (eff τ) p 0 0 0) - (mE (eff τ) q 0 0 0)))) + 0) + (((mE (eff τ) p 2 0 0) - (mE (eff τ) q 2 0 0)) * ((mE (eff τ) p 2 0 0) - (mE (eff τ) q 2 0 0)))))), (7, .int (iI ((mE (eff τ) p 2 0 0) - (mE (eff τ) q 2 0 0)))), (6, .int (iI 2)), (4, .int (iI 1)), (0, .ref (ad 7 0)), (1, .int (iI p)), (2, .int (iI m0)), (3, .int (iI q))]) hx hb dX2_meets_145 hl (by decide) rfl (fun ls hl => ?_)
              refine li_iinc (k0 := 2) (lv' := [(6, .int (iI (2 + 1))), (5, .int (iI (((0 + (((mE (eff τ) p 0 0 0) - (mE (eff τ) q 0 0 0)) * ((mE (eff τ) p 0 0 0) - (mE (eff τ) q 0 0 0)))) + 0) + (((mE (eff τ) p 2 0 0) - (mE (eff τ) q 2 0 0)) * ((mE (eff τ) p 2 0 0) - (mE (eff τ) q 2 0 0)))))), (7, .int (iI ((mE (eff τ) p 2 0 0) - (mE (eff τ) q 2 0 0)))), (4, .int (iI 1)), (0, .ref (ad 7 0)), (1, .int (iI p)), (2, .int (iI m0)), (3, .int (iI q))]) hx hb dX2_meets_147 hl rfl (by decide) rfl (fun ls hl => ?_)
              have hl : lv_has ls 8 [(6, .int (iI 3)), (5, .int (iI (((0 + (((mE (eff τ) p 0 0 0) - (mE (eff τ) q 0 0 0)) * ((mE (eff τ) p 0 0 0) - (mE (eff τ) q 0 0 0)))) + 0) + (((mE (eff τ) p 2 0 0) - (mE (eff τ) q 2 0 0)) * ((mE (eff τ) p 2 0 0) - (mE (eff τ) q 2 0 0)))))), (7, .int (iI ((mE (eff τ) p 2 0 0) - (mE (eff τ) q 2 0 0)))), (4, .int (iI 1)), (0, .ref (ad 7 0)), (1, .int (iI p)), (2, .int (iI m0)), (3, .int (iI q))] := hl
              refine lv_goto (tgt := 99) hx hb dX2_meets_150 (by decide) ?_
              refine lv_iload hx hb dX2_meets_99 (lv_at hl 0 rfl) ?_
              refine li_iconst hx hb dX2_meets_101 ?_
              refine li_icmp_ge (tgt := 153) hx hb (by unfold iR; omega) (by unfold iR; omega) dX2_meets_102 (by decide) (fun _ => ?_) (fun h => absurd (by decide) h)
              refine lv_aload_n hx hb dX2_meets_153 rfl (lv_at hl 4 rfl) ?_
              refine bg_X2_radii hx hb hts hinX2 hown hK hU (hts (.fieldLink RX2 23 "ClashBoxesModel" "radii" "[I") (by decide +kernel)) dX2_meets_154 ?_
              refine lv_iload_n hx hb dX2_meets_157 rfl (lv_at hl 5 rfl) ?_
              refine bl_12 hx hb hK hU (by omega) (by omega) dX2_meets_158 ?_
              have b92 := bB6 hBt hqp
              refine lv_iload_n hx hb dX2_meets_159 rfl (lv_at hl 6 rfl) ?_
              refine li_iadd hx hb dX2_meets_160 ?_
              refine lv_aload_n hx hb dX2_meets_161 rfl (lv_at hl 4 rfl) ?_
              refine bg_X2_radii hx hb hts hinX2 hown hK hU (hts (.fieldLink RX2 23 "ClashBoxesModel" "radii" "[I") (by decide +kernel)) dX2_meets_162 ?_
              refine lv_iload_n hx hb dX2_meets_165 rfl (lv_at hl 7 rfl) ?_
              refine bl_12 hx hb hK hU (by omega) (by omega) dX2_meets_166 ?_
              have b93 := bB6 hBt hqq
              refine li_iadd hx hb dX2_meets_167 ?_
              refine lv_istore (lv' := [(6, .int (iI (((τ 6 p 0) + m0) + (τ 6 q 0)))), (5, .int (iI (((0 + (((mE (eff τ) p 0 0 0) - (mE (eff τ) q 0 0 0)) * ((mE (eff τ) p 0 0 0) - (mE (eff τ) q 0 0 0)))) + 0) + (((mE (eff τ) p 2 0 0) - (mE (eff τ) q 2 0 0)) * ((mE (eff τ) p 2 0 0) - (mE (eff τ) q 2 0 0)))))), (7, .int (iI ((mE (eff τ) p 2 0 0) - (mE (eff τ) q 2 0 0)))), (4, .int (iI 1)), (0, .ref (ad 7 0)), (1, .int (iI p)), (2, .int (iI m0)), (3, .int (iI q))]) hx hb dX2_meets_168 hl (by decide) rfl (fun ls hl => ?_)
              have b94 := sq_bd (x := ((τ 6 p 0) + m0) + (τ 6 q 0)) (B := 450) (by omega) (by omega)
              refine lv_aload_n hx hb dX2_meets_170 rfl (lv_at hl 4 rfl) ?_
              refine lv_iload_n hx hb dX2_meets_171 rfl (lv_at hl 5 rfl) ?_
              refine lv_iload hx hb dX2_meets_172 (lv_at hl 3 rfl) ?_
              refine li_iconst hx hb dX2_meets_174 ?_
              refine lv_iload_n hx hb dX2_meets_175 rfl (lv_at hl 6 rfl) ?_
              refine bc_V (As := [.int (iI p), .int (iI 1), .int (iI 0), .int (iI m0)]) (rest := []) (kd := 7) (k := 0) (ci := 2) ⟨hx, hb, hml, hown, hts⟩ (c_X2_end l g ad σ τ w p 1 0 m0 hqp hBt hM (by omega) (by omega) (by omega)) (cwV 4 hts gX2_meets_X2_end rfl rfl rfl (by decide +kernel) ⟨Nat.le_of_ble_eq_true rfl, Nat.le_of_ble_eq_true rfl⟩) hK hU (bx_L0 (by omega)) rfl rfl rfl hl.1 rfl (Nat.le_of_ble_eq_true rfl) dX2_meets_176 ⟨Nat.zero_le _, Nat.zero_le _⟩ ?_
              have h95 := mE_bd hBt hM hqp (a := 1) (hi := 0) (gr := m0) (by omega) (by omega) (by omega)
              refine lv_aload_n hx hb dX2_meets_179 rfl (lv_at hl 4 rfl) ?_
              refine lv_iload_n hx hb dX2_meets_180 rfl (lv_at hl 5 rfl) ?_
              refine lv_iload hx hb dX2_meets_181 (lv_at hl 3 rfl) ?_
              refine li_iconst hx hb dX2_meets_183 ?_
              refine lv_iload_n hx hb dX2_meets_184 rfl (lv_at hl 6 rfl) ?_
              refine bc_V (As := [.int (iI p), .int (iI 1), .int (iI 1), .int (iI m0)]) (rest := [.int (iI (mE (eff τ) p 1 0 m0))]) (kd := 7) (k := 0) (ci := 2) ⟨hx, hb, hml, hown, hts⟩ (c_X2_end l g ad σ τ w p 1 1 m0 hqp hBt hM (by omega) (by omega) (by omega)) (cwV 4 hts gX2_meets_X2_end rfl rfl rfl (by decide +kernel) ⟨Nat.le_of_ble_eq_true rfl, Nat.le_of_ble_eq_true rfl⟩) hK hU (bx_L0 (by omega)) rfl rfl rfl hl.1 rfl (Nat.le_of_ble_eq_true rfl) dX2_meets_185 ⟨Nat.zero_le _, Nat.zero_le _⟩ ?_
              have h96 := mE_bd hBt hM hqp (a := 1) (hi := 1) (gr := m0) (by omega) (by omega) (by omega)
              refine lv_aload_n hx hb dX2_meets_188 rfl (lv_at hl 4 rfl) ?_
              refine lv_iload_n hx hb dX2_meets_189 rfl (lv_at hl 7 rfl) ?_
              refine lv_iload hx hb dX2_meets_190 (lv_at hl 3 rfl) ?_
              refine li_iconst hx hb dX2_meets_192 ?_
              refine li_iconst hx hb dX2_meets_193 ?_
              refine bc_V (As := [.int (iI q), .int (iI 1), .int (iI 0), .int (iI 0)]) (rest := [.int (iI (mE (eff τ) p 1 1 m0)), .int (iI (mE (eff τ) p 1 0 m0))]) (kd := 7) (k := 0) (ci := 2) ⟨hx, hb, hml, hown, hts⟩ (c_X2_end l g ad σ τ w q 1 0 0 hqq hBt hM (by omega) (by omega) (by omega)) (cwV 4 hts gX2_meets_X2_end rfl rfl rfl (by decide +kernel) ⟨Nat.le_of_ble_eq_true rfl, Nat.le_of_ble_eq_true rfl⟩) hK hU (bx_L0 (by omega)) rfl rfl rfl hl.1 rfl (Nat.le_of_ble_eq_true rfl) dX2_meets_194 ⟨Nat.zero_le _, Nat.zero_le _⟩ ?_
              have h97 := mE_bd hBt hM hqq (a := 1) (hi := 0) (gr := 0) (by omega) (by omega) (by omega)
              refine lv_aload_n hx hb dX2_meets_197 rfl (lv_at hl 4 rfl) ?_
              refine lv_iload_n hx hb dX2_meets_198 rfl (lv_at hl 7 rfl) ?_
              refine lv_iload hx hb dX2_meets_199 (lv_at hl 3 rfl) ?_
              refine li_iconst hx hb dX2_meets_201 ?_
              refine li_iconst hx hb dX2_meets_202 ?_
              refine bc_V (As := [.int (iI q), .int (iI 1), .int (iI 1), .int (iI 0)]) (rest := [.int (iI (mE (eff τ) q 1 0 0)), .int (iI (mE (eff τ) p 1 1 m0)), .int (iI (mE (eff τ) p 1 0 m0))]) (kd := 7) (k := 0) (ci := 2) ⟨hx, hb, hml, hown, hts⟩ (c_X2_end l g ad σ τ w q 1 1 0 hqq hBt hM (by omega) (by omega) (by omega)) (cwV 4 hts gX2_meets_X2_end rfl rfl rfl (by decide +kernel) ⟨Nat.le_of_ble_eq_true rfl, Nat.le_of_ble_eq_true rfl⟩) hK hU (bx_L0 (by omega)) rfl rfl rfl hl.1 rfl (Nat.le_of_ble_eq_true rfl) dX2_meets_203 ⟨Nat.zero_le _, Nat.zero_le _⟩ ?_
              have h98 := mE_bd hBt hM hqq (a := 1) (hi := 1) (gr := 0) (by omega) (by omega) (by omega)
              refine bc_SB (As := [.int (iI (mE (eff τ) p 1 0 m0)), .int (iI (mE (eff τ) p 1 1 m0)), .int (iI (mE (eff τ) q 1 0 0)), .int (iI (mE (eff τ) q 1 1 0))]) (rest := []) ⟨hx, hb, hml, hown, hts⟩ (c_X2_overlaps l g ad σ τ w (mE (eff τ) p 1 0 m0) (mE (eff τ) p 1 1 m0) (mE (eff τ) q 1 0 0) (mE (eff τ) q 1 1 0) (by unfold iR; omega) (by unfold iR; omega) (by unfold iR; omega) (by unfold iR; omega)) (va_cwS 4 hts gX2_meets_X2_overlaps rfl rfl rfl (by decide +kernel) ⟨Nat.le_of_ble_eq_true rfl, Nat.le_of_ble_eq_true rfl⟩) hK hU  rfl hl.1 rfl (Nat.le_of_ble_eq_true rfl) dX2_meets_206 ⟨Nat.zero_le _, Nat.zero_le _⟩ (fun h99 => ?_) (fun h99 => ?_)
              · refine li_if_eq (tgt := 226) hx hb (by unfold iR; omega) dX2_meets_209 (by decide) (fun h => absurd h (by decide)) (fun _ => ?_)
                refine lv_iload hx hb dX2_meets_212 (lv_at hl 1 rfl) ?_
                refine lv_iload hx hb dX2_meets_214 (lv_at hl 0 rfl) ?_
                refine lv_iload hx hb dX2_meets_216 (lv_at hl 0 rfl) ?_
                refine li_imul hx hb dX2_meets_218 ?_
                refine li_icmp_ge (tgt := 226) hx hb (by unfold iR; omega) (by unfold iR; omega) dX2_meets_219 (by decide) (fun h100 => ?_) (fun h100 => ?_)
                · refine li_iconst hx hb dX2_meets_226 ?_
                  refine be_f hx hb hr hlocks ?_ dX2_meets_227
                  rw [← mt_tt (wf_eff hBt hqp) (wf_eff hBt hqq) m0 (show eff τ 5 p 0 ≠ -1 by show τ 5 p 0 ≠ -1; omega) (show eff τ 5 q 0 = eff τ 5 p 0 by show τ 5 q 0 = τ 5 p 0; omega)]; (have e5 : eff τ 5 p 0 = 1 := hq70); (have e6 : eff τ 6 p 0 = τ 6 p 0 := rfl); (have e7 : eff τ 6 q 0 = τ 6 q 0 := rfl); rw [e5]; unfold ttx dsum; rw [if_neg (by decide), if_pos rfl, if_neg (by decide), e6, e7]; omega
                · refine li_iconst hx hb dX2_meets_222 ?_
                  refine lv_goto (tgt := 227) hx hb dX2_meets_223 (by decide) ?_
                  refine be_t hx hb hr hlocks ?_ dX2_meets_227
                  rw [← mt_tt (wf_eff hBt hqp) (wf_eff hBt hqq) m0 (show eff τ 5 p 0 ≠ -1 by show τ 5 p 0 ≠ -1; omega) (show eff τ 5 q 0 = eff τ 5 p 0 by show τ 5 q 0 = τ 5 p 0; omega)]; (have e5 : eff τ 5 p 0 = 1 := hq70); (have e6 : eff τ 6 p 0 = τ 6 p 0 := rfl); (have e7 : eff τ 6 q 0 = τ 6 q 0 := rfl); rw [e5]; unfold ttx dsum; rw [if_neg (by decide), if_pos rfl, if_neg (by decide), e6, e7]; omega
              · refine li_if_eq (tgt := 226) hx hb (by unfold iR; omega) dX2_meets_209 (by decide) (fun _ => ?_) (fun h => absurd (by decide) h)
                refine li_iconst hx hb dX2_meets_226 ?_
                refine be_f hx hb hr hlocks ?_ dX2_meets_227
                rw [← mt_tt (wf_eff hBt hqp) (wf_eff hBt hqq) m0 (show eff τ 5 p 0 ≠ -1 by show τ 5 p 0 ≠ -1; omega) (show eff τ 5 q 0 = eff τ 5 p 0 by show τ 5 q 0 = τ 5 p 0; omega)]; (have e5 : eff τ 5 p 0 = 1 := hq70); (have e6 : eff τ 6 p 0 = τ 6 p 0 := rfl); (have e7 : eff τ 6 q 0 = τ 6 q 0 := rfl); rw [e5]; unfold ttx dsum; rw [if_neg (by decide), if_pos rfl, if_neg (by decide), e6, e7]; omega
            · refine W.eq (g2 := F0 mI 91 ls [.int (iI 2)]) (by rw [hq70]) ?_
              refine lv_istore (lv' := [(4, .int (iI 2)), (0, .ref (ad 7 0)), (1, .int (iI p)), (2, .int (iI m0)), (3, .int (iI q))]) hx hb dX2_meets_91 hl (by decide) rfl (fun ls hl => ?_)
              refine li_iconst hx hb dX2_meets_93 ?_
              refine lv_istore (lv' := [(5, .int (iI 0)), (4, .int (iI 2)), (0, .ref (ad 7 0)), (1, .int (iI p)), (2, .int (iI m0)), (3, .int (iI q))]) hx hb dX2_meets_94 hl (by decide) rfl (fun ls hl => ?_)
              refine li_iconst hx hb dX2_meets_96 ?_
              refine lv_istore (lv' := [(6, .int (iI 0)), (5, .int (iI 0)), (4, .int (iI 2)), (0, .ref (ad 7 0)), (1, .int (iI p)), (2, .int (iI m0)), (3, .int (iI q))]) hx hb dX2_meets_97 hl (by decide) rfl (fun ls hl => ?_)
              refine lv_iload hx hb dX2_meets_99 (lv_at hl 0 rfl) ?_
              refine li_iconst hx hb dX2_meets_101 ?_
              refine li_icmp_ge (tgt := 153) hx hb (by unfold iR; omega) (by unfold iR; omega) dX2_meets_102 (by decide) (fun h => absurd h (by decide)) (fun _ => ?_)
              refine lv_iload hx hb dX2_meets_105 (lv_at hl 0 rfl) ?_
              refine lv_iload hx hb dX2_meets_107 (lv_at hl 2 rfl) ?_
              refine li_icmp_ne (tgt := 116) hx hb (by unfold iR; omega) (by unfold iR; omega) dX2_meets_109 (by decide) (fun _ => ?_) (fun h => absurd h (by decide))
              refine lv_aload_n hx hb dX2_meets_116 rfl (lv_at hl 3 rfl) ?_
              refine lv_iload_n hx hb dX2_meets_117 rfl (lv_at hl 4 rfl) ?_
              refine lv_iload hx hb dX2_meets_118 (lv_at hl 0 rfl) ?_
              refine li_iconst hx hb dX2_meets_120 ?_
              refine li_iconst hx hb dX2_meets_121 ?_
              refine bc_V (As := [.int (iI p), .int (iI 0), .int (iI 0), .int (iI 0)]) (rest := []) (kd := 7) (k := 0) (ci := 2) ⟨hx, hb, hml, hown, hts⟩ (c_X2_end l g ad σ τ w p 0 0 0 hqp hBt hM (by omega) (by omega) (by omega)) (cwV 4 hts gX2_meets_X2_end rfl rfl rfl (by decide +kernel) ⟨Nat.le_of_ble_eq_true rfl, Nat.le_of_ble_eq_true rfl⟩) hK hU (bx_L0 (by omega)) rfl rfl rfl hl.1 rfl (Nat.le_of_ble_eq_true rfl) dX2_meets_122 ⟨Nat.zero_le _, Nat.zero_le _⟩ ?_
              have h101 := mE_bd hBt hM hqp (a := 0) (hi := 0) (gr := 0) (by omega) (by omega) (by omega)
              refine lv_aload_n hx hb dX2_meets_125 rfl (lv_at hl 3 rfl) ?_
              refine lv_iload_n hx hb dX2_meets_126 rfl (lv_at hl 6 rfl) ?_
              refine lv_iload hx hb dX2_meets_127 (lv_at hl 0 rfl) ?_
              refine li_iconst hx hb dX2_meets_129 ?_
              refine li_iconst hx hb dX2_meets_130 ?_
              refine bc_V (As := [.int (iI q), .int (iI 0), .int (iI 0), .int (iI 0)]) (rest := [.int (iI (mE (eff τ) p 0 0 0))]) (kd := 7) (k := 0) (ci := 2) ⟨hx, hb, hml, hown, hts⟩ (c_X2_end l g ad σ τ w q 0 0 0 hqq hBt hM (by omega) (by omega) (by omega)) (cwV 4 hts gX2_meets_X2_end rfl rfl rfl (by decide +kernel) ⟨Nat.le_of_ble_eq_true rfl, Nat.le_of_ble_eq_true rfl⟩) hK hU (bx_L0 (by omega)) rfl rfl rfl hl.1 rfl (Nat.le_of_ble_eq_true rfl) dX2_meets_131 ⟨Nat.zero_le _, Nat.zero_le _⟩ ?_
              have h102 := mE_bd hBt hM hqq (a := 0) (hi := 0) (gr := 0) (by omega) (by omega) (by omega)
              refine li_isub hx hb dX2_meets_134 ?_
              refine lv_istore (lv' := [(7, .int (iI ((mE (eff τ) p 0 0 0) - (mE (eff τ) q 0 0 0)))), (6, .int (iI 0)), (5, .int (iI 0)), (4, .int (iI 2)), (0, .ref (ad 7 0)), (1, .int (iI p)), (2, .int (iI m0)), (3, .int (iI q))]) hx hb dX2_meets_135 hl (by decide) rfl (fun ls hl => ?_)
              have b103 := sqa_bd (x := (mE (eff τ) p 0 0 0) - (mE (eff τ) q 0 0 0)) (B := 6000) (by omega) (by omega)
              refine lv_iload hx hb dX2_meets_137 (lv_at hl 2 rfl) ?_
              refine lv_iload hx hb dX2_meets_139 (lv_at hl 0 rfl) ?_
              refine lv_iload hx hb dX2_meets_141 (lv_at hl 0 rfl) ?_
              refine li_imul hx hb dX2_meets_143 ?_
              refine li_iadd hx hb dX2_meets_144 ?_
              refine lv_istore (lv' := [(5, .int (iI (0 + (((mE (eff τ) p 0 0 0) - (mE (eff τ) q 0 0 0)) * ((mE (eff τ) p 0 0 0) - (mE (eff τ) q 0 0 0)))))), (7, .int (iI ((mE (eff τ) p 0 0 0) - (mE (eff τ) q 0 0 0)))), (6, .int (iI 0)), (4, .int (iI 2)), (0, .ref (ad 7 0)), (1, .int (iI p)), (2, .int (iI m0)), (3, .int (iI q))]) hx hb dX2_meets_145 hl (by decide) rfl (fun ls hl => ?_)
              refine li_iinc (k0 := 2) (lv' := [(6, .int (iI (0 + 1))), (5, .int (iI (0 + (((mE (eff τ) p 0 0 0) - (mE (eff τ) q 0 0 0)) * ((mE (eff τ) p 0 0 0) - (mE (eff τ) q 0 0 0)))))), (7, .int (iI ((mE (eff τ) p 0 0 0) - (mE (eff τ) q 0 0 0)))), (4, .int (iI 2)), (0, .ref (ad 7 0)), (1, .int (iI p)), (2, .int (iI m0)), (3, .int (iI q))]) hx hb dX2_meets_147 hl rfl (by decide) rfl (fun ls hl => ?_)
              have hl : lv_has ls 8 [(6, .int (iI 1)), (5, .int (iI (0 + (((mE (eff τ) p 0 0 0) - (mE (eff τ) q 0 0 0)) * ((mE (eff τ) p 0 0 0) - (mE (eff τ) q 0 0 0)))))), (7, .int (iI ((mE (eff τ) p 0 0 0) - (mE (eff τ) q 0 0 0)))), (4, .int (iI 2)), (0, .ref (ad 7 0)), (1, .int (iI p)), (2, .int (iI m0)), (3, .int (iI q))] := hl
              refine lv_goto (tgt := 99) hx hb dX2_meets_150 (by decide) ?_
              refine lv_iload hx hb dX2_meets_99 (lv_at hl 0 rfl) ?_
              refine li_iconst hx hb dX2_meets_101 ?_
              refine li_icmp_ge (tgt := 153) hx hb (by unfold iR; omega) (by unfold iR; omega) dX2_meets_102 (by decide) (fun h => absurd h (by decide)) (fun _ => ?_)
              refine lv_iload hx hb dX2_meets_105 (lv_at hl 0 rfl) ?_
              refine lv_iload hx hb dX2_meets_107 (lv_at hl 3 rfl) ?_
              refine li_icmp_ne (tgt := 116) hx hb (by unfold iR; omega) (by unfold iR; omega) dX2_meets_109 (by decide) (fun _ => ?_) (fun h => absurd h (by decide))
              refine lv_aload_n hx hb dX2_meets_116 rfl (lv_at hl 4 rfl) ?_
              refine lv_iload_n hx hb dX2_meets_117 rfl (lv_at hl 5 rfl) ?_
              refine lv_iload hx hb dX2_meets_118 (lv_at hl 0 rfl) ?_
              refine li_iconst hx hb dX2_meets_120 ?_
              refine li_iconst hx hb dX2_meets_121 ?_
              refine bc_V (As := [.int (iI p), .int (iI 1), .int (iI 0), .int (iI 0)]) (rest := []) (kd := 7) (k := 0) (ci := 2) ⟨hx, hb, hml, hown, hts⟩ (c_X2_end l g ad σ τ w p 1 0 0 hqp hBt hM (by omega) (by omega) (by omega)) (cwV 4 hts gX2_meets_X2_end rfl rfl rfl (by decide +kernel) ⟨Nat.le_of_ble_eq_true rfl, Nat.le_of_ble_eq_true rfl⟩) hK hU (bx_L0 (by omega)) rfl rfl rfl hl.1 rfl (Nat.le_of_ble_eq_true rfl) dX2_meets_122 ⟨Nat.zero_le _, Nat.zero_le _⟩ ?_
              have h104 := mE_bd hBt hM hqp (a := 1) (hi := 0) (gr := 0) (by omega) (by omega) (by omega)
              refine lv_aload_n hx hb dX2_meets_125 rfl (lv_at hl 4 rfl) ?_
              refine lv_iload_n hx hb dX2_meets_126 rfl (lv_at hl 7 rfl) ?_
              refine lv_iload hx hb dX2_meets_127 (lv_at hl 0 rfl) ?_
              refine li_iconst hx hb dX2_meets_129 ?_
              refine li_iconst hx hb dX2_meets_130 ?_
              refine bc_V (As := [.int (iI q), .int (iI 1), .int (iI 0), .int (iI 0)]) (rest := [.int (iI (mE (eff τ) p 1 0 0))]) (kd := 7) (k := 0) (ci := 2) ⟨hx, hb, hml, hown, hts⟩ (c_X2_end l g ad σ τ w q 1 0 0 hqq hBt hM (by omega) (by omega) (by omega)) (cwV 4 hts gX2_meets_X2_end rfl rfl rfl (by decide +kernel) ⟨Nat.le_of_ble_eq_true rfl, Nat.le_of_ble_eq_true rfl⟩) hK hU (bx_L0 (by omega)) rfl rfl rfl hl.1 rfl (Nat.le_of_ble_eq_true rfl) dX2_meets_131 ⟨Nat.zero_le _, Nat.zero_le _⟩ ?_
              have h105 := mE_bd hBt hM hqq (a := 1) (hi := 0) (gr := 0) (by omega) (by omega) (by omega)
              refine li_isub hx hb dX2_meets_134 ?_
              refine lv_istore (lv' := [(7, .int (iI ((mE (eff τ) p 1 0 0) - (mE (eff τ) q 1 0 0)))), (6, .int (iI 1)), (5, .int (iI (0 + (((mE (eff τ) p 0 0 0) - (mE (eff τ) q 0 0 0)) * ((mE (eff τ) p 0 0 0) - (mE (eff τ) q 0 0 0)))))), (4, .int (iI 2)), (0, .ref (ad 7 0)), (1, .int (iI p)), (2, .int (iI m0)), (3, .int (iI q))]) hx hb dX2_meets_135 hl (by decide) rfl (fun ls hl => ?_)
              have b106 := sqa_bd (x := (mE (eff τ) p 1 0 0) - (mE (eff τ) q 1 0 0)) (B := 6000) (by omega) (by omega)
              refine lv_iload hx hb dX2_meets_137 (lv_at hl 2 rfl) ?_
              refine lv_iload hx hb dX2_meets_139 (lv_at hl 0 rfl) ?_
              refine lv_iload hx hb dX2_meets_141 (lv_at hl 0 rfl) ?_
              refine li_imul hx hb dX2_meets_143 ?_
              refine li_iadd hx hb dX2_meets_144 ?_
              refine lv_istore (lv' := [(5, .int (iI ((0 + (((mE (eff τ) p 0 0 0) - (mE (eff τ) q 0 0 0)) * ((mE (eff τ) p 0 0 0) - (mE (eff τ) q 0 0 0)))) + (((mE (eff τ) p 1 0 0) - (mE (eff τ) q 1 0 0)) * ((mE (eff τ) p 1 0 0) - (mE (eff τ) q 1 0 0)))))), (7, .int (iI ((mE (eff τ) p 1 0 0) - (mE (eff τ) q 1 0 0)))), (6, .int (iI 1)), (4, .int (iI 2)), (0, .ref (ad 7 0)), (1, .int (iI p)), (2, .int (iI m0)), (3, .int (iI q))]) hx hb dX2_meets_145 hl (by decide) rfl (fun ls hl => ?_)
              refine li_iinc (k0 := 2) (lv' := [(6, .int (iI (1 + 1))), (5, .int (iI ((0 + (((mE (eff τ) p 0 0 0) - (mE (eff τ) q 0 0 0)) * ((mE (eff τ) p 0 0 0) - (mE (eff τ) q 0 0 0)))) + (((mE (eff τ) p 1 0 0) - (mE (eff τ) q 1 0 0)) * ((mE (eff τ) p 1 0 0) - (mE (eff τ) q 1 0 0)))))), (7, .int (iI ((mE (eff τ) p 1 0 0) - (mE (eff τ) q 1 0 0)))), (4, .int (iI 2)), (0, .ref (ad 7 0)), (1, .int (iI p)), (2, .int (iI m0)), (3, .int (iI q))]) hx hb dX2_meets_147 hl rfl (by decide) rfl (fun ls hl => ?_)
              have hl : lv_has ls 8 [(6, .int (iI 2)), (5, .int (iI ((0 + (((mE (eff τ) p 0 0 0) - (mE (eff τ) q 0 0 0)) * ((mE (eff τ) p 0 0 0) - (mE (eff τ) q 0 0 0)))) + (((mE (eff τ) p 1 0 0) - (mE (eff τ) q 1 0 0)) * ((mE (eff τ) p 1 0 0) - (mE (eff τ) q 1 0 0)))))), (7, .int (iI ((mE (eff τ) p 1 0 0) - (mE (eff τ) q 1 0 0)))), (4, .int (iI 2)), (0, .ref (ad 7 0)), (1, .int (iI p)), (2, .int (iI m0)), (3, .int (iI q))] := hl
              refine lv_goto (tgt := 99) hx hb dX2_meets_150 (by decide) ?_
              refine lv_iload hx hb dX2_meets_99 (lv_at hl 0 rfl) ?_
              refine li_iconst hx hb dX2_meets_101 ?_
              refine li_icmp_ge (tgt := 153) hx hb (by unfold iR; omega) (by unfold iR; omega) dX2_meets_102 (by decide) (fun h => absurd h (by decide)) (fun _ => ?_)
              refine lv_iload hx hb dX2_meets_105 (lv_at hl 0 rfl) ?_
              refine lv_iload hx hb dX2_meets_107 (lv_at hl 3 rfl) ?_
              refine li_icmp_ne (tgt := 116) hx hb (by unfold iR; omega) (by unfold iR; omega) dX2_meets_109 (by decide) (fun h => absurd (by decide) h) (fun _ => ?_)
              refine li_iconst hx hb dX2_meets_112 ?_
              refine lv_goto (tgt := 135) hx hb dX2_meets_113 (by decide) ?_
              refine lv_istore (lv' := [(7, .int (iI 0)), (6, .int (iI 2)), (5, .int (iI ((0 + (((mE (eff τ) p 0 0 0) - (mE (eff τ) q 0 0 0)) * ((mE (eff τ) p 0 0 0) - (mE (eff τ) q 0 0 0)))) + (((mE (eff τ) p 1 0 0) - (mE (eff τ) q 1 0 0)) * ((mE (eff τ) p 1 0 0) - (mE (eff τ) q 1 0 0)))))), (4, .int (iI 2)), (0, .ref (ad 7 0)), (1, .int (iI p)), (2, .int (iI m0)), (3, .int (iI q))]) hx hb dX2_meets_135 hl (by decide) rfl (fun ls hl => ?_)
              refine lv_iload hx hb dX2_meets_137 (lv_at hl 2 rfl) ?_
              refine lv_iload hx hb dX2_meets_139 (lv_at hl 0 rfl) ?_
              refine lv_iload hx hb dX2_meets_141 (lv_at hl 0 rfl) ?_
              refine li_imul hx hb dX2_meets_143 ?_
              refine W.eq (g2 := F0 mI 144 ls [.int (iI 0), .int (iI ((0 + (((mE (eff τ) p 0 0 0) - (mE (eff τ) q 0 0 0)) * ((mE (eff τ) p 0 0 0) - (mE (eff τ) q 0 0 0)))) + (((mE (eff τ) p 1 0 0) - (mE (eff τ) q 1 0 0)) * ((mE (eff τ) p 1 0 0) - (mE (eff τ) q 1 0 0)))))]) rfl ?_
              refine li_iadd hx hb dX2_meets_144 ?_
              refine lv_istore (lv' := [(5, .int (iI (((0 + (((mE (eff τ) p 0 0 0) - (mE (eff τ) q 0 0 0)) * ((mE (eff τ) p 0 0 0) - (mE (eff τ) q 0 0 0)))) + (((mE (eff τ) p 1 0 0) - (mE (eff τ) q 1 0 0)) * ((mE (eff τ) p 1 0 0) - (mE (eff τ) q 1 0 0)))) + 0))), (7, .int (iI 0)), (6, .int (iI 2)), (4, .int (iI 2)), (0, .ref (ad 7 0)), (1, .int (iI p)), (2, .int (iI m0)), (3, .int (iI q))]) hx hb dX2_meets_145 hl (by decide) rfl (fun ls hl => ?_)
              refine li_iinc (k0 := 2) (lv' := [(6, .int (iI (2 + 1))), (5, .int (iI (((0 + (((mE (eff τ) p 0 0 0) - (mE (eff τ) q 0 0 0)) * ((mE (eff τ) p 0 0 0) - (mE (eff τ) q 0 0 0)))) + (((mE (eff τ) p 1 0 0) - (mE (eff τ) q 1 0 0)) * ((mE (eff τ) p 1 0 0) - (mE (eff τ) q 1 0 0)))) + 0))), (7, .int (iI 0)), (4, .int (iI 2)), (0, .ref (ad 7 0)), (1, .int (iI p)), (2, .int (iI m0)), (3, .int (iI q))]) hx hb dX2_meets_147 hl rfl (by decide) rfl (fun ls hl => ?_)
              have hl : lv_has ls 8 [(6, .int (iI 3)), (5, .int (iI (((0 + (((mE (eff τ) p 0 0 0) - (mE (eff τ) q 0 0 0)) * ((mE (eff τ) p 0 0 0) - (mE (eff τ) q 0 0 0)))) + (((mE (eff τ) p 1 0 0) - (mE (eff τ) q 1 0 0)) * ((mE (eff τ) p 1 0 0) - (mE (eff τ) q 1 0 0)))) + 0))), (7, .int (iI 0)), (4, .int (iI 2)), (0, .ref (ad 7 0)), (1, .int (iI p)), (2, .int (iI m0)), (3, .int (iI q))] := hl
              refine lv_goto (tgt := 99) hx hb dX2_meets_150 (by decide) ?_
              refine lv_iload hx hb dX2_meets_99 (lv_at hl 0 rfl) ?_
              refine li_iconst hx hb dX2_meets_101 ?_
              refine li_icmp_ge (tgt := 153) hx hb (by unfold iR; omega) (by unfold iR; omega) dX2_meets_102 (by decide) (fun _ => ?_) (fun h => absurd (by decide) h)
              refine lv_aload_n hx hb dX2_meets_153 rfl (lv_at hl 4 rfl) ?_
              refine bg_X2_radii hx hb hts hinX2 hown hK hU (hts (.fieldLink RX2 23 "ClashBoxesModel" "radii" "[I") (by decide +kernel)) dX2_meets_154 ?_
              refine lv_iload_n hx hb dX2_meets_157 rfl (lv_at hl 5 rfl) ?_
              refine bl_12 hx hb hK hU (by omega) (by omega) dX2_meets_158 ?_
              have b107 := bB6 hBt hqp
              refine lv_iload_n hx hb dX2_meets_159 rfl (lv_at hl 6 rfl) ?_
              refine li_iadd hx hb dX2_meets_160 ?_
              refine lv_aload_n hx hb dX2_meets_161 rfl (lv_at hl 4 rfl) ?_
              refine bg_X2_radii hx hb hts hinX2 hown hK hU (hts (.fieldLink RX2 23 "ClashBoxesModel" "radii" "[I") (by decide +kernel)) dX2_meets_162 ?_
              refine lv_iload_n hx hb dX2_meets_165 rfl (lv_at hl 7 rfl) ?_
              refine bl_12 hx hb hK hU (by omega) (by omega) dX2_meets_166 ?_
              have b108 := bB6 hBt hqq
              refine li_iadd hx hb dX2_meets_167 ?_
              refine lv_istore (lv' := [(6, .int (iI (((τ 6 p 0) + m0) + (τ 6 q 0)))), (5, .int (iI (((0 + (((mE (eff τ) p 0 0 0) - (mE (eff τ) q 0 0 0)) * ((mE (eff τ) p 0 0 0) - (mE (eff τ) q 0 0 0)))) + (((mE (eff τ) p 1 0 0) - (mE (eff τ) q 1 0 0)) * ((mE (eff τ) p 1 0 0) - (mE (eff τ) q 1 0 0)))) + 0))), (7, .int (iI 0)), (4, .int (iI 2)), (0, .ref (ad 7 0)), (1, .int (iI p)), (2, .int (iI m0)), (3, .int (iI q))]) hx hb dX2_meets_168 hl (by decide) rfl (fun ls hl => ?_)
              have b109 := sq_bd (x := ((τ 6 p 0) + m0) + (τ 6 q 0)) (B := 450) (by omega) (by omega)
              refine lv_aload_n hx hb dX2_meets_170 rfl (lv_at hl 4 rfl) ?_
              refine lv_iload_n hx hb dX2_meets_171 rfl (lv_at hl 5 rfl) ?_
              refine lv_iload hx hb dX2_meets_172 (lv_at hl 3 rfl) ?_
              refine li_iconst hx hb dX2_meets_174 ?_
              refine lv_iload_n hx hb dX2_meets_175 rfl (lv_at hl 6 rfl) ?_
              refine bc_V (As := [.int (iI p), .int (iI 2), .int (iI 0), .int (iI m0)]) (rest := []) (kd := 7) (k := 0) (ci := 2) ⟨hx, hb, hml, hown, hts⟩ (c_X2_end l g ad σ τ w p 2 0 m0 hqp hBt hM (by omega) (by omega) (by omega)) (cwV 4 hts gX2_meets_X2_end rfl rfl rfl (by decide +kernel) ⟨Nat.le_of_ble_eq_true rfl, Nat.le_of_ble_eq_true rfl⟩) hK hU (bx_L0 (by omega)) rfl rfl rfl hl.1 rfl (Nat.le_of_ble_eq_true rfl) dX2_meets_176 ⟨Nat.zero_le _, Nat.zero_le _⟩ ?_
              have h110 := mE_bd hBt hM hqp (a := 2) (hi := 0) (gr := m0) (by omega) (by omega) (by omega)
              refine lv_aload_n hx hb dX2_meets_179 rfl (lv_at hl 4 rfl) ?_
              refine lv_iload_n hx hb dX2_meets_180 rfl (lv_at hl 5 rfl) ?_
              refine lv_iload hx hb dX2_meets_181 (lv_at hl 3 rfl) ?_
              refine li_iconst hx hb dX2_meets_183 ?_
              refine lv_iload_n hx hb dX2_meets_184 rfl (lv_at hl 6 rfl) ?_
              refine bc_V (As := [.int (iI p), .int (iI 2), .int (iI 1), .int (iI m0)]) (rest := [.int (iI (mE (eff τ) p 2 0 m0))]) (kd := 7) (k := 0) (ci := 2) ⟨hx, hb, hml, hown, hts⟩ (c_X2_end l g ad σ τ w p 2 1 m0 hqp hBt hM (by omega) (by omega) (by omega)) (cwV 4 hts gX2_meets_X2_end rfl rfl rfl (by decide +kernel) ⟨Nat.le_of_ble_eq_true rfl, Nat.le_of_ble_eq_true rfl⟩) hK hU (bx_L0 (by omega)) rfl rfl rfl hl.1 rfl (Nat.le_of_ble_eq_true rfl) dX2_meets_185 ⟨Nat.zero_le _, Nat.zero_le _⟩ ?_
              have h111 := mE_bd hBt hM hqp (a := 2) (hi := 1) (gr := m0) (by omega) (by omega) (by omega)
              refine lv_aload_n hx hb dX2_meets_188 rfl (lv_at hl 4 rfl) ?_
              refine lv_iload_n hx hb dX2_meets_189 rfl (lv_at hl 7 rfl) ?_
              refine lv_iload hx hb dX2_meets_190 (lv_at hl 3 rfl) ?_
              refine li_iconst hx hb dX2_meets_192 ?_
              refine li_iconst hx hb dX2_meets_193 ?_
              refine bc_V (As := [.int (iI q), .int (iI 2), .int (iI 0), .int (iI 0)]) (rest := [.int (iI (mE (eff τ) p 2 1 m0)), .int (iI (mE (eff τ) p 2 0 m0))]) (kd := 7) (k := 0) (ci := 2) ⟨hx, hb, hml, hown, hts⟩ (c_X2_end l g ad σ τ w q 2 0 0 hqq hBt hM (by omega) (by omega) (by omega)) (cwV 4 hts gX2_meets_X2_end rfl rfl rfl (by decide +kernel) ⟨Nat.le_of_ble_eq_true rfl, Nat.le_of_ble_eq_true rfl⟩) hK hU (bx_L0 (by omega)) rfl rfl rfl hl.1 rfl (Nat.le_of_ble_eq_true rfl) dX2_meets_194 ⟨Nat.zero_le _, Nat.zero_le _⟩ ?_
              have h112 := mE_bd hBt hM hqq (a := 2) (hi := 0) (gr := 0) (by omega) (by omega) (by omega)
              refine lv_aload_n hx hb dX2_meets_197 rfl (lv_at hl 4 rfl) ?_
              refine lv_iload_n hx hb dX2_meets_198 rfl (lv_at hl 7 rfl) ?_
              refine lv_iload hx hb dX2_meets_199 (lv_at hl 3 rfl) ?_
              refine li_iconst hx hb dX2_meets_201 ?_
              refine li_iconst hx hb dX2_meets_202 ?_
              refine bc_V (As := [.int (iI q), .int (iI 2), .int (iI 1), .int (iI 0)]) (rest := [.int (iI (mE (eff τ) q 2 0 0)), .int (iI (mE (eff τ) p 2 1 m0)), .int (iI (mE (eff τ) p 2 0 m0))]) (kd := 7) (k := 0) (ci := 2) ⟨hx, hb, hml, hown, hts⟩ (c_X2_end l g ad σ τ w q 2 1 0 hqq hBt hM (by omega) (by omega) (by omega)) (cwV 4 hts gX2_meets_X2_end rfl rfl rfl (by decide +kernel) ⟨Nat.le_of_ble_eq_true rfl, Nat.le_of_ble_eq_true rfl⟩) hK hU (bx_L0 (by omega)) rfl rfl rfl hl.1 rfl (Nat.le_of_ble_eq_true rfl) dX2_meets_203 ⟨Nat.zero_le _, Nat.zero_le _⟩ ?_
              have h113 := mE_bd hBt hM hqq (a := 2) (hi := 1) (gr := 0) (by omega) (by omega) (by omega)
              refine bc_SB (As := [.int (iI (mE (eff τ) p 2 0 m0)), .int (iI (mE (eff τ) p 2 1 m0)), .int (iI (mE (eff τ) q 2 0 0)), .int (iI (mE (eff τ) q 2 1 0))]) (rest := []) ⟨hx, hb, hml, hown, hts⟩ (c_X2_overlaps l g ad σ τ w (mE (eff τ) p 2 0 m0) (mE (eff τ) p 2 1 m0) (mE (eff τ) q 2 0 0) (mE (eff τ) q 2 1 0) (by unfold iR; omega) (by unfold iR; omega) (by unfold iR; omega) (by unfold iR; omega)) (va_cwS 4 hts gX2_meets_X2_overlaps rfl rfl rfl (by decide +kernel) ⟨Nat.le_of_ble_eq_true rfl, Nat.le_of_ble_eq_true rfl⟩) hK hU  rfl hl.1 rfl (Nat.le_of_ble_eq_true rfl) dX2_meets_206 ⟨Nat.zero_le _, Nat.zero_le _⟩ (fun h114 => ?_) (fun h114 => ?_)
              · refine li_if_eq (tgt := 226) hx hb (by unfold iR; omega) dX2_meets_209 (by decide) (fun h => absurd h (by decide)) (fun _ => ?_)
                refine lv_iload hx hb dX2_meets_212 (lv_at hl 1 rfl) ?_
                refine lv_iload hx hb dX2_meets_214 (lv_at hl 0 rfl) ?_
                refine lv_iload hx hb dX2_meets_216 (lv_at hl 0 rfl) ?_
                refine li_imul hx hb dX2_meets_218 ?_
                refine li_icmp_ge (tgt := 226) hx hb (by unfold iR; omega) (by unfold iR; omega) dX2_meets_219 (by decide) (fun h115 => ?_) (fun h115 => ?_)
                · refine li_iconst hx hb dX2_meets_226 ?_
                  refine be_f hx hb hr hlocks ?_ dX2_meets_227
                  rw [← mt_tt (wf_eff hBt hqp) (wf_eff hBt hqq) m0 (show eff τ 5 p 0 ≠ -1 by show τ 5 p 0 ≠ -1; omega) (show eff τ 5 q 0 = eff τ 5 p 0 by show τ 5 q 0 = τ 5 p 0; omega)]; (have e5 : eff τ 5 p 0 = 2 := hq70); (have e6 : eff τ 6 p 0 = τ 6 p 0 := rfl); (have e7 : eff τ 6 q 0 = τ 6 q 0 := rfl); rw [e5]; unfold ttx dsum; rw [if_neg (by decide), if_neg (by decide), if_pos rfl, e6, e7]; omega
                · refine li_iconst hx hb dX2_meets_222 ?_
                  refine lv_goto (tgt := 227) hx hb dX2_meets_223 (by decide) ?_
                  refine be_t hx hb hr hlocks ?_ dX2_meets_227
                  rw [← mt_tt (wf_eff hBt hqp) (wf_eff hBt hqq) m0 (show eff τ 5 p 0 ≠ -1 by show τ 5 p 0 ≠ -1; omega) (show eff τ 5 q 0 = eff τ 5 p 0 by show τ 5 q 0 = τ 5 p 0; omega)]; (have e5 : eff τ 5 p 0 = 2 := hq70); (have e6 : eff τ 6 p 0 = τ 6 p 0 := rfl); (have e7 : eff τ 6 q 0 = τ 6 q 0 := rfl); rw [e5]; unfold ttx dsum; rw [if_neg (by decide), if_neg (by decide), if_pos rfl, e6, e7]; omega
              · refine li_if_eq (tgt := 226) hx hb (by unfold iR; omega) dX2_meets_209 (by decide) (fun _ => ?_) (fun h => absurd (by decide) h)
                refine li_iconst hx hb dX2_meets_226 ?_
                refine be_f hx hb hr hlocks ?_ dX2_meets_227
                rw [← mt_tt (wf_eff hBt hqp) (wf_eff hBt hqq) m0 (show eff τ 5 p 0 ≠ -1 by show τ 5 p 0 ≠ -1; omega) (show eff τ 5 q 0 = eff τ 5 p 0 by show τ 5 q 0 = τ 5 p 0; omega)]; (have e5 : eff τ 5 p 0 = 2 := hq70); (have e6 : eff τ 6 p 0 = τ 6 p 0 := rfl); (have e7 : eff τ 6 q 0 = τ 6 q 0 := rfl); rw [e5]; unfold ttx dsum; rw [if_neg (by decide), if_neg (by decide), if_pos rfl, e6, e7]; omega
          · refine lv_aload_n hx hb dX2_meets_77 rfl (lv_at hl 0 rfl) ?_
            refine lv_iload_n hx hb dX2_meets_78 rfl (lv_at hl 1 rfl) ?_
            refine lv_iload_n hx hb dX2_meets_79 rfl (lv_at hl 2 rfl) ?_
            refine lv_iload_n hx hb dX2_meets_80 rfl (lv_at hl 3 rfl) ?_
            refine bc_VB (As := [.int (iI p), .int (iI m0), .int (iI q)]) (rest := []) (kd := 7) (k := 0) (ci := 2) ⟨hx, hb, hml, hown, hts⟩ (c_X2_hullsMeet l g ad σ τ w p m0 q hqp hqq hBt hM (by omega)) (cwV 3 hts gX2_meets_X2_hullsMeet rfl rfl rfl (by decide +kernel) ⟨Nat.le_of_ble_eq_true rfl, Nat.le_of_ble_eq_true rfl⟩) hK hU (bx_L0 (by omega)) rfl rfl rfl hl.1 rfl (Nat.le_of_ble_eq_true rfl) dX2_meets_81 ⟨Nat.zero_le _, Nat.zero_le _⟩ (fun h116 => ?_) (fun h116 => ?_)
            · refine be_t hx hb hr hlocks ?_ dX2_meets_84
              exact (mt_bb (wf_eff hBt hqp) (wf_eff hBt hqq) m0 (Or.inr ⟨show eff τ 5 p 0 ≠ -1 by show τ 5 p 0 ≠ -1; omega, show eff τ 5 q 0 ≠ -1 by show τ 5 q 0 ≠ -1; omega, show eff τ 5 p 0 ≠ eff τ 5 q 0 by show τ 5 p 0 ≠ τ 5 q 0; omega⟩)).mp h116
            · refine be_f hx hb hr hlocks ?_ dX2_meets_84
              exact fun q9 => h116 ((mt_bb (wf_eff hBt hqp) (wf_eff hBt hqq) m0 (Or.inr ⟨show eff τ 5 p 0 ≠ -1 by show τ 5 p 0 ≠ -1; omega, show eff τ 5 q 0 ≠ -1 by show τ 5 q 0 ≠ -1; omega, show eff τ 5 p 0 ≠ eff τ 5 q 0 by show τ 5 p 0 ≠ τ 5 q 0; omega⟩)).mpr q9)
        · refine lv_aload_n hx hb dX2_meets_53 rfl (lv_at hl 0 rfl) ?_
          refine lv_iload_n hx hb dX2_meets_54 rfl (lv_at hl 3 rfl) ?_
          refine li_iconst hx hb dX2_meets_55 ?_
          refine lv_iload_n hx hb dX2_meets_56 rfl (lv_at hl 1 rfl) ?_
          refine lv_iload_n hx hb dX2_meets_57 rfl (lv_at hl 2 rfl) ?_
          refine bc_VB (As := [.int (iI q), .int (iI 0), .int (iI p), .int (iI m0)]) (rest := []) (kd := 7) (k := 0) (ci := 2) ⟨hx, hb, hml, hown, hts⟩ (c_X2_tubeAndBox l g ad σ τ w q 0 p m0 hqq hqp hBt hM (by omega) (by omega) (by omega)) (cwV 4 hts gX2_meets_X2_tubeAndBox rfl rfl rfl (by decide +kernel) ⟨Nat.le_of_ble_eq_true rfl, Nat.le_of_ble_eq_true rfl⟩) hK hU (bx_L0 (by omega)) rfl rfl rfl hl.1 rfl (Nat.le_of_ble_eq_true rfl) dX2_meets_58 ⟨Nat.zero_le _, Nat.zero_le _⟩ (fun h117 => ?_) (fun h117 => ?_)
          · refine be_t hx hb hr hlocks ?_ dX2_meets_61
            exact (mt_bt (wf_eff hBt hqp) (wf_eff hBt hqq) (m := m0) (by omega) (show eff τ 5 p 0 = -1 by show τ 5 p 0 = -1; omega) (show eff τ 5 q 0 ≠ -1 by show τ 5 q 0 ≠ -1; omega)).mp h117
          · refine be_f hx hb hr hlocks ?_ dX2_meets_61
            exact fun q9 => h117 ((mt_bt (wf_eff hBt hqp) (wf_eff hBt hqq) (m := m0) (by omega) (show eff τ 5 p 0 = -1 by show τ 5 p 0 = -1; omega) (show eff τ 5 q 0 ≠ -1 by show τ 5 q 0 ≠ -1; omega)).mpr q9)
      · refine lv_aload_n hx hb dX2_meets_35 rfl (lv_at hl 0 rfl) ?_
        refine lv_iload_n hx hb dX2_meets_36 rfl (lv_at hl 1 rfl) ?_
        refine lv_iload_n hx hb dX2_meets_37 rfl (lv_at hl 2 rfl) ?_
        refine lv_iload_n hx hb dX2_meets_38 rfl (lv_at hl 3 rfl) ?_
        refine li_iconst hx hb dX2_meets_39 ?_
        refine bc_VB (As := [.int (iI p), .int (iI m0), .int (iI q), .int (iI 0)]) (rest := []) (kd := 7) (k := 0) (ci := 2) ⟨hx, hb, hml, hown, hts⟩ (c_X2_tubeAndBox l g ad σ τ w p m0 q 0 hqp hqq hBt hM (by omega) (by omega) (by omega)) (cwV 4 hts gX2_meets_X2_tubeAndBox rfl rfl rfl (by decide +kernel) ⟨Nat.le_of_ble_eq_true rfl, Nat.le_of_ble_eq_true rfl⟩) hK hU (bx_L0 (by omega)) rfl rfl rfl hl.1 rfl (Nat.le_of_ble_eq_true rfl) dX2_meets_40 ⟨Nat.zero_le _, Nat.zero_le _⟩ (fun h118 => ?_) (fun h118 => ?_)
        · refine be_t hx hb hr hlocks ?_ dX2_meets_43
          exact (mt_tb (wf_eff hBt hqp) (wf_eff hBt hqq) m0 (show eff τ 5 p 0 ≠ -1 by show τ 5 p 0 ≠ -1; omega) (show eff τ 5 q 0 = -1 by show τ 5 q 0 = -1; omega)).mp h118
        · refine be_f hx hb hr hlocks ?_ dX2_meets_43
          exact fun q9 => h118 ((mt_tb (wf_eff hBt hqp) (wf_eff hBt hqq) m0 (show eff τ 5 p 0 ≠ -1 by show τ 5 p 0 ≠ -1; omega) (show eff τ 5 q 0 = -1 by show τ 5 q 0 = -1; omega)).mpr q9)
    · refine lv_aload_n hx hb dX2_meets_18 rfl (lv_at hl 0 rfl) ?_
      refine lv_iload_n hx hb dX2_meets_19 rfl (lv_at hl 1 rfl) ?_
      refine lv_iload_n hx hb dX2_meets_20 rfl (lv_at hl 2 rfl) ?_
      refine lv_iload_n hx hb dX2_meets_21 rfl (lv_at hl 3 rfl) ?_
      refine bc_VB (As := [.int (iI p), .int (iI m0), .int (iI q)]) (rest := []) (kd := 7) (k := 0) (ci := 2) ⟨hx, hb, hml, hown, hts⟩ (c_X2_hullsMeet l g ad σ τ w p m0 q hqp hqq hBt hM (by omega)) (cwV 3 hts gX2_meets_X2_hullsMeet rfl rfl rfl (by decide +kernel) ⟨Nat.le_of_ble_eq_true rfl, Nat.le_of_ble_eq_true rfl⟩) hK hU (bx_L0 (by omega)) rfl rfl rfl hl.1 rfl (Nat.le_of_ble_eq_true rfl) dX2_meets_22 ⟨Nat.zero_le _, Nat.zero_le _⟩ (fun h119 => ?_) (fun h119 => ?_)
      · refine be_t hx hb hr hlocks ?_ dX2_meets_25
        exact (mt_bb (wf_eff hBt hqp) (wf_eff hBt hqq) m0 (Or.inl ⟨show eff τ 5 p 0 = -1 by show τ 5 p 0 = -1; omega, show eff τ 5 q 0 = -1 by show τ 5 q 0 = -1; omega⟩)).mp h119
      · refine be_f hx hb hr hlocks ?_ dX2_meets_25
        exact fun q9 => h119 ((mt_bb (wf_eff hBt hqp) (wf_eff hBt hqq) m0 (Or.inl ⟨show eff τ 5 p 0 = -1 by show τ 5 p 0 = -1; omega, show eff τ 5 q 0 = -1 by show τ 5 q 0 = -1; omega⟩)).mpr q9)

set_option maxHeartbeats 4000000 in
set_option maxRecDepth 100000 in
theorem c_X2_stateOf (l : Launch) (g : bxG) (ad : bxA) (σ τ : bxS) (w : bxW) (p q : Int) (hqp : 0 ≤ p ∧ p < 60 ∧ τ 2 p 0 ≠ 0) (hqq : 0 ≤ q ∧ q < 60 ∧ τ 2 q 0 ≠ 0) (hBt : bx_B τ) (hM : bx_M τ) : Met l yX2_stateOf wsX2_stateOf ({ frames := 4, cells := 0, slots := 0, locals := 105 }) (va_Pc [.ref (ad 7 0), .int (iI p), .int (iI q)] (fun U => bx_I g ad σ τ w U)) (k2_QcV (.int (iI (stO (eff τ) p q)))) 0 0 (fun _ => False) := by
  refine Met.ofW (cc := cX2_stateOf) (maxL := 3) (ret := (some .int)) (by decide) rfl ?_
  intro Pg Ev s mI args below meth cd s₁ B hml hv
  obtain ⟨rfl, hU, hK⟩ := hv
  have hx := B.exec
  have hb := B.bytes
  have hr := B.returns
  have hts := atoms_spec (ws := wsX2_stateOf) B.pre
  have hown : s.vm.findClass RX2 = some mI.cls := findClass_of_methodNamed B.named
  have hlocks := B.notSynchronized
  have hl := lv_entry ([.ref (ad 7 0), .int (iI p), .int (iI q)]) (n := 3) (Nat.le_of_ble_eq_true rfl)
  rw [lg_entry_eq]
  generalize (lg_sl ([.ref (ad 7 0), .int (iI p), .int (iI q)]) ++ List.replicate (3 - (lg_sl ([.ref (ad 7 0), .int (iI p), .int (iI q)])).length) Slot.unset).toArray = ls at hl ⊢
  have hl : lv_has ls 3 [(0, .ref (ad 7 0)), (1, .int (iI p)), (2, .int (iI q))] := hl
  have hinX2 : ∀ w ∈ wsX20, w ∈ wsX2_stateOf := by decide +kernel
  refine lv_aload_n hx hb dX2_stateOf_0 rfl (lv_at hl 0 rfl) ?_
  refine bg_X2_areFree hx hb hts hinX2 hown hK hU (hts (.fieldLink RX2 32 "ClashBoxesModel" "areFree" "[Z") (by decide +kernel)) dX2_stateOf_1 ?_
  refine li_bipush hx hb dX2_stateOf_4 (by decide) ?_
  refine lv_aload_n hx hb dX2_stateOf_6 rfl (lv_at hl 0 rfl) ?_
  refine bg_X2_kinds hx hb hts hinX2 hown hK hU (hts (.fieldLink RX2 13 "ClashBoxesModel" "kinds" "[I") (by decide +kernel)) dX2_stateOf_7 ?_
  refine lv_iload_n hx hb dX2_stateOf_10 rfl (lv_at hl 1 rfl) ?_
  refine bl_9 hx hb hK hU (by omega) (by omega) dX2_stateOf_11 ?_
  have b1 := bB3 hBt hqp
  refine li_imul hx hb dX2_stateOf_12 ?_
  refine lv_aload_n hx hb dX2_stateOf_13 rfl (lv_at hl 0 rfl) ?_
  refine bg_X2_kinds hx hb hts hinX2 hown hK hU (hts (.fieldLink RX2 13 "ClashBoxesModel" "kinds" "[I") (by decide +kernel)) dX2_stateOf_14 ?_
  refine lv_iload_n hx hb dX2_stateOf_17 rfl (lv_at hl 2 rfl) ?_
  refine bl_9 hx hb hK hU (by omega) (by omega) dX2_stateOf_18 ?_
  have b2 := bB3 hBt hqq
  refine li_iadd hx hb dX2_stateOf_19 ?_
  refine bl_15 hx hb hK hU (by omega) (by omega) dX2_stateOf_20 ?_
  have b3 := bB9 hBt (k := (8 * (τ 3 p 0)) + (τ 3 q 0)) (by omega) (by omega)
  refine li_if_eq (tgt := 26) hx hb (by unfold iR; omega) dX2_stateOf_21 (by decide) (fun h4 => ?_) (fun h4 => ?_)
  · refine lv_aload_n hx hb dX2_stateOf_26 rfl (lv_at hl 0 rfl) ?_
    refine lv_iload_n hx hb dX2_stateOf_27 rfl (lv_at hl 1 rfl) ?_
    refine li_iconst hx hb dX2_stateOf_28 ?_
    refine lv_iload_n hx hb dX2_stateOf_29 rfl (lv_at hl 2 rfl) ?_
    refine bc_VB (As := [.int (iI p), .int (iI 0), .int (iI q)]) (rest := []) (kd := 7) (k := 0) (ci := 2) ⟨hx, hb, hml, hown, hts⟩ (c_X2_meets l g ad σ τ w p 0 q hqp hqq hBt hM (by omega)) (cwV 3 hts gX2_stateOf_X2_meets rfl rfl rfl (by decide +kernel) ⟨Nat.le_of_ble_eq_true rfl, Nat.le_of_ble_eq_true rfl⟩) hK hU (bx_L0 (by omega)) rfl rfl rfl hl.1 rfl (Nat.le_of_ble_eq_true rfl) dX2_stateOf_30 ⟨Nat.zero_le _, Nat.zero_le _⟩ (fun h5 => ?_) (fun h5 => ?_)
    · refine li_if_eq (tgt := 40) hx hb (by unfold iR; omega) dX2_stateOf_33 (by decide) (fun h => absurd h (by decide)) (fun _ => ?_)
      refine li_iconst hx hb dX2_stateOf_36 ?_
      refine lv_goto (tgt := 75) hx hb dX2_stateOf_37 (by decide) ?_
      refine be_i hx hb hr hlocks ?_ dX2_stateOf_75
      unfold stO; rw [zI_f (fun q9 => by (have q8 : τ 9 (τ 3 p 0 * 8 + τ 3 q 0) 0 ≠ 0 := q9); rw [show τ 3 p 0 * 8 + τ 3 q 0 = 8 * τ 3 p 0 + τ 3 q 0 by omega] at q8; omega), zI_t h5]
    · refine li_if_eq (tgt := 40) hx hb (by unfold iR; omega) dX2_stateOf_33 (by decide) (fun _ => ?_) (fun h => absurd (by decide) h)
      refine lv_aload_n hx hb dX2_stateOf_40 rfl (lv_at hl 0 rfl) ?_
      refine lv_iload_n hx hb dX2_stateOf_41 rfl (lv_at hl 1 rfl) ?_
      refine lv_aload_n hx hb dX2_stateOf_42 rfl (lv_at hl 0 rfl) ?_
      refine bg_X2_margins hx hb hts hinX2 hown hK hU (hts (.fieldLink RX2 17 "ClashBoxesModel" "margins" "[I") (by decide +kernel)) dX2_stateOf_43 ?_
      refine lv_iload_n hx hb dX2_stateOf_46 rfl (lv_at hl 1 rfl) ?_
      refine bl_10 hx hb hK hU (by omega) (by omega) dX2_stateOf_47 ?_
      have b6 := bB4 hBt hqp
      refine lv_iload_n hx hb dX2_stateOf_48 rfl (lv_at hl 2 rfl) ?_
      refine bc_VB (As := [.int (iI p), .int (iI (τ 4 p 0)), .int (iI q)]) (rest := []) (kd := 7) (k := 0) (ci := 2) ⟨hx, hb, hml, hown, hts⟩ (c_X2_meets l g ad σ τ w p (τ 4 p 0) q hqp hqq hBt hM (by omega)) (cwV 3 hts gX2_stateOf_X2_meets rfl rfl rfl (by decide +kernel) ⟨Nat.le_of_ble_eq_true rfl, Nat.le_of_ble_eq_true rfl⟩) hK hU (bx_L0 (by omega)) rfl rfl rfl hl.1 rfl (Nat.le_of_ble_eq_true rfl) dX2_stateOf_49 ⟨Nat.zero_le _, Nat.zero_le _⟩ (fun h7 => ?_) (fun h7 => ?_)
      · refine li_if_ne (tgt := 70) hx hb (by unfold iR; omega) dX2_stateOf_52 (by decide) (fun _ => ?_) (fun h => absurd h (by decide))
        refine li_iconst hx hb dX2_stateOf_70 ?_
        refine lv_goto (tgt := 75) hx hb dX2_stateOf_71 (by decide) ?_
        refine be_i hx hb hr hlocks ?_ dX2_stateOf_75
        unfold stO; rw [zI_f (fun q9 => by (have q8 : τ 9 (τ 3 p 0 * 8 + τ 3 q 0) 0 ≠ 0 := q9); rw [show τ 3 p 0 * 8 + τ 3 q 0 = 8 * τ 3 p 0 + τ 3 q 0 by omega] at q8; omega), zI_f h5, zI_t (Or.inl ⟨mt_pos (m := τ 4 p 0) (by omega) h5 h7, h7⟩)]
      · refine li_if_ne (tgt := 70) hx hb (by unfold iR; omega) dX2_stateOf_52 (by decide) (fun h => absurd (by decide) h) (fun _ => ?_)
        refine lv_aload_n hx hb dX2_stateOf_55 rfl (lv_at hl 0 rfl) ?_
        refine lv_iload_n hx hb dX2_stateOf_56 rfl (lv_at hl 2 rfl) ?_
        refine lv_aload_n hx hb dX2_stateOf_57 rfl (lv_at hl 0 rfl) ?_
        refine bg_X2_margins hx hb hts hinX2 hown hK hU (hts (.fieldLink RX2 17 "ClashBoxesModel" "margins" "[I") (by decide +kernel)) dX2_stateOf_58 ?_
        refine lv_iload_n hx hb dX2_stateOf_61 rfl (lv_at hl 2 rfl) ?_
        refine bl_10 hx hb hK hU (by omega) (by omega) dX2_stateOf_62 ?_
        have b8 := bB4 hBt hqq
        refine lv_iload_n hx hb dX2_stateOf_63 rfl (lv_at hl 1 rfl) ?_
        refine bc_VB (As := [.int (iI q), .int (iI (τ 4 q 0)), .int (iI p)]) (rest := []) (kd := 7) (k := 0) (ci := 2) ⟨hx, hb, hml, hown, hts⟩ (c_X2_meets l g ad σ τ w q (τ 4 q 0) p hqq hqp hBt hM (by omega)) (cwV 3 hts gX2_stateOf_X2_meets rfl rfl rfl (by decide +kernel) ⟨Nat.le_of_ble_eq_true rfl, Nat.le_of_ble_eq_true rfl⟩) hK hU (bx_L0 (by omega)) rfl rfl rfl hl.1 rfl (Nat.le_of_ble_eq_true rfl) dX2_stateOf_64 ⟨Nat.zero_le _, Nat.zero_le _⟩ (fun h9 => ?_) (fun h9 => ?_)
        · refine li_if_eq (tgt := 74) hx hb (by unfold iR; omega) dX2_stateOf_67 (by decide) (fun h => absurd h (by decide)) (fun _ => ?_)
          refine li_iconst hx hb dX2_stateOf_70 ?_
          refine lv_goto (tgt := 75) hx hb dX2_stateOf_71 (by decide) ?_
          refine be_i hx hb hr hlocks ?_ dX2_stateOf_75
          unfold stO; rw [zI_f (fun q9 => by (have q8 : τ 9 (τ 3 p 0 * 8 + τ 3 q 0) 0 ≠ 0 := q9); rw [show τ 3 p 0 * 8 + τ 3 q 0 = 8 * τ 3 p 0 + τ 3 q 0 by omega] at q8; omega), zI_f h5, zI_t (Or.inr ⟨mt_pos (m := τ 4 q 0) (by omega) (fun q9 => h5 ((mt_sym _ _ _).mpr q9)) h9, h9⟩)]
        · refine li_if_eq (tgt := 74) hx hb (by unfold iR; omega) dX2_stateOf_67 (by decide) (fun _ => ?_) (fun h => absurd (by decide) h)
          refine li_iconst hx hb dX2_stateOf_74 ?_
          refine be_i hx hb hr hlocks ?_ dX2_stateOf_75
          unfold stO; rw [zI_f (fun q9 => by (have q8 : τ 9 (τ 3 p 0 * 8 + τ 3 q 0) 0 ≠ 0 := q9); rw [show τ 3 p 0 * 8 + τ 3 q 0 = 8 * τ 3 p 0 + τ 3 q 0 by omega] at q8; omega), zI_f h5, zI_f (fun q9 => q9.elim (fun q9 => h7 q9.2) (fun q9 => h9 q9.2))]
  · refine li_iconst hx hb dX2_stateOf_24 ?_
    refine be_i hx hb hr hlocks ?_ dX2_stateOf_25
    unfold stO; rw [zI_t (show eff τ 9 (eff τ 3 p 0 * 8 + eff τ 3 q 0) 0 ≠ 0 from (by show τ 9 (τ 3 p 0 * 8 + τ 3 q 0) 0 ≠ 0; rw [show τ 3 p 0 * 8 + τ 3 q 0 = 8 * τ 3 p 0 + τ 3 q 0 by omega]; exact h4))]
