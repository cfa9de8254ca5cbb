set_option maxHeartbeats 4000000 in
set_option maxRecDepth 100000 in
theorem c_X2_isPart (l : Launch) (g : bxG) (ad : bxA) (σ τ : bxS) (w : bxW) (k : Int) (hRk : iR k) (hBt : bx_B τ) : Met l yX2_isPart wsX2_isPart ({ frames := 1, cells := 0, slots := 0, locals := 22 }) (va_Pc [.ref (ad 7 0), .int (iI k)] (fun U => bx_I g ad σ τ w U)) (k2_QcV (.int (iI (zB (0 ≤ k ∧ k < 60 ∧ τ 2 k 0 ≠ 0))))) 0 0 (fun _ => False) := by
  refine Met.ofW (cc := cX2_isPart) (maxL := 2) (ret := (some .boolean)) (by decide) rfl ?_
  intro Pg Ev s mI args below meth cd s₁ B hml hv
  obtain ⟨rfl, hU, hK⟩ := hv
  have hx := B.exec
  have hb := B.bytes
  have hr := B.returns
  have hts := atoms_spec (ws := wsX2_isPart) B.pre
  have hown : s.vm.findClass RX2 = some mI.cls := findClass_of_methodNamed B.named
  have hlocks := B.notSynchronized
  have hl := lv_entry ([.ref (ad 7 0), .int (iI k)]) (n := 2) (Nat.le_of_ble_eq_true rfl)
  rw [lg_entry_eq]
  generalize (lg_sl ([.ref (ad 7 0), .int (iI k)]) ++ List.replicate (2 - (lg_sl ([.ref (ad 7 0), .int (iI k)])).length) Slot.unset).toArray = ls at hl ⊢
  have hl : lv_has ls 2 [(0, .ref (ad 7 0)), (1, .int (iI k))] := hl
  have hinX2 : ∀ w ∈ wsX20, w ∈ wsX2_isPart := by decide +kernel
  have hRk0 : -2147483648 ≤ k ∧ k < 2147483648 := hRk
  have hm0 := bB0 hBt
  refine lv_iload_n hx hb dX2_isPart_0 rfl (lv_at hl 1 rfl) ?_
  refine li_iconst hx hb dX2_isPart_1 ?_
  refine lv_aload_n hx hb dX2_isPart_2 rfl (lv_at hl 0 rfl) ?_
  refine bg_X2_made hx hb hts hinX2 hown hK hU (hts (.fieldLink RX2 49 "ClashBoxesModel" "made" "I") (by decide +kernel)) dX2_isPart_3 ?_
  have b1 := bB0 hBt
  refine li_iconst hx hb dX2_isPart_6 ?_
  refine li_isub hx hb dX2_isPart_7 ?_
  refine bc_SB (As := [.int (iI k), .int (iI 0), .int (iI ((τ 0 0 0) - 1))]) (rest := []) ⟨hx, hb, hml, hown, hts⟩ (c_X2_isIn l g ad σ τ w k 0 ((τ 0 0 0) - 1) (by unfold iR; omega) (by unfold iR; omega) (by unfold iR; omega)) (va_cwS 3 hts gX2_isPart_X2_isIn rfl rfl rfl (by decide +kernel) ⟨Nat.le_of_ble_eq_true rfl, Nat.le_of_ble_eq_true rfl⟩) hK hU  rfl hl.1 rfl (Nat.le_of_ble_eq_true rfl) dX2_isPart_8 ⟨Nat.zero_le _, Nat.zero_le _⟩ (fun h2 => ?_) (fun h2 => ?_)
  · refine li_if_eq (tgt := 27) hx hb (by unfold iR; omega) dX2_isPart_11 (by decide) (fun h => absurd h (by decide)) (fun _ => ?_)
    refine lv_aload_n hx hb dX2_isPart_14 rfl (lv_at hl 0 rfl) ?_
    refine bg_X2_isThere hx hb hts hinX2 hown hK hU (hts (.fieldLink RX2 7 "ClashBoxesModel" "isThere" "[Z") (by decide +kernel)) dX2_isPart_15 ?_
    refine lv_iload_n hx hb dX2_isPart_18 rfl (lv_at hl 1 rfl) ?_
    refine bl_8 hx hb hK hU (by omega) (by omega) dX2_isPart_19 ?_
    have b3 := bB2 hBt (k := k) (by omega) (by omega)
    refine li_if_eq (tgt := 27) hx hb (by unfold iR; omega) dX2_isPart_20 (by decide) (fun h4 => ?_) (fun h4 => ?_)
    · refine li_iconst hx hb dX2_isPart_27 ?_
      refine be_f hx hb hr hlocks ?_ dX2_isPart_28
      first | omega | (rintro ⟨q0, q1, q2⟩; have q3 := bB2 hBt (k := k) q0 q1; omega)
    · refine li_iconst hx hb dX2_isPart_23 ?_
      refine lv_goto (tgt := 28) hx hb dX2_isPart_24 (by decide) ?_
      refine be_t hx hb hr hlocks ?_ dX2_isPart_28
      first | omega | (rintro ⟨q0, q1, q2⟩; have q3 := bB2 hBt (k := k) q0 q1; omega)
  · refine li_if_eq (tgt := 27) hx hb (by unfold iR; omega) dX2_isPart_11 (by decide) (fun _ => ?_) (fun h => absurd (by decide) h)
    refine li_iconst hx hb dX2_isPart_27 ?_
    refine be_f hx hb hr hlocks ?_ dX2_isPart_28
    first | omega | (rintro ⟨q0, q1, q2⟩; have q3 := bB2 hBt (k := k) q0 q1; omega)

set_option maxHeartbeats 4000000 in
set_option maxRecDepth 100000 in
theorem c_X2_mayMove (l : Launch) (g : bxG) (ad : bxA) (σ τ : bxS) (w : bxW) (p a d : Int) (hqp : 0 ≤ p ∧ p < 60 ∧ τ 2 p 0 ≠ 0) (hBt : bx_B τ) (hxa : 0 ≤ a ∧ a < 3) (hd : -3000 ≤ d ∧ d ≤ 3000) : Met l yX2_mayMove wsX2_mayMove ({ frames := 0, cells := 0, slots := 0, locals := 0 }) (va_Pc [.ref (ad 7 0), .int (iI p), .int (iI a), .int (iI d)] (fun U => bx_I g ad σ τ w U)) (k2_QcV (.int (iI (zB (0 ≤ τ 7 p a + d ∧ τ 8 p a + d ≤ 1000))))) 0 0 (fun _ => False) := by
  refine Met.ofW (cc := cX2_mayMove) (maxL := 4) (ret := (some .boolean)) (by decide) rfl ?_
  intro Pg Ev s mI args below meth cd s₁ B hml hv
  obtain ⟨rfl, hU, hK⟩ := hv
  have hx := B.exec
  have hb := B.bytes
  have hr := B.returns
  have hts := atoms_spec (ws := wsX2_mayMove) B.pre
  have hown : s.vm.findClass RX2 = some mI.cls := findClass_of_methodNamed B.named
  have hlocks := B.notSynchronized
  have hl := lv_entry ([.ref (ad 7 0), .int (iI p), .int (iI a), .int (iI d)]) (n := 4) (Nat.le_of_ble_eq_true rfl)
  rw [lg_entry_eq]
  generalize (lg_sl ([.ref (ad 7 0), .int (iI p), .int (iI a), .int (iI d)]) ++ List.replicate (4 - (lg_sl ([.ref (ad 7 0), .int (iI p), .int (iI a), .int (iI d)])).length) Slot.unset).toArray = ls at hl ⊢
  have hl : lv_has ls 4 [(0, .ref (ad 7 0)), (1, .int (iI p)), (2, .int (iI a)), (3, .int (iI d))] := hl
  have hinX2 : ∀ w ∈ wsX20, w ∈ wsX2_mayMove := by decide +kernel
  refine lv_aload_n hx hb dX2_mayMove_0 rfl (lv_at hl 0 rfl) ?_
  refine bg_X2_lows hx hb hts hinX2 hown hK hU (hts (.fieldLink RX2 26 "ClashBoxesModel" "lows" "[I") (by decide +kernel)) dX2_mayMove_1 ?_
  refine li_iconst hx hb dX2_mayMove_4 ?_
  refine lv_iload_n hx hb dX2_mayMove_5 rfl (lv_at hl 1 rfl) ?_
  refine li_imul hx hb dX2_mayMove_6 ?_
  refine lv_iload_n hx hb dX2_mayMove_7 rfl (lv_at hl 2 rfl) ?_
  refine li_iadd hx hb dX2_mayMove_8 ?_
  refine bl_13 (i := p) (a := a) hx hb hK hU (by omega) (by omega) (by omega) (by omega) dX2_mayMove_9 ?_
  have b1 := bB7 hBt hqp (a := a) (by omega) (by omega)
  refine lv_iload_n hx hb dX2_mayMove_10 rfl (lv_at hl 3 rfl) ?_
  refine li_iadd hx hb dX2_mayMove_11 ?_
  refine li_if_lt (tgt := 37) hx hb (by unfold iR; omega) dX2_mayMove_12 (by decide) (fun h2 => ?_) (fun h2 => ?_)
  · refine li_iconst hx hb dX2_mayMove_37 ?_
    refine be_f hx hb hr hlocks ?_ dX2_mayMove_38
    omega
  · refine lv_aload_n hx hb dX2_mayMove_15 rfl (lv_at hl 0 rfl) ?_
    refine bg_X2_highs hx hb hts hinX2 hown hK hU (hts (.fieldLink RX2 29 "ClashBoxesModel" "highs" "[I") (by decide +kernel)) dX2_mayMove_16 ?_
    refine li_iconst hx hb dX2_mayMove_19 ?_
    refine lv_iload_n hx hb dX2_mayMove_20 rfl (lv_at hl 1 rfl) ?_
    refine li_imul hx hb dX2_mayMove_21 ?_
    refine lv_iload_n hx hb dX2_mayMove_22 rfl (lv_at hl 2 rfl) ?_
    refine li_iadd hx hb dX2_mayMove_23 ?_
    refine bl_14 (i := p) (a := a) hx hb hK hU (by omega) (by omega) (by omega) (by omega) dX2_mayMove_24 ?_
    have b3 := bB7 hBt hqp (a := a) (by omega) (by omega)
    refine lv_iload_n hx hb dX2_mayMove_25 rfl (lv_at hl 3 rfl) ?_
    refine li_iadd hx hb dX2_mayMove_26 ?_
    refine li_sipush hx hb dX2_mayMove_27 (by decide) ?_
    refine li_icmp_gt (tgt := 37) hx hb (by unfold iR; omega) (by unfold iR; omega) dX2_mayMove_30 (by decide) (fun h4 => ?_) (fun h4 => ?_)
    · refine li_iconst hx hb dX2_mayMove_37 ?_
      refine be_f hx hb hr hlocks ?_ dX2_mayMove_38
      omega
    · refine li_iconst hx hb dX2_mayMove_33 ?_
      refine lv_goto (tgt := 38) hx hb dX2_mayMove_34 (by decide) ?_
      refine be_t hx hb hr hlocks ?_ dX2_mayMove_38
      omega

set_option maxHeartbeats 4000000 in
set_option maxRecDepth 100000 in
theorem c_X2_end (l : Launch) (g : bxG) (ad : bxA) (σ τ : bxS) (w : bxW) (p a hi gr : Int) (hqp : 0 ≤ p ∧ p < 60 ∧ τ 2 p 0 ≠ 0) (hBt : bx_B τ) (hM : bx_M τ) (hxa : 0 ≤ a ∧ a < 3) (hhhi : hi = 0 ∨ hi = 1) (hggr : 0 ≤ gr ∧ gr ≤ 50) : Met l yX2_end wsX2_end ({ frames := 0, cells := 0, slots := 0, locals := 0 }) (va_Pc [.ref (ad 7 0), .int (iI p), .int (iI a), .int (iI hi), .int (iI gr)] (fun U => bx_I g ad σ τ w U)) (k2_QcV (.int (iI (mE (eff τ) p a hi gr)))) 0 0 (fun _ => False) := by
  refine Met.ofW (cc := cX2_end) (maxL := 7) (ret := (some .int)) (by decide) rfl ?_
  intro Pg Ev s mI args below meth cd s₁ B hml hv
  obtain ⟨rfl, hU, hK⟩ := hv
  have hx := B.exec
  have hb := B.bytes
  have hr := B.returns
  have hts := atoms_spec (ws := wsX2_end) B.pre
  have hown : s.vm.findClass RX2 = some mI.cls := findClass_of_methodNamed B.named
  have hlocks := B.notSynchronized
  have hl := lv_entry ([.ref (ad 7 0), .int (iI p), .int (iI a), .int (iI hi), .int (iI gr)]) (n := 7) (Nat.le_of_ble_eq_true rfl)
  rw [lg_entry_eq]
  generalize (lg_sl ([.ref (ad 7 0), .int (iI p), .int (iI a), .int (iI hi), .int (iI gr)]) ++ List.replicate (7 - (lg_sl ([.ref (ad 7 0), .int (iI p), .int (iI a), .int (iI hi), .int (iI gr)])).length) Slot.unset).toArray = ls at hl ⊢
  have hl : lv_has ls 7 [(0, .ref (ad 7 0)), (1, .int (iI p)), (2, .int (iI a)), (3, .int (iI hi)), (4, .int (iI gr))] := hl
  have hinX2 : ∀ w ∈ wsX20, w ∈ wsX2_end := by decide +kernel
  obtain ⟨hM1, hM2, hM3⟩ := id hM
  rcases (by omega : hi = 0 ∨ hi = 1) with rfl | rfl
  · refine lv_iload_n hx hb dX2_end_0 rfl (lv_at hl 3 rfl) ?_
    refine li_if_eq (tgt := 17) hx hb (by unfold iR; omega) dX2_end_1 (by decide) (fun _ => ?_) (fun h => absurd (by decide) h)
    refine lv_aload_n hx hb dX2_end_17 rfl (lv_at hl 0 rfl) ?_
    refine bg_X2_lows hx hb hts hinX2 hown hK hU (hts (.fieldLink RX2 26 "ClashBoxesModel" "lows" "[I") (by decide +kernel)) dX2_end_18 ?_
    refine li_iconst hx hb dX2_end_21 ?_
    refine lv_iload_n hx hb dX2_end_22 rfl (lv_at hl 1 rfl) ?_
    refine li_imul hx hb dX2_end_23 ?_
    refine lv_iload_n hx hb dX2_end_24 rfl (lv_at hl 2 rfl) ?_
    refine li_iadd hx hb dX2_end_25 ?_
    refine bl_13 (i := p) (a := a) hx hb hK hU (by omega) (by omega) (by omega) (by omega) dX2_end_26 ?_
    have b1 := bB7 hBt hqp (a := a) (by omega) (by omega)
    refine lv_istore (lv' := [(5, .int (iI (τ 7 p a))), (0, .ref (ad 7 0)), (1, .int (iI p)), (2, .int (iI a)), (3, .int (iI 0)), (4, .int (iI gr))]) hx hb dX2_end_27 hl (by decide) rfl (fun ls hl => ?_)
    refine lv_iload hx hb dX2_end_29 (lv_at hl 0 rfl) ?_
    refine lv_iload_n hx hb dX2_end_31 rfl (lv_at hl 2 rfl) ?_
    refine lv_aload_n hx hb dX2_end_32 rfl (lv_at hl 1 rfl) ?_
    refine bg_X2_movedPart hx hb hts hinX2 hown hK hU (hts (.fieldLink RX2 38 "ClashBoxesModel" "movedPart" "I") (by decide +kernel)) dX2_end_33 ?_
    refine li_icmp_ne (tgt := 54) hx hb (by unfold iR; omega) (by unfold iR; omega) dX2_end_36 (by decide) (fun h3 => ?_) (fun h3 => ?_)
    · refine li_iconst hx hb dX2_end_54 ?_
      refine li_iadd hx hb dX2_end_55 ?_
      refine lv_istore (lv' := [(5, .int (iI ((τ 7 p a) + 0))), (0, .ref (ad 7 0)), (1, .int (iI p)), (2, .int (iI a)), (3, .int (iI 0)), (4, .int (iI gr))]) hx hb dX2_end_56 hl (by decide) rfl (fun ls hl => ?_)
      refine lv_aload_n hx hb dX2_end_58 rfl (lv_at hl 1 rfl) ?_
      refine bg_X2_axes hx hb hts hinX2 hown hK hU (hts (.fieldLink RX2 20 "ClashBoxesModel" "axes" "[I") (by decide +kernel)) dX2_end_59 ?_
      refine lv_iload_n hx hb dX2_end_62 rfl (lv_at hl 2 rfl) ?_
      refine bl_11 hx hb hK hU (by omega) (by omega) dX2_end_63 ?_
      have b4 := bB5 hBt hqp
      refine li_if_lt (tgt := 81) hx hb (by unfold iR; omega) dX2_end_64 (by decide) (fun h5 => ?_) (fun h5 => ?_)
      · refine li_iconst hx hb dX2_end_81 ?_
        refine lv_istore (lv' := [(6, .int (iI 0)), (5, .int (iI ((τ 7 p a) + 0))), (0, .ref (ad 7 0)), (1, .int (iI p)), (2, .int (iI a)), (3, .int (iI 0)), (4, .int (iI gr))]) hx hb dX2_end_82 hl (by decide) rfl (fun ls hl => ?_)
        refine lv_iload hx hb dX2_end_84 (lv_at hl 0 rfl) ?_
        refine li_if_eq (tgt := 94) hx hb (by unfold iR; omega) dX2_end_86 (by decide) (fun _ => ?_) (fun h => absurd (by decide) h)
        refine lv_iload_n hx hb dX2_end_94 rfl (lv_at hl 5 rfl) ?_
        refine li_if_eq (tgt := 106) hx hb (by unfold iR; omega) dX2_end_95 (by decide) (fun _ => ?_) (fun h => absurd (by decide) h)
        refine lv_iload hx hb dX2_end_106 (lv_at hl 1 rfl) ?_
        refine lv_iload hx hb dX2_end_108 (lv_at hl 6 rfl) ?_
        refine li_isub hx hb dX2_end_110 ?_
        refine be_i hx hb hr hlocks ?_ dX2_end_111
        (have hmv : mvd τ p a = 0 := by unfold mvd; first | (rw [if_pos (by omega)]) | (rw [if_neg (by omega)])); (unfold mE; rw [eff_7, eff_8, hmv]; first | (rw [zI_t (show acr (eff τ) p a from ⟨by show 0 ≤ τ 5 p 0; omega, by show τ 5 p 0 ≠ a; omega⟩)]) | (rw [zI_f (fun q => by have q1 : 0 ≤ τ 5 p 0 := q.1; have q2 : τ 5 p 0 ≠ a := q.2; omega)])); simp
      · refine lv_aload_n hx hb dX2_end_67 rfl (lv_at hl 1 rfl) ?_
        refine bg_X2_axes hx hb hts hinX2 hown hK hU (hts (.fieldLink RX2 20 "ClashBoxesModel" "axes" "[I") (by decide +kernel)) dX2_end_68 ?_
        refine lv_iload_n hx hb dX2_end_71 rfl (lv_at hl 2 rfl) ?_
        refine bl_11 hx hb hK hU (by omega) (by omega) dX2_end_72 ?_
        have b6 := bB5 hBt hqp
        refine lv_iload_n hx hb dX2_end_73 rfl (lv_at hl 3 rfl) ?_
        refine li_icmp_eq (tgt := 81) hx hb (by unfold iR; omega) (by unfold iR; omega) dX2_end_74 (by decide) (fun h7 => ?_) (fun h7 => ?_)
        · refine li_iconst hx hb dX2_end_81 ?_
          refine lv_istore (lv' := [(6, .int (iI 0)), (5, .int (iI ((τ 7 p a) + 0))), (0, .ref (ad 7 0)), (1, .int (iI p)), (2, .int (iI a)), (3, .int (iI 0)), (4, .int (iI gr))]) hx hb dX2_end_82 hl (by decide) rfl (fun ls hl => ?_)
          refine lv_iload hx hb dX2_end_84 (lv_at hl 0 rfl) ?_
          refine li_if_eq (tgt := 94) hx hb (by unfold iR; omega) dX2_end_86 (by decide) (fun _ => ?_) (fun h => absurd (by decide) h)
          refine lv_iload_n hx hb dX2_end_94 rfl (lv_at hl 5 rfl) ?_
          refine li_if_eq (tgt := 106) hx hb (by unfold iR; omega) dX2_end_95 (by decide) (fun _ => ?_) (fun h => absurd (by decide) h)
          refine lv_iload hx hb dX2_end_106 (lv_at hl 1 rfl) ?_
          refine lv_iload hx hb dX2_end_108 (lv_at hl 6 rfl) ?_
          refine li_isub hx hb dX2_end_110 ?_
          refine be_i hx hb hr hlocks ?_ dX2_end_111
          (have hmv : mvd τ p a = 0 := by unfold mvd; first | (rw [if_pos (by omega)]) | (rw [if_neg (by omega)])); (unfold mE; rw [eff_7, eff_8, hmv]; first | (rw [zI_t (show acr (eff τ) p a from ⟨by show 0 ≤ τ 5 p 0; omega, by show τ 5 p 0 ≠ a; omega⟩)]) | (rw [zI_f (fun q => by have q1 : 0 ≤ τ 5 p 0 := q.1; have q2 : τ 5 p 0 ≠ a := q.2; omega)])); simp
        · refine li_iconst hx hb dX2_end_77 ?_
          refine lv_goto (tgt := 82) hx hb dX2_end_78 (by decide) ?_
          refine lv_istore (lv' := [(6, .int (iI 1)), (5, .int (iI ((τ 7 p a) + 0))), (0, .ref (ad 7 0)), (1, .int (iI p)), (2, .int (iI a)), (3, .int (iI 0)), (4, .int (iI gr))]) hx hb dX2_end_82 hl (by decide) rfl (fun ls hl => ?_)
          refine lv_iload hx hb dX2_end_84 (lv_at hl 0 rfl) ?_
          refine li_if_eq (tgt := 94) hx hb (by unfold iR; omega) dX2_end_86 (by decide) (fun h => absurd h (by decide)) (fun _ => ?_)
          refine lv_iload hx hb dX2_end_89 (lv_at hl 1 rfl) ?_
          refine lv_goto (tgt := 111) hx hb dX2_end_91 (by decide) ?_
          refine be_i hx hb hr hlocks ?_ dX2_end_111
          (have hmv : mvd τ p a = 0 := by unfold mvd; first | (rw [if_pos (by omega)]) | (rw [if_neg (by omega)])); (unfold mE; rw [eff_7, eff_8, hmv]; first | (rw [zI_t (show acr (eff τ) p a from ⟨by show 0 ≤ τ 5 p 0; omega, by show τ 5 p 0 ≠ a; omega⟩)]) | (rw [zI_f (fun q => by have q1 : 0 ≤ τ 5 p 0 := q.1; have q2 : τ 5 p 0 ≠ a := q.2; omega)])); simp
    · refine lv_iload_n hx hb dX2_end_39 rfl (lv_at hl 3 rfl) ?_
      refine lv_aload_n hx hb dX2_end_40 rfl (lv_at hl 1 rfl) ?_
      refine bg_X2_movedAxis hx hb hts hinX2 hown hK hU (hts (.fieldLink RX2 80 "ClashBoxesModel" "movedAxis" "I") (by decide +kernel)) dX2_end_41 ?_
      refine li_icmp_ne (tgt := 54) hx hb (by unfold iR; omega) (by unfold iR; omega) dX2_end_44 (by decide) (fun h9 => ?_) (fun h9 => ?_)
      · refine li_iconst hx hb dX2_end_54 ?_
        refine li_iadd hx hb dX2_end_55 ?_
        refine lv_istore (lv' := [(5, .int (iI ((τ 7 p a) + 0))), (0, .ref (ad 7 0)), (1, .int (iI p)), (2, .int (iI a)), (3, .int (iI 0)), (4, .int (iI gr))]) hx hb dX2_end_56 hl (by decide) rfl (fun ls hl => ?_)
        refine lv_aload_n hx hb dX2_end_58 rfl (lv_at hl 1 rfl) ?_
        refine bg_X2_axes hx hb hts hinX2 hown hK hU (hts (.fieldLink RX2 20 "ClashBoxesModel" "axes" "[I") (by decide +kernel)) dX2_end_59 ?_
        refine lv_iload_n hx hb dX2_end_62 rfl (lv_at hl 2 rfl) ?_
        refine bl_11 hx hb hK hU (by omega) (by omega) dX2_end_63 ?_
        have b10 := bB5 hBt hqp
        refine li_if_lt (tgt := 81) hx hb (by unfold iR; omega) dX2_end_64 (by decide) (fun h11 => ?_) (fun h11 => ?_)
        · refine li_iconst hx hb dX2_end_81 ?_
          refine lv_istore (lv' := [(6, .int (iI 0)), (5, .int (iI ((τ 7 p a) + 0))), (0, .ref (ad 7 0)), (1, .int (iI p)), (2, .int (iI a)), (3, .int (iI 0)), (4, .int (iI gr))]) hx hb dX2_end_82 hl (by decide) rfl (fun ls hl => ?_)
          refine lv_iload hx hb dX2_end_84 (lv_at hl 0 rfl) ?_
          refine li_if_eq (tgt := 94) hx hb (by unfold iR; omega) dX2_end_86 (by decide) (fun _ => ?_) (fun h => absurd (by decide) h)
          refine lv_iload_n hx hb dX2_end_94 rfl (lv_at hl 5 rfl) ?_
          refine li_if_eq (tgt := 106) hx hb (by unfold iR; omega) dX2_end_95 (by decide) (fun _ => ?_) (fun h => absurd (by decide) h)
          refine lv_iload hx hb dX2_end_106 (lv_at hl 1 rfl) ?_
          refine lv_iload hx hb dX2_end_108 (lv_at hl 6 rfl) ?_
          refine li_isub hx hb dX2_end_110 ?_
          refine be_i hx hb hr hlocks ?_ dX2_end_111
          (have hmv : mvd τ p a = 0 := by unfold mvd; first | (rw [if_pos (by omega)]) | (rw [if_neg (by omega)])); (unfold mE; rw [eff_7, eff_8, hmv]; first | (rw [zI_t (show acr (eff τ) p a from ⟨by show 0 ≤ τ 5 p 0; omega, by show τ 5 p 0 ≠ a; omega⟩)]) | (rw [zI_f (fun q => by have q1 : 0 ≤ τ 5 p 0 := q.1; have q2 : τ 5 p 0 ≠ a := q.2; omega)])); simp
        · refine lv_aload_n hx hb dX2_end_67 rfl (lv_at hl 1 rfl) ?_
          refine bg_X2_axes hx hb hts hinX2 hown hK hU (hts (.fieldLink RX2 20 "ClashBoxesModel" "axes" "[I") (by decide +kernel)) dX2_end_68 ?_
          refine lv_iload_n hx hb dX2_end_71 rfl (lv_at hl 2 rfl) ?_
          refine bl_11 hx hb hK hU (by omega) (by omega) dX2_end_72 ?_
          have b12 := bB5 hBt hqp
          refine lv_iload_n hx hb dX2_end_73 rfl (lv_at hl 3 rfl) ?_
          refine li_icmp_eq (tgt := 81) hx hb (by unfold iR; omega) (by unfold iR; omega) dX2_end_74 (by decide) (fun h13 => ?_) (fun h13 => ?_)
          · refine li_iconst hx hb dX2_end_81 ?_
            refine lv_istore (lv' := [(6, .int (iI 0)), (5, .int (iI ((τ 7 p a) + 0))), (0, .ref (ad 7 0)), (1, .int (iI p)), (2, .int (iI a)), (3, .int (iI 0)), (4, .int (iI gr))]) hx hb dX2_end_82 hl (by decide) rfl (fun ls hl => ?_)
            refine lv_iload hx hb dX2_end_84 (lv_at hl 0 rfl) ?_
            refine li_if_eq (tgt := 94) hx hb (by unfold iR; omega) dX2_end_86 (by decide) (fun _ => ?_) (fun h => absurd (by decide) h)
            refine lv_iload_n hx hb dX2_end_94 rfl (lv_at hl 5 rfl) ?_
            refine li_if_eq (tgt := 106) hx hb (by unfold iR; omega) dX2_end_95 (by decide) (fun _ => ?_) (fun h => absurd (by decide) h)
            refine lv_iload hx hb dX2_end_106 (lv_at hl 1 rfl) ?_
            refine lv_iload hx hb dX2_end_108 (lv_at hl 6 rfl) ?_
            refine li_isub hx hb dX2_end_110 ?_
            refine be_i hx hb hr hlocks ?_ dX2_end_111
            (have hmv : mvd τ p a = 0 := by unfold mvd; first | (rw [if_pos (by omega)]) | (rw [if_neg (by omega)])); (unfold mE; rw [eff_7, eff_8, hmv]; first | (rw [zI_t (show acr (eff τ) p a from ⟨by show 0 ≤ τ 5 p 0; omega, by show τ 5 p 0 ≠ a; omega⟩)]) | (rw [zI_f (fun q => by have q1 : 0 ≤ τ 5 p 0 := q.1; have q2 : τ 5 p 0 ≠ a := q.2; omega)])); simp
          · refine li_iconst hx hb dX2_end_77 ?_
            refine lv_goto (tgt := 82) hx hb dX2_end_78 (by decide) ?_
            refine lv_istore (lv' := [(6, .int (iI 1)), (5, .int (iI ((τ 7 p a) + 0))), (0, .ref (ad 7 0)), (1, .int (iI p)), (2, .int (iI a)), (3, .int (iI 0)), (4, .int (iI gr))]) hx hb dX2_end_82 hl (by decide) rfl (fun ls hl => ?_)
            refine lv_iload hx hb dX2_end_84 (lv_at hl 0 rfl) ?_
            refine li_if_eq (tgt := 94) hx hb (by unfold iR; omega) dX2_end_86 (by decide) (fun h => absurd h (by decide)) (fun _ => ?_)
            refine lv_iload hx hb dX2_end_89 (lv_at hl 1 rfl) ?_
            refine lv_goto (tgt := 111) hx hb dX2_end_91 (by decide) ?_
            refine be_i hx hb hr hlocks ?_ dX2_end_111
            (have hmv : mvd τ p a = 0 := by unfold mvd; first | (rw [if_pos (by omega)]) | (rw [if_neg (by omega)])); (unfold mE; rw [eff_7, eff_8, hmv]; first | (rw [zI_t (show acr (eff τ) p a from ⟨by show 0 ≤ τ 5 p 0; omega, by show τ 5 p 0 ≠ a; omega⟩)]) | (rw [zI_f (fun q => by have q1 : 0 ≤ τ 5 p 0 := q.1; have q2 : τ 5 p 0 ≠ a := q.2; omega)])); simp
      · refine lv_aload_n hx hb dX2_end_47 rfl (lv_at hl 1 rfl) ?_
        refine bg_X2_movedBy hx hb hts hinX2 hown hK hU (hts (.fieldLink RX2 83 "ClashBoxesModel" "movedBy" "I") (by decide +kernel)) dX2_end_48 ?_
        refine lv_goto (tgt := 55) hx hb dX2_end_51 (by decide) ?_
        refine li_iadd hx hb dX2_end_55 ?_
        refine lv_istore (lv' := [(5, .int (iI ((τ 7 p a) + (τ 17 0 0)))), (0, .ref (ad 7 0)), (1, .int (iI p)), (2, .int (iI a)), (3, .int (iI 0)), (4, .int (iI gr))]) hx hb dX2_end_56 hl (by decide) rfl (fun ls hl => ?_)
        refine lv_aload_n hx hb dX2_end_58 rfl (lv_at hl 1 rfl) ?_
        refine bg_X2_axes hx hb hts hinX2 hown hK hU (hts (.fieldLink RX2 20 "ClashBoxesModel" "axes" "[I") (by decide +kernel)) dX2_end_59 ?_
        refine lv_iload_n hx hb dX2_end_62 rfl (lv_at hl 2 rfl) ?_
        refine bl_11 hx hb hK hU (by omega) (by omega) dX2_end_63 ?_
        have b15 := bB5 hBt hqp
        refine li_if_lt (tgt := 81) hx hb (by unfold iR; omega) dX2_end_64 (by decide) (fun h16 => ?_) (fun h16 => ?_)
        · refine li_iconst hx hb dX2_end_81 ?_
          refine lv_istore (lv' := [(6, .int (iI 0)), (5, .int (iI ((τ 7 p a) + (τ 17 0 0)))), (0, .ref (ad 7 0)), (1, .int (iI p)), (2, .int (iI a)), (3, .int (iI 0)), (4, .int (iI gr))]) hx hb dX2_end_82 hl (by decide) rfl (fun ls hl => ?_)
          refine lv_iload hx hb dX2_end_84 (lv_at hl 0 rfl) ?_
          refine li_if_eq (tgt := 94) hx hb (by unfold iR; omega) dX2_end_86 (by decide) (fun _ => ?_) (fun h => absurd (by decide) h)
          refine lv_iload_n hx hb dX2_end_94 rfl (lv_at hl 5 rfl) ?_
          refine li_if_eq (tgt := 106) hx hb (by unfold iR; omega) dX2_end_95 (by decide) (fun _ => ?_) (fun h => absurd (by decide) h)
          refine lv_iload hx hb dX2_end_106 (lv_at hl 1 rfl) ?_
          refine lv_iload hx hb dX2_end_108 (lv_at hl 6 rfl) ?_
          refine li_isub hx hb dX2_end_110 ?_
          refine be_i hx hb hr hlocks ?_ dX2_end_111
          (have hmv : mvd τ p a = τ 17 0 0 := by unfold mvd; first | (rw [if_pos (by omega)]) | (rw [if_neg (by omega)])); (unfold mE; rw [eff_7, eff_8, hmv]; first | (rw [zI_t (show acr (eff τ) p a from ⟨by show 0 ≤ τ 5 p 0; omega, by show τ 5 p 0 ≠ a; omega⟩)]) | (rw [zI_f (fun q => by have q1 : 0 ≤ τ 5 p 0 := q.1; have q2 : τ 5 p 0 ≠ a := q.2; omega)])); simp
        · refine lv_aload_n hx hb dX2_end_67 rfl (lv_at hl 1 rfl) ?_
          refine bg_X2_axes hx hb hts hinX2 hown hK hU (hts (.fieldLink RX2 20 "ClashBoxesModel" "axes" "[I") (by decide +kernel)) dX2_end_68 ?_
          refine lv_iload_n hx hb dX2_end_71 rfl (lv_at hl 2 rfl) ?_
          refine bl_11 hx hb hK hU (by omega) (by omega) dX2_end_72 ?_
          have b17 := bB5 hBt hqp
          refine lv_iload_n hx hb dX2_end_73 rfl (lv_at hl 3 rfl) ?_
          refine li_icmp_eq (tgt := 81) hx hb (by unfold iR; omega) (by unfold iR; omega) dX2_end_74 (by decide) (fun h18 => ?_) (fun h18 => ?_)
          · refine li_iconst hx hb dX2_end_81 ?_
            refine lv_istore (lv' := [(6, .int (iI 0)), (5, .int (iI ((τ 7 p a) + (τ 17 0 0)))), (0, .ref (ad 7 0)), (1, .int (iI p)), (2, .int (iI a)), (3, .int (iI 0)), (4, .int (iI gr))]) hx hb dX2_end_82 hl (by decide) rfl (fun ls hl => ?_)
            refine lv_iload hx hb dX2_end_84 (lv_at hl 0 rfl) ?_
            refine li_if_eq (tgt := 94) hx hb (by unfold iR; omega) dX2_end_86 (by decide) (fun _ => ?_) (fun h => absurd (by decide) h)
            refine lv_iload_n hx hb dX2_end_94 rfl (lv_at hl 5 rfl) ?_
            refine li_if_eq (tgt := 106) hx hb (by unfold iR; omega) dX2_end_95 (by decide) (fun _ => ?_) (fun h => absurd (by decide) h)
            refine lv_iload hx hb dX2_end_106 (lv_at hl 1 rfl) ?_
            refine lv_iload hx hb dX2_end_108 (lv_at hl 6 rfl) ?_
            refine li_isub hx hb dX2_end_110 ?_
            refine be_i hx hb hr hlocks ?_ dX2_end_111
            (have hmv : mvd τ p a = τ 17 0 0 := by unfold mvd; first | (rw [if_pos (by omega)]) | (rw [if_neg (by omega)])); (unfold mE; rw [eff_7, eff_8, hmv]; first | (rw [zI_t (show acr (eff τ) p a from ⟨by show 0 ≤ τ 5 p 0; omega, by show τ 5 p 0 ≠ a; omega⟩)]) | (rw [zI_f (fun q => by have q1 : 0 ≤ τ 5 p 0 := q.1; have q2 : τ 5 p 0 ≠ a := q.2; omega)])); simp
          · refine li_iconst hx hb dX2_end_77 ?_
            refine lv_goto (tgt := 82) hx hb dX2_end_78 (by decide) ?_
            refine lv_istore (lv' := [(6, .int (iI 1)), (5, .int (iI ((τ 7 p a) + (τ 17 0 0)))), (0, .ref (ad 7 0)), (1, .int (iI p)), (2, .int (iI a)), (3, .int (iI 0)), (4, .int (iI gr))]) hx hb dX2_end_82 hl (by decide) rfl (fun ls hl => ?_)
            refine lv_iload hx hb dX2_end_84 (lv_at hl 0 rfl) ?_
            refine li_if_eq (tgt := 94) hx hb (by unfold iR; omega) dX2_end_86 (by decide) (fun h => absurd h (by decide)) (fun _ => ?_)
            refine lv_iload hx hb dX2_end_89 (lv_at hl 1 rfl) ?_
            refine lv_goto (tgt := 111) hx hb dX2_end_91 (by decide) ?_
            refine be_i hx hb hr hlocks ?_ dX2_end_111
            (have hmv : mvd τ p a = τ 17 0 0 := by unfold mvd; first | (rw [if_pos (by omega)]) | (rw [if_neg (by omega)])); (unfold mE; rw [eff_7, eff_8, hmv]; first | (rw [zI_t (show acr (eff τ) p a from ⟨by show 0 ≤ τ 5 p 0; omega, by show τ 5 p 0 ≠ a; omega⟩)]) | (rw [zI_f (fun q => by have q1 : 0 ≤ τ 5 p 0 := q.1; have q2 : τ 5 p 0 ≠ a := q.2; omega)])); simp
  · refine lv_iload_n hx hb dX2_end_0 rfl (lv_at hl 3 rfl) ?_
    refine li_if_eq (tgt := 17) hx hb (by unfold iR; omega) dX2_end_1 (by decide) (fun h => absurd h (by decide)) (fun _ => ?_)
    refine lv_aload_n hx hb dX2_end_4 rfl (lv_at hl 0 rfl) ?_
    refine bg_X2_highs hx hb hts hinX2 hown hK hU (hts (.fieldLink RX2 29 "ClashBoxesModel" "highs" "[I") (by decide +kernel)) dX2_end_5 ?_
    refine li_iconst hx hb dX2_end_8 ?_
    refine lv_iload_n hx hb dX2_end_9 rfl (lv_at hl 1 rfl) ?_
    refine li_imul hx hb dX2_end_10 ?_
    refine lv_iload_n hx hb dX2_end_11 rfl (lv_at hl 2 rfl) ?_
    refine li_iadd hx hb dX2_end_12 ?_
    refine bl_14 (i := p) (a := a) hx hb hK hU (by omega) (by omega) (by omega) (by omega) dX2_end_13 ?_
    have b19 := bB7 hBt hqp (a := a) (by omega) (by omega)
    refine lv_goto (tgt := 27) hx hb dX2_end_14 (by decide) ?_
    refine lv_istore (lv' := [(5, .int (iI (τ 8 p a))), (0, .ref (ad 7 0)), (1, .int (iI p)), (2, .int (iI a)), (3, .int (iI 1)), (4, .int (iI gr))]) hx hb dX2_end_27 hl (by decide) rfl (fun ls hl => ?_)
    refine lv_iload hx hb dX2_end_29 (lv_at hl 0 rfl) ?_
    refine lv_iload_n hx hb dX2_end_31 rfl (lv_at hl 2 rfl) ?_
    refine lv_aload_n hx hb dX2_end_32 rfl (lv_at hl 1 rfl) ?_
    refine bg_X2_movedPart hx hb hts hinX2 hown hK hU (hts (.fieldLink RX2 38 "ClashBoxesModel" "movedPart" "I") (by decide +kernel)) dX2_end_33 ?_
    refine li_icmp_ne (tgt := 54) hx hb (by unfold iR; omega) (by unfold iR; omega) dX2_end_36 (by decide) (fun h21 => ?_) (fun h21 => ?_)
    · refine li_iconst hx hb dX2_end_54 ?_
      refine li_iadd hx hb dX2_end_55 ?_
      refine lv_istore (lv' := [(5, .int (iI ((τ 8 p a) + 0))), (0, .ref (ad 7 0)), (1, .int (iI p)), (2, .int (iI a)), (3, .int (iI 1)), (4, .int (iI gr))]) hx hb dX2_end_56 hl (by decide) rfl (fun ls hl => ?_)
      refine lv_aload_n hx hb dX2_end_58 rfl (lv_at hl 1 rfl) ?_
      refine bg_X2_axes hx hb hts hinX2 hown hK hU (hts (.fieldLink RX2 20 "ClashBoxesModel" "axes" "[I") (by decide +kernel)) dX2_end_59 ?_
      refine lv_iload_n hx hb dX2_end_62 rfl (lv_at hl 2 rfl) ?_
      refine bl_11 hx hb hK hU (by omega) (by omega) dX2_end_63 ?_
      have b22 := bB5 hBt hqp
      refine li_if_lt (tgt := 81) hx hb (by unfold iR; omega) dX2_end_64 (by decide) (fun h23 => ?_) (fun h23 => ?_)
      · refine li_iconst hx hb dX2_end_81 ?_
        refine lv_istore (lv' := [(6, .int (iI 0)), (5, .int (iI ((τ 8 p a) + 0))), (0, .ref (ad 7 0)), (1, .int (iI p)), (2, .int (iI a)), (3, .int (iI 1)), (4, .int (iI gr))]) hx hb dX2_end_82 hl (by decide) rfl (fun ls hl => ?_)
        refine lv_iload hx hb dX2_end_84 (lv_at hl 0 rfl) ?_
        refine li_if_eq (tgt := 94) hx hb (by unfold iR; omega) dX2_end_86 (by decide) (fun _ => ?_) (fun h => absurd (by decide) h)
        refine lv_iload_n hx hb dX2_end_94 rfl (lv_at hl 5 rfl) ?_
        refine li_if_eq (tgt := 106) hx hb (by unfold iR; omega) dX2_end_95 (by decide) (fun h => absurd h (by decide)) (fun _ => ?_)
        refine lv_iload hx hb dX2_end_98 (lv_at hl 1 rfl) ?_
        refine lv_iload hx hb dX2_end_100 (lv_at hl 6 rfl) ?_
        refine li_iadd hx hb dX2_end_102 ?_
        refine lv_goto (tgt := 111) hx hb dX2_end_103 (by decide) ?_
        refine be_i hx hb hr hlocks ?_ dX2_end_111
        (have hmv : mvd τ p a = 0 := by unfold mvd; first | (rw [if_pos (by omega)]) | (rw [if_neg (by omega)])); (unfold mE; rw [eff_7, eff_8, hmv]; first | (rw [zI_t (show acr (eff τ) p a from ⟨by show 0 ≤ τ 5 p 0; omega, by show τ 5 p 0 ≠ a; omega⟩)]) | (rw [zI_f (fun q => by have q1 : 0 ≤ τ 5 p 0 := q.1; have q2 : τ 5 p 0 ≠ a := q.2; omega)])); simp
      · refine lv_aload_n hx hb dX2_end_67 rfl (lv_at hl 1 rfl) ?_
        refine bg_X2_axes hx hb hts hinX2 hown hK hU (hts (.fieldLink RX2 20 "ClashBoxesModel" "axes" "[I") (by decide +kernel)) dX2_end_68 ?_
        refine lv_iload_n hx hb dX2_end_71 rfl (lv_at hl 2 rfl) ?_
        refine bl_11 hx hb hK hU (by omega) (by omega) dX2_end_72 ?_
        have b24 := bB5 hBt hqp
        refine lv_iload_n hx hb dX2_end_73 rfl (lv_at hl 3 rfl) ?_
        refine li_icmp_eq (tgt := 81) hx hb (by unfold iR; omega) (by unfold iR; omega) dX2_end_74 (by decide) (fun h25 => ?_) (fun h25 => ?_)
        · refine li_iconst hx hb dX2_end_81 ?_
          refine lv_istore (lv' := [(6, .int (iI 0)), (5, .int (iI ((τ 8 p a) + 0))), (0, .ref (ad 7 0)), (1, .int (iI p)), (2, .int (iI a)), (3, .int (iI 1)), (4, .int (iI gr))]) hx hb dX2_end_82 hl (by decide) rfl (fun ls hl => ?_)
          refine lv_iload hx hb dX2_end_84 (lv_at hl 0 rfl) ?_
          refine li_if_eq (tgt := 94) hx hb (by unfold iR; omega) dX2_end_86 (by decide) (fun _ => ?_) (fun h => absurd (by decide) h)
          refine lv_iload_n hx hb dX2_end_94 rfl (lv_at hl 5 rfl) ?_
          refine li_if_eq (tgt := 106) hx hb (by unfold iR; omega) dX2_end_95 (by decide) (fun h => absurd h (by decide)) (fun _ => ?_)
          refine lv_iload hx hb dX2_end_98 (lv_at hl 1 rfl) ?_
          refine lv_iload hx hb dX2_end_100 (lv_at hl 6 rfl) ?_
          refine li_iadd hx hb dX2_end_102 ?_
          refine lv_goto (tgt := 111) hx hb dX2_end_103 (by decide) ?_
          refine be_i hx hb hr hlocks ?_ dX2_end_111
          (have hmv : mvd τ p a = 0 := by unfold mvd; first | (rw [if_pos (by omega)]) | (rw [if_neg (by omega)])); (unfold mE; rw [eff_7, eff_8, hmv]; first | (rw [zI_t (show acr (eff τ) p a from ⟨by show 0 ≤ τ 5 p 0; omega, by show τ 5 p 0 ≠ a; omega⟩)]) | (rw [zI_f (fun q => by have q1 : 0 ≤ τ 5 p 0 := q.1; have q2 : τ 5 p 0 ≠ a := q.2; omega)])); simp
        · refine li_iconst hx hb dX2_end_77 ?_
          refine lv_goto (tgt := 82) hx hb dX2_end_78 (by decide) ?_
          refine lv_istore (lv' := [(6, .int (iI 1)), (5, .int (iI ((τ 8 p a) + 0))), (0, .ref (ad 7 0)), (1, .int (iI p)), (2, .int (iI a)), (3, .int (iI 1)), (4, .int (iI gr))]) hx hb dX2_end_82 hl (by decide) rfl (fun ls hl => ?_)
          refine lv_iload hx hb dX2_end_84 (lv_at hl 0 rfl) ?_
          refine li_if_eq (tgt := 94) hx hb (by unfold iR; omega) dX2_end_86 (by decide) (fun h => absurd h (by decide)) (fun _ => ?_)
          refine lv_iload hx hb dX2_end_89 (lv_at hl 1 rfl) ?_
          refine lv_goto (tgt := 111) hx hb dX2_end_91 (by decide) ?_
          refine be_i hx hb hr hlocks ?_ dX2_end_111
          (have hmv : mvd τ p a = 0 := by unfold mvd; first | (rw [if_pos (by omega)]) | (rw [if_neg (by omega)])); (unfold mE; rw [eff_7, eff_8, hmv]; first | (rw [zI_t (show acr (eff τ) p a from ⟨by show 0 ≤ τ 5 p 0; omega, by show τ 5 p 0 ≠ a; omega⟩)]) | (rw [zI_f (fun q => by have q1 : 0 ≤ τ 5 p 0 := q.1; have q2 : τ 5 p 0 ≠ a := q.2; omega)])); simp
    · refine lv_iload_n hx hb dX2_end_39 rfl (lv_at hl 3 rfl) ?_
      refine lv_aload_n hx hb dX2_end_40 rfl (lv_at hl 1 rfl) ?_
      refine bg_X2_movedAxis hx hb hts hinX2 hown hK hU (hts (.fieldLink RX2 80 "ClashBoxesModel" "movedAxis" "I") (by decide +kernel)) dX2_end_41 ?_
      refine li_icmp_ne (tgt := 54) hx hb (by unfold iR; omega) (by unfold iR; omega) dX2_end_44 (by decide) (fun h27 => ?_) (fun h27 => ?_)
      · refine li_iconst hx hb dX2_end_54 ?_
        refine li_iadd hx hb dX2_end_55 ?_
        refine lv_istore (lv' := [(5, .int (iI ((τ 8 p a) + 0))), (0, .ref (ad 7 0)), (1, .int (iI p)), (2, .int (iI a)), (3, .int (iI 1)), (4, .int (iI gr))]) hx hb dX2_end_56 hl (by decide) rfl (fun ls hl => ?_)
        refine lv_aload_n hx hb dX2_end_58 rfl (lv_at hl 1 rfl) ?_
        refine bg_X2_axes hx hb hts hinX2 hown hK hU (hts (.fieldLink RX2 20 "ClashBoxesModel" "axes" "[I") (by decide +kernel)) dX2_end_59 ?_
        refine lv_iload_n hx hb dX2_end_62 rfl (lv_at hl 2 rfl) ?_
        refine bl_11 hx hb hK hU (by omega) (by omega) dX2_end_63 ?_
        have b28 := bB5 hBt hqp
        refine li_if_lt (tgt := 81) hx hb (by unfold iR; omega) dX2_end_64 (by decide) (fun h29 => ?_) (fun h29 => ?_)
        · refine li_iconst hx hb dX2_end_81 ?_
          refine lv_istore (lv' := [(6, .int (iI 0)), (5, .int (iI ((τ 8 p a) + 0))), (0, .ref (ad 7 0)), (1, .int (iI p)), (2, .int (iI a)), (3, .int (iI 1)), (4, .int (iI gr))]) hx hb dX2_end_82 hl (by decide) rfl (fun ls hl => ?_)
          refine lv_iload hx hb dX2_end_84 (lv_at hl 0 rfl) ?_
          refine li_if_eq (tgt := 94) hx hb (by unfold iR; omega) dX2_end_86 (by decide) (fun _ => ?_) (fun h => absurd (by decide) h)
          refine lv_iload_n hx hb dX2_end_94 rfl (lv_at hl 5 rfl) ?_
          refine li_if_eq (tgt := 106) hx hb (by unfold iR; omega) dX2_end_95 (by decide) (fun h => absurd h (by decide)) (fun _ => ?_)
          refine lv_iload hx hb dX2_end_98 (lv_at hl 1 rfl) ?_
          refine lv_iload hx hb dX2_end_100 (lv_at hl 6 rfl) ?_
          refine li_iadd hx hb dX2_end_102 ?_
          refine lv_goto (tgt := 111) hx hb dX2_end_103 (by decide) ?_
          refine be_i hx hb hr hlocks ?_ dX2_end_111
          (have hmv : mvd τ p a = 0 := by unfold mvd; first | (rw [if_pos (by omega)]) | (rw [if_neg (by omega)])); (unfold mE; rw [eff_7, eff_8, hmv]; first | (rw [zI_t (show acr (eff τ) p a from ⟨by show 0 ≤ τ 5 p 0; omega, by show τ 5 p 0 ≠ a; omega⟩)]) | (rw [zI_f (fun q => by have q1 : 0 ≤ τ 5 p 0 := q.1; have q2 : τ 5 p 0 ≠ a := q.2; omega)])); simp
        · refine lv_aload_n hx hb dX2_end_67 rfl (lv_at hl 1 rfl) ?_
          refine bg_X2_axes hx hb hts hinX2 hown hK hU (hts (.fieldLink RX2 20 "ClashBoxesModel" "axes" "[I") (by decide +kernel)) dX2_end_68 ?_
          refine lv_iload_n hx hb dX2_end_71 rfl (lv_at hl 2 rfl) ?_
          refine bl_11 hx hb hK hU (by omega) (by omega) dX2_end_72 ?_
          have b30 := bB5 hBt hqp
          refine lv_iload_n hx hb dX2_end_73 rfl (lv_at hl 3 rfl) ?_
          refine li_icmp_eq (tgt := 81) hx hb (by unfold iR; omega) (by unfold iR; omega) dX2_end_74 (by decide) (fun h31 => ?_) (fun h31 => ?_)
          · refine li_iconst hx hb dX2_end_81 ?_
            refine lv_istore (lv' := [(6, .int (iI 0)), (5, .int (iI ((τ 8 p a) + 0))), (0, .ref (ad 7 0)), (1, .int (iI p)), (2, .int (iI a)), (3, .int (iI 1)), (4, .int (iI gr))]) hx hb dX2_end_82 hl (by decide) rfl (fun ls hl => ?_)
            refine lv_iload hx hb dX2_end_84 (lv_at hl 0 rfl) ?_
            refine li_if_eq (tgt := 94) hx hb (by unfold iR; omega) dX2_end_86 (by decide) (fun _ => ?_) (fun h => absurd (by decide) h)
            refine lv_iload_n hx hb dX2_end_94 rfl (lv_at hl 5 rfl) ?_
            refine li_if_eq (tgt := 106) hx hb (by unfold iR; omega) dX2_end_95 (by decide) (fun h => absurd h (by decide)) (fun _ => ?_)
            refine lv_iload hx hb dX2_end_98 (lv_at hl 1 rfl) ?_
            refine lv_iload hx hb dX2_end_100 (lv_at hl 6 rfl) ?_
            refine li_iadd hx hb dX2_end_102 ?_
            refine lv_goto (tgt := 111) hx hb dX2_end_103 (by decide) ?_
            refine be_i hx hb hr hlocks ?_ dX2_end_111
            (have hmv : mvd τ p a = 0 := by unfold mvd; first | (rw [if_pos (by omega)]) | (rw [if_neg (by omega)])); (unfold mE; rw [eff_7, eff_8, hmv]; first | (rw [zI_t (show acr (eff τ) p a from ⟨by show 0 ≤ τ 5 p 0; omega, by show τ 5 p 0 ≠ a; omega⟩)]) | (rw [zI_f (fun q => by have q1 : 0 ≤ τ 5 p 0 := q.1; have q2 : τ 5 p 0 ≠ a := q.2; omega)])); simp
          · refine li_iconst hx hb dX2_end_77 ?_
            refine lv_goto (tgt := 82) hx hb dX2_end_78 (by decide) ?_
            refine lv_istore (lv' := [(6, .int (iI 1)), (5, .int (iI ((τ 8 p a) + 0))), (0, .ref (ad 7 0)), (1, .int (iI p)), (2, .int (iI a)), (3, .int (iI 1)), (4, .int (iI gr))]) hx hb dX2_end_82 hl (by decide) rfl (fun ls hl => ?_)
            refine lv_iload hx hb dX2_end_84 (lv_at hl 0 rfl) ?_
            refine li_if_eq (tgt := 94) hx hb (by unfold iR; omega) dX2_end_86 (by decide) (fun h => absurd h (by decide)) (fun _ => ?_)
            refine lv_iload hx hb dX2_end_89 (lv_at hl 1 rfl) ?_
            refine lv_goto (tgt := 111) hx hb dX2_end_91 (by decide) ?_
            refine be_i hx hb hr hlocks ?_ dX2_end_111
            (have hmv : mvd τ p a = 0 := by unfold mvd; first | (rw [if_pos (by omega)]) | (rw [if_neg (by omega)])); (unfold mE; rw [eff_7, eff_8, hmv]; first | (rw [zI_t (show acr (eff τ) p a from ⟨by show 0 ≤ τ 5 p 0; omega, by show τ 5 p 0 ≠ a; omega⟩)]) | (rw [zI_f (fun q => by have q1 : 0 ≤ τ 5 p 0 := q.1; have q2 : τ 5 p 0 ≠ a := q.2; omega)])); simp
      · refine lv_aload_n hx hb dX2_end_47 rfl (lv_at hl 1 rfl) ?_
        refine bg_X2_movedBy hx hb hts hinX2 hown hK hU (hts (.fieldLink RX2 83 "ClashBoxesModel" "movedBy" "I") (by decide +kernel)) dX2_end_48 ?_
        refine lv_goto (tgt := 55) hx hb dX2_end_51 (by decide) ?_
        refine li_iadd hx hb dX2_end_55 ?_
        refine lv_istore (lv' := [(5, .int (iI ((τ 8 p a) + (τ 17 0 0)))), (0, .ref (ad 7 0)), (1, .int (iI p)), (2, .int (iI a)), (3, .int (iI 1)), (4, .int (iI gr))]) hx hb dX2_end_56 hl (by decide) rfl (fun ls hl => ?_)
        refine lv_aload_n hx hb dX2_end_58 rfl (lv_at hl 1 rfl) ?_
        refine bg_X2_axes hx hb hts hinX2 hown hK hU (hts (.fieldLink RX2 20 "ClashBoxesModel" "axes" "[I") (by decide +kernel)) dX2_end_59 ?_
        refine lv_iload_n hx hb dX2_end_62 rfl (lv_at hl 2 rfl) ?_
        refine bl_11 hx hb hK hU (by omega) (by omega) dX2_end_63 ?_
        have b33 := bB5 hBt hqp
        refine li_if_lt (tgt := 81) hx hb (by unfold iR; omega) dX2_end_64 (by decide) (fun h34 => ?_) (fun h34 => ?_)
        · refine li_iconst hx hb dX2_end_81 ?_
          refine lv_istore (lv' := [(6, .int (iI 0)), (5, .int (iI ((τ 8 p a) + (τ 17 0 0)))), (0, .ref (ad 7 0)), (1, .int (iI p)), (2, .int (iI a)), (3, .int (iI 1)), (4, .int (iI gr))]) hx hb dX2_end_82 hl (by decide) rfl (fun ls hl => ?_)
          refine lv_iload hx hb dX2_end_84 (lv_at hl 0 rfl) ?_
          refine li_if_eq (tgt := 94) hx hb (by unfold iR; omega) dX2_end_86 (by decide) (fun _ => ?_) (fun h => absurd (by decide) h)
          refine lv_iload_n hx hb dX2_end_94 rfl (lv_at hl 5 rfl) ?_
          refine li_if_eq (tgt := 106) hx hb (by unfold iR; omega) dX2_end_95 (by decide) (fun h => absurd h (by decide)) (fun _ => ?_)
          refine lv_iload hx hb dX2_end_98 (lv_at hl 1 rfl) ?_
          refine lv_iload hx hb dX2_end_100 (lv_at hl 6 rfl) ?_
          refine li_iadd hx hb dX2_end_102 ?_
          refine lv_goto (tgt := 111) hx hb dX2_end_103 (by decide) ?_
          refine be_i hx hb hr hlocks ?_ dX2_end_111
          (have hmv : mvd τ p a = τ 17 0 0 := by unfold mvd; first | (rw [if_pos (by omega)]) | (rw [if_neg (by omega)])); (unfold mE; rw [eff_7, eff_8, hmv]; first | (rw [zI_t (show acr (eff τ) p a from ⟨by show 0 ≤ τ 5 p 0; omega, by show τ 5 p 0 ≠ a; omega⟩)]) | (rw [zI_f (fun q => by have q1 : 0 ≤ τ 5 p 0 := q.1; have q2 : τ 5 p 0 ≠ a := q.2; omega)])); simp
        · refine lv_aload_n hx hb dX2_end_67 rfl (lv_at hl 1 rfl) ?_
          refine bg_X2_axes hx hb hts hinX2 hown hK hU (hts (.fieldLink RX2 20 "ClashBoxesModel" "axes" "[I") (by decide +kernel)) dX2_end_68 ?_
          refine lv_iload_n hx hb dX2_end_71 rfl (lv_at hl 2 rfl) ?_
          refine bl_11 hx hb hK hU (by omega) (by omega) dX2_end_72 ?_
          have b35 := bB5 hBt hqp
          refine lv_iload_n hx hb dX2_end_73 rfl (lv_at hl 3 rfl) ?_
          refine li_icmp_eq (tgt := 81) hx hb (by unfold iR; omega) (by unfold iR; omega) dX2_end_74 (by decide) (fun h36 => ?_) (fun h36 => ?_)
          · refine li_iconst hx hb dX2_end_81 ?_
            refine lv_istore (lv' := [(6, .int (iI 0)), (5, .int (iI ((τ 8 p a) + (τ 17 0 0)))), (0, .ref (ad 7 0)), (1, .int (iI p)), (2, .int (iI a)), (3, .int (iI 1)), (4, .int (iI gr))]) hx hb dX2_end_82 hl (by decide) rfl (fun ls hl => ?_)
            refine lv_iload hx hb dX2_end_84 (lv_at hl 0 rfl) ?_
            refine li_if_eq (tgt := 94) hx hb (by unfold iR; omega) dX2_end_86 (by decide) (fun _ => ?_) (fun h => absurd (by decide) h)
            refine lv_iload_n hx hb dX2_end_94 rfl (lv_at hl 5 rfl) ?_
            refine li_if_eq (tgt := 106) hx hb (by unfold iR; omega) dX2_end_95 (by decide) (fun h => absurd h (by decide)) (fun _ => ?_)
            refine lv_iload hx hb dX2_end_98 (lv_at hl 1 rfl) ?_
            refine lv_iload hx hb dX2_end_100 (lv_at hl 6 rfl) ?_
            refine li_iadd hx hb dX2_end_102 ?_
            refine lv_goto (tgt := 111) hx hb dX2_end_103 (by decide) ?_
            refine be_i hx hb hr hlocks ?_ dX2_end_111
            (have hmv : mvd τ p a = τ 17 0 0 := by unfold mvd; first | (rw [if_pos (by omega)]) | (rw [if_neg (by omega)])); (unfold mE; rw [eff_7, eff_8, hmv]; first | (rw [zI_t (show acr (eff τ) p a from ⟨by show 0 ≤ τ 5 p 0; omega, by show τ 5 p 0 ≠ a; omega⟩)]) | (rw [zI_f (fun q => by have q1 : 0 ≤ τ 5 p 0 := q.1; have q2 : τ 5 p 0 ≠ a := q.2; omega)])); simp
          · refine li_iconst hx hb dX2_end_77 ?_
            refine lv_goto (tgt := 82) hx hb dX2_end_78 (by decide) ?_
            refine lv_istore (lv' := [(6, .int (iI 1)), (5, .int (iI ((τ 8 p a) + (τ 17 0 0)))), (0, .ref (ad 7 0)), (1, .int (iI p)), (2, .int (iI a)), (3, .int (iI 1)), (4, .int (iI gr))]) hx hb dX2_end_82 hl (by decide) rfl (fun ls hl => ?_)
            refine lv_iload hx hb dX2_end_84 (lv_at hl 0 rfl) ?_
            refine li_if_eq (tgt := 94) hx hb (by unfold iR; omega) dX2_end_86 (by decide) (fun h => absurd h (by decide)) (fun _ => ?_)
            refine lv_iload hx hb dX2_end_89 (lv_at hl 1 rfl) ?_
            refine lv_goto (tgt := 111) hx hb dX2_end_91 (by decide) ?_
            refine be_i hx hb hr hlocks ?_ dX2_end_111
            (have hmv : mvd τ p a = τ 17 0 0 := by unfold mvd; first | (rw [if_pos (by omega)]) | (rw [if_neg (by omega)])); (unfold mE; rw [eff_7, eff_8, hmv]; first | (rw [zI_t (show acr (eff τ) p a from ⟨by show 0 ≤ τ 5 p 0; omega, by show τ 5 p 0 ≠ a; omega⟩)]) | (rw [zI_f (fun q => by have q1 : 0 ≤ τ 5 p 0 := q.1; have q2 : τ 5 p 0 ≠ a := q.2; omega)])); simp

set_option maxHeartbeats 4000000 in
set_option maxRecDepth 100000 in
theorem c_X2_hullEnd (l : Launch) (g : bxG) (ad : bxA) (σ τ : bxS) (w : bxW) (p a hi gr : Int) (hqp : 0 ≤ p ∧ p < 60 ∧ τ 2 p 0 ≠ 0) (hBt : bx_B τ) (hM : bx_M τ) (hxa : 0 ≤ a ∧ a < 3) (hhhi : hi = 0 ∨ hi = 1) (hggr : 0 ≤ gr ∧ gr ≤ 50) : Met l yX2_hullEnd wsX2_hullEnd ({ frames := 1, cells := 0, slots := 0, locals := 26 }) (va_Pc [.ref (ad 7 0), .int (iI p), .int (iI a), .int (iI hi), .int (iI gr)] (fun U => bx_I g ad σ τ w U)) (k2_QcV (.int (iI (mH (eff τ) p a hi gr)))) 0 0 (fun _ => False) := by
  refine Met.ofW (cc := cX2_hullEnd) (maxL := 8) (ret := (some .int)) (by decide) rfl ?_
  intro Pg Ev s mI args below meth cd s₁ B hml hv
  obtain ⟨rfl, hU, hK⟩ := hv
  have hx := B.exec
  have hb := B.bytes
  have hr := B.returns
  have hts := atoms_spec (ws := wsX2_hullEnd) B.pre
  have hown : s.vm.findClass RX2 = some mI.cls := findClass_of_methodNamed B.named
  have hlocks := B.notSynchronized
  have hl := lv_entry ([.ref (ad 7 0), .int (iI p), .int (iI a), .int (iI hi), .int (iI gr)]) (n := 8) (Nat.le_of_ble_eq_true rfl)
  rw [lg_entry_eq]
  generalize (lg_sl ([.ref (ad 7 0), .int (iI p), .int (iI a), .int (iI hi), .int (iI gr)]) ++ List.replicate (8 - (lg_sl ([.ref (ad 7 0), .int (iI p), .int (iI a), .int (iI hi), .int (iI gr)])).length) Slot.unset).toArray = ls at hl ⊢
  have hl : lv_has ls 8 [(0, .ref (ad 7 0)), (1, .int (iI p)), (2, .int (iI a)), (3, .int (iI hi)), (4, .int (iI gr))] := hl
  have hinX2 : ∀ w ∈ wsX20, w ∈ wsX2_hullEnd := by decide +kernel
  rcases (by omega : hi = 0 ∨ hi = 1) with rfl | rfl
  · refine lv_aload_n hx hb dX2_hullEnd_0 rfl (lv_at hl 0 rfl) ?_
    refine lv_iload_n hx hb dX2_hullEnd_1 rfl (lv_at hl 1 rfl) ?_
    refine lv_iload_n hx hb dX2_hullEnd_2 rfl (lv_at hl 2 rfl) ?_
    refine lv_iload_n hx hb dX2_hullEnd_3 rfl (lv_at hl 3 rfl) ?_
    refine lv_iload hx hb dX2_hullEnd_4 (lv_at hl 4 rfl) ?_
    refine bc_V (As := [.int (iI p), .int (iI a), .int (iI 0), .int (iI gr)]) (rest := []) (kd := 7) (k := 0) (ci := 2) ⟨hx, hb, hml, hown, hts⟩ (c_X2_end l g ad σ τ w p a 0 gr hqp hBt hM (by omega) (by omega) (by omega)) (cwV 4 hts gX2_hullEnd_X2_end rfl rfl rfl (by decide +kernel) ⟨Nat.le_of_ble_eq_true rfl, Nat.le_of_ble_eq_true rfl⟩) hK hU (bx_L0 (by omega)) rfl rfl rfl hl.1 rfl (Nat.le_of_ble_eq_true rfl) dX2_hullEnd_6 ⟨Nat.zero_le _, Nat.zero_le _⟩ ?_
    have h1 := mE_bd hBt hM hqp (a := a) (hi := 0) (gr := gr) (by omega) (by omega) (by omega)
    refine lv_istore (lv' := [(5, .int (iI (mE (eff τ) p a 0 gr))), (0, .ref (ad 7 0)), (1, .int (iI p)), (2, .int (iI a)), (3, .int (iI 0)), (4, .int (iI gr))]) hx hb dX2_hullEnd_9 hl (by decide) rfl (fun ls hl => ?_)
    refine lv_aload_n hx hb dX2_hullEnd_11 rfl (lv_at hl 1 rfl) ?_
    refine bg_X2_axes hx hb hts hinX2 hown hK hU (hts (.fieldLink RX2 20 "ClashBoxesModel" "axes" "[I") (by decide +kernel)) dX2_hullEnd_12 ?_
    refine lv_iload_n hx hb dX2_hullEnd_15 rfl (lv_at hl 2 rfl) ?_
    refine bl_11 hx hb hK hU (by omega) (by omega) dX2_hullEnd_16 ?_
    have b2 := bB5 hBt hqp
    refine li_if_lt (tgt := 34) hx hb (by unfold iR; omega) dX2_hullEnd_17 (by decide) (fun h3 => ?_) (fun h3 => ?_)
    · refine li_iconst hx hb dX2_hullEnd_34 ?_
      refine lv_istore (lv' := [(6, .int (iI 0)), (5, .int (iI (mE (eff τ) p a 0 gr))), (0, .ref (ad 7 0)), (1, .int (iI p)), (2, .int (iI a)), (3, .int (iI 0)), (4, .int (iI gr))]) hx hb dX2_hullEnd_35 hl (by decide) rfl (fun ls hl => ?_)
      refine lv_aload_n hx hb dX2_hullEnd_37 rfl (lv_at hl 2 rfl) ?_
      refine bg_X2_radii hx hb hts hinX2 hown hK hU (hts (.fieldLink RX2 23 "ClashBoxesModel" "radii" "[I") (by decide +kernel)) dX2_hullEnd_38 ?_
      refine lv_iload_n hx hb dX2_hullEnd_41 rfl (lv_at hl 3 rfl) ?_
      refine bl_12 hx hb hK hU (by omega) (by omega) dX2_hullEnd_42 ?_
      have b4 := bB6 hBt hqp
      refine lv_iload hx hb dX2_hullEnd_43 (lv_at hl 6 rfl) ?_
      refine li_iadd hx hb dX2_hullEnd_45 ?_
      refine lv_istore (lv' := [(7, .int (iI ((τ 6 p 0) + gr))), (6, .int (iI 0)), (5, .int (iI (mE (eff τ) p a 0 gr))), (0, .ref (ad 7 0)), (1, .int (iI p)), (2, .int (iI a)), (3, .int (iI 0)), (4, .int (iI gr))]) hx hb dX2_hullEnd_46 hl (by decide) rfl (fun ls hl => ?_)
      refine lv_iload hx hb dX2_hullEnd_48 (lv_at hl 1 rfl) ?_
      refine li_if_eq (tgt := 73) hx hb (by unfold iR; omega) dX2_hullEnd_50 (by decide) (fun _ => ?_) (fun h => absurd (by decide) h)
      refine lv_iload hx hb dX2_hullEnd_73 (lv_at hl 2 rfl) ?_
      refine be_i hx hb hr hlocks ?_ dX2_hullEnd_75
      unfold mH mE; first | (rw [zI_t (show acr (eff τ) p a from ⟨by show 0 ≤ τ 5 p 0; omega, by show τ 5 p 0 ≠ a; omega⟩), zI_t (show acr (eff τ) p a from ⟨by show 0 ≤ τ 5 p 0; omega, by show τ 5 p 0 ≠ a; omega⟩)]; rfl) | (rw [zI_f (fun q => by have q1 : 0 ≤ τ 5 p 0 := q.1; have q2 : τ 5 p 0 ≠ a := q.2; omega), zI_f (fun q => by have q1 : 0 ≤ τ 5 p 0 := q.1; have q2 : τ 5 p 0 ≠ a := q.2; omega)])
    · refine lv_aload_n hx hb dX2_hullEnd_20 rfl (lv_at hl 1 rfl) ?_
      refine bg_X2_axes hx hb hts hinX2 hown hK hU (hts (.fieldLink RX2 20 "ClashBoxesModel" "axes" "[I") (by decide +kernel)) dX2_hullEnd_21 ?_
      refine lv_iload_n hx hb dX2_hullEnd_24 rfl (lv_at hl 2 rfl) ?_
      refine bl_11 hx hb hK hU (by omega) (by omega) dX2_hullEnd_25 ?_
      have b5 := bB5 hBt hqp
      refine lv_iload_n hx hb dX2_hullEnd_26 rfl (lv_at hl 3 rfl) ?_
      refine li_icmp_eq (tgt := 34) hx hb (by unfold iR; omega) (by unfold iR; omega) dX2_hullEnd_27 (by decide) (fun h6 => ?_) (fun h6 => ?_)
      · refine li_iconst hx hb dX2_hullEnd_34 ?_
        refine lv_istore (lv' := [(6, .int (iI 0)), (5, .int (iI (mE (eff τ) p a 0 gr))), (0, .ref (ad 7 0)), (1, .int (iI p)), (2, .int (iI a)), (3, .int (iI 0)), (4, .int (iI gr))]) hx hb dX2_hullEnd_35 hl (by decide) rfl (fun ls hl => ?_)
        refine lv_aload_n hx hb dX2_hullEnd_37 rfl (lv_at hl 2 rfl) ?_
        refine bg_X2_radii hx hb hts hinX2 hown hK hU (hts (.fieldLink RX2 23 "ClashBoxesModel" "radii" "[I") (by decide +kernel)) dX2_hullEnd_38 ?_
        refine lv_iload_n hx hb dX2_hullEnd_41 rfl (lv_at hl 3 rfl) ?_
        refine bl_12 hx hb hK hU (by omega) (by omega) dX2_hullEnd_42 ?_
        have b7 := bB6 hBt hqp
        refine lv_iload hx hb dX2_hullEnd_43 (lv_at hl 6 rfl) ?_
        refine li_iadd hx hb dX2_hullEnd_45 ?_
        refine lv_istore (lv' := [(7, .int (iI ((τ 6 p 0) + gr))), (6, .int (iI 0)), (5, .int (iI (mE (eff τ) p a 0 gr))), (0, .ref (ad 7 0)), (1, .int (iI p)), (2, .int (iI a)), (3, .int (iI 0)), (4, .int (iI gr))]) hx hb dX2_hullEnd_46 hl (by decide) rfl (fun ls hl => ?_)
        refine lv_iload hx hb dX2_hullEnd_48 (lv_at hl 1 rfl) ?_
        refine li_if_eq (tgt := 73) hx hb (by unfold iR; omega) dX2_hullEnd_50 (by decide) (fun _ => ?_) (fun h => absurd (by decide) h)
        refine lv_iload hx hb dX2_hullEnd_73 (lv_at hl 2 rfl) ?_
        refine be_i hx hb hr hlocks ?_ dX2_hullEnd_75
        unfold mH mE; first | (rw [zI_t (show acr (eff τ) p a from ⟨by show 0 ≤ τ 5 p 0; omega, by show τ 5 p 0 ≠ a; omega⟩), zI_t (show acr (eff τ) p a from ⟨by show 0 ≤ τ 5 p 0; omega, by show τ 5 p 0 ≠ a; omega⟩)]; rfl) | (rw [zI_f (fun q => by have q1 : 0 ≤ τ 5 p 0 := q.1; have q2 : τ 5 p 0 ≠ a := q.2; omega), zI_f (fun q => by have q1 : 0 ≤ τ 5 p 0 := q.1; have q2 : τ 5 p 0 ≠ a := q.2; omega)])
      · refine li_iconst hx hb dX2_hullEnd_30 ?_
        refine lv_goto (tgt := 35) hx hb dX2_hullEnd_31 (by decide) ?_
        refine lv_istore (lv' := [(6, .int (iI 1)), (5, .int (iI (mE (eff τ) p a 0 gr))), (0, .ref (ad 7 0)), (1, .int (iI p)), (2, .int (iI a)), (3, .int (iI 0)), (4, .int (iI gr))]) hx hb dX2_hullEnd_35 hl (by decide) rfl (fun ls hl => ?_)
        refine lv_aload_n hx hb dX2_hullEnd_37 rfl (lv_at hl 2 rfl) ?_
        refine bg_X2_radii hx hb hts hinX2 hown hK hU (hts (.fieldLink RX2 23 "ClashBoxesModel" "radii" "[I") (by decide +kernel)) dX2_hullEnd_38 ?_
        refine lv_iload_n hx hb dX2_hullEnd_41 rfl (lv_at hl 3 rfl) ?_
        refine bl_12 hx hb hK hU (by omega) (by omega) dX2_hullEnd_42 ?_
        have b8 := bB6 hBt hqp
        refine lv_iload hx hb dX2_hullEnd_43 (lv_at hl 6 rfl) ?_
        refine li_iadd hx hb dX2_hullEnd_45 ?_
        refine lv_istore (lv' := [(7, .int (iI ((τ 6 p 0) + gr))), (6, .int (iI 1)), (5, .int (iI (mE (eff τ) p a 0 gr))), (0, .ref (ad 7 0)), (1, .int (iI p)), (2, .int (iI a)), (3, .int (iI 0)), (4, .int (iI gr))]) hx hb dX2_hullEnd_46 hl (by decide) rfl (fun ls hl => ?_)
        refine lv_iload hx hb dX2_hullEnd_48 (lv_at hl 1 rfl) ?_
        refine li_if_eq (tgt := 73) hx hb (by unfold iR; omega) dX2_hullEnd_50 (by decide) (fun h => absurd h (by decide)) (fun _ => ?_)
        refine lv_iload_n hx hb dX2_hullEnd_53 rfl (lv_at hl 6 rfl) ?_
        refine li_if_eq (tgt := 65) hx hb (by unfold iR; omega) dX2_hullEnd_54 (by decide) (fun _ => ?_) (fun h => absurd (by decide) h)
        refine lv_iload hx hb dX2_hullEnd_65 (lv_at hl 2 rfl) ?_
        refine lv_iload hx hb dX2_hullEnd_67 (lv_at hl 0 rfl) ?_
        refine li_isub hx hb dX2_hullEnd_69 ?_
        refine lv_goto (tgt := 75) hx hb dX2_hullEnd_70 (by decide) ?_
        refine be_i hx hb hr hlocks ?_ dX2_hullEnd_75
        unfold mH mE; first | (rw [zI_t (show acr (eff τ) p a from ⟨by show 0 ≤ τ 5 p 0; omega, by show τ 5 p 0 ≠ a; omega⟩), zI_t (show acr (eff τ) p a from ⟨by show 0 ≤ τ 5 p 0; omega, by show τ 5 p 0 ≠ a; omega⟩)]; rfl) | (rw [zI_f (fun q => by have q1 : 0 ≤ τ 5 p 0 := q.1; have q2 : τ 5 p 0 ≠ a := q.2; omega), zI_f (fun q => by have q1 : 0 ≤ τ 5 p 0 := q.1; have q2 : τ 5 p 0 ≠ a := q.2; omega)])
  · refine lv_aload_n hx hb dX2_hullEnd_0 rfl (lv_at hl 0 rfl) ?_
    refine lv_iload_n hx hb dX2_hullEnd_1 rfl (lv_at hl 1 rfl) ?_
    refine lv_iload_n hx hb dX2_hullEnd_2 rfl (lv_at hl 2 rfl) ?_
    refine lv_iload_n hx hb dX2_hullEnd_3 rfl (lv_at hl 3 rfl) ?_
    refine lv_iload hx hb dX2_hullEnd_4 (lv_at hl 4 rfl) ?_
    refine bc_V (As := [.int (iI p), .int (iI a), .int (iI 1), .int (iI gr)]) (rest := []) (kd := 7) (k := 0) (ci := 2) ⟨hx, hb, hml, hown, hts⟩ (c_X2_end l g ad σ τ w p a 1 gr hqp hBt hM (by omega) (by omega) (by omega)) (cwV 4 hts gX2_hullEnd_X2_end rfl rfl rfl (by decide +kernel) ⟨Nat.le_of_ble_eq_true rfl, Nat.le_of_ble_eq_true rfl⟩) hK hU (bx_L0 (by omega)) rfl rfl rfl hl.1 rfl (Nat.le_of_ble_eq_true rfl) dX2_hullEnd_6 ⟨Nat.zero_le _, Nat.zero_le _⟩ ?_
    have h9 := mE_bd hBt hM hqp (a := a) (hi := 1) (gr := gr) (by omega) (by omega) (by omega)
    refine lv_istore (lv' := [(5, .int (iI (mE (eff τ) p a 1 gr))), (0, .ref (ad 7 0)), (1, .int (iI p)), (2, .int (iI a)), (3, .int (iI 1)), (4, .int (iI gr))]) hx hb dX2_hullEnd_9 hl (by decide) rfl (fun ls hl => ?_)
    refine lv_aload_n hx hb dX2_hullEnd_11 rfl (lv_at hl 1 rfl) ?_
    refine bg_X2_axes hx hb hts hinX2 hown hK hU (hts (.fieldLink RX2 20 "ClashBoxesModel" "axes" "[I") (by decide +kernel)) dX2_hullEnd_12 ?_
    refine lv_iload_n hx hb dX2_hullEnd_15 rfl (lv_at hl 2 rfl) ?_
    refine bl_11 hx hb hK hU (by omega) (by omega) dX2_hullEnd_16 ?_
    have b10 := bB5 hBt hqp
    refine li_if_lt (tgt := 34) hx hb (by unfold iR; omega) dX2_hullEnd_17 (by decide) (fun h11 => ?_) (fun h11 => ?_)
    · refine li_iconst hx hb dX2_hullEnd_34 ?_
      refine lv_istore (lv' := [(6, .int (iI 0)), (5, .int (iI (mE (eff τ) p a 1 gr))), (0, .ref (ad 7 0)), (1, .int (iI p)), (2, .int (iI a)), (3, .int (iI 1)), (4, .int (iI gr))]) hx hb dX2_hullEnd_35 hl (by decide) rfl (fun ls hl => ?_)
      refine lv_aload_n hx hb dX2_hullEnd_37 rfl (lv_at hl 2 rfl) ?_
      refine bg_X2_radii hx hb hts hinX2 hown hK hU (hts (.fieldLink RX2 23 "ClashBoxesModel" "radii" "[I") (by decide +kernel)) dX2_hullEnd_38 ?_
      refine lv_iload_n hx hb dX2_hullEnd_41 rfl (lv_at hl 3 rfl) ?_
      refine bl_12 hx hb hK hU (by omega) (by omega) dX2_hullEnd_42 ?_
      have b12 := bB6 hBt hqp
      refine lv_iload hx hb dX2_hullEnd_43 (lv_at hl 6 rfl) ?_
      refine li_iadd hx hb dX2_hullEnd_45 ?_
      refine lv_istore (lv' := [(7, .int (iI ((τ 6 p 0) + gr))), (6, .int (iI 0)), (5, .int (iI (mE (eff τ) p a 1 gr))), (0, .ref (ad 7 0)), (1, .int (iI p)), (2, .int (iI a)), (3, .int (iI 1)), (4, .int (iI gr))]) hx hb dX2_hullEnd_46 hl (by decide) rfl (fun ls hl => ?_)
      refine lv_iload hx hb dX2_hullEnd_48 (lv_at hl 1 rfl) ?_
      refine li_if_eq (tgt := 73) hx hb (by unfold iR; omega) dX2_hullEnd_50 (by decide) (fun _ => ?_) (fun h => absurd (by decide) h)
      refine lv_iload hx hb dX2_hullEnd_73 (lv_at hl 2 rfl) ?_
      refine be_i hx hb hr hlocks ?_ dX2_hullEnd_75
      unfold mH mE; first | (rw [zI_t (show acr (eff τ) p a from ⟨by show 0 ≤ τ 5 p 0; omega, by show τ 5 p 0 ≠ a; omega⟩), zI_t (show acr (eff τ) p a from ⟨by show 0 ≤ τ 5 p 0; omega, by show τ 5 p 0 ≠ a; omega⟩)]; rfl) | (rw [zI_f (fun q => by have q1 : 0 ≤ τ 5 p 0 := q.1; have q2 : τ 5 p 0 ≠ a := q.2; omega), zI_f (fun q => by have q1 : 0 ≤ τ 5 p 0 := q.1; have q2 : τ 5 p 0 ≠ a := q.2; omega)])
    · refine lv_aload_n hx hb dX2_hullEnd_20 rfl (lv_at hl 1 rfl) ?_
      refine bg_X2_axes hx hb hts hinX2 hown hK hU (hts (.fieldLink RX2 20 "ClashBoxesModel" "axes" "[I") (by decide +kernel)) dX2_hullEnd_21 ?_
      refine lv_iload_n hx hb dX2_hullEnd_24 rfl (lv_at hl 2 rfl) ?_
      refine bl_11 hx hb hK hU (by omega) (by omega) dX2_hullEnd_25 ?_
      have b13 := bB5 hBt hqp
      refine lv_iload_n hx hb dX2_hullEnd_26 rfl (lv_at hl 3 rfl) ?_
      refine li_icmp_eq (tgt := 34) hx hb (by unfold iR; omega) (by unfold iR; omega) dX2_hullEnd_27 (by decide) (fun h14 => ?_) (fun h14 => ?_)
      · refine li_iconst hx hb dX2_hullEnd_34 ?_
        refine lv_istore (lv' := [(6, .int (iI 0)), (5, .int (iI (mE (eff τ) p a 1 gr))), (0, .ref (ad 7 0)), (1, .int (iI p)), (2, .int (iI a)), (3, .int (iI 1)), (4, .int (iI gr))]) hx hb dX2_hullEnd_35 hl (by decide) rfl (fun ls hl => ?_)
        refine lv_aload_n hx hb dX2_hullEnd_37 rfl (lv_at hl 2 rfl) ?_
        refine bg_X2_radii hx hb hts hinX2 hown hK hU (hts (.fieldLink RX2 23 "ClashBoxesModel" "radii" "[I") (by decide +kernel)) dX2_hullEnd_38 ?_
        refine lv_iload_n hx hb dX2_hullEnd_41 rfl (lv_at hl 3 rfl) ?_
        refine bl_12 hx hb hK hU (by omega) (by omega) dX2_hullEnd_42 ?_
        have b15 := bB6 hBt hqp
        refine lv_iload hx hb dX2_hullEnd_43 (lv_at hl 6 rfl) ?_
        refine li_iadd hx hb dX2_hullEnd_45 ?_
        refine lv_istore (lv' := [(7, .int (iI ((τ 6 p 0) + gr))), (6, .int (iI 0)), (5, .int (iI (mE (eff τ) p a 1 gr))), (0, .ref (ad 7 0)), (1, .int (iI p)), (2, .int (iI a)), (3, .int (iI 1)), (4, .int (iI gr))]) hx hb dX2_hullEnd_46 hl (by decide) rfl (fun ls hl => ?_)
        refine lv_iload hx hb dX2_hullEnd_48 (lv_at hl 1 rfl) ?_
        refine li_if_eq (tgt := 73) hx hb (by unfold iR; omega) dX2_hullEnd_50 (by decide) (fun _ => ?_) (fun h => absurd (by decide) h)
        refine lv_iload hx hb dX2_hullEnd_73 (lv_at hl 2 rfl) ?_
        refine be_i hx hb hr hlocks ?_ dX2_hullEnd_75
        unfold mH mE; first | (rw [zI_t (show acr (eff τ) p a from ⟨by show 0 ≤ τ 5 p 0; omega, by show τ 5 p 0 ≠ a; omega⟩), zI_t (show acr (eff τ) p a from ⟨by show 0 ≤ τ 5 p 0; omega, by show τ 5 p 0 ≠ a; omega⟩)]; rfl) | (rw [zI_f (fun q => by have q1 : 0 ≤ τ 5 p 0 := q.1; have q2 : τ 5 p 0 ≠ a := q.2; omega), zI_f (fun q => by have q1 : 0 ≤ τ 5 p 0 := q.1; have q2 : τ 5 p 0 ≠ a := q.2; omega)])
      · refine li_iconst hx hb dX2_hullEnd_30 ?_
        refine lv_goto (tgt := 35) hx hb dX2_hullEnd_31 (by decide) ?_
        refine lv_istore (lv' := [(6, .int (iI 1)), (5, .int (iI (mE (eff τ) p a 1 gr))), (0, .ref (ad 7 0)), (1, .int (iI p)), (2, .int (iI a)), (3, .int (iI 1)), (4, .int (iI gr))]) hx hb dX2_hullEnd_35 hl (by decide) rfl (fun ls hl => ?_)
        refine lv_aload_n hx hb dX2_hullEnd_37 rfl (lv_at hl 2 rfl) ?_
        refine bg_X2_radii hx hb hts hinX2 hown hK hU (hts (.fieldLink RX2 23 "ClashBoxesModel" "radii" "[I") (by decide +kernel)) dX2_hullEnd_38 ?_
        refine lv_iload_n hx hb dX2_hullEnd_41 rfl (lv_at hl 3 rfl) ?_
        refine bl_12 hx hb hK hU (by omega) (by omega) dX2_hullEnd_42 ?_
        have b16 := bB6 hBt hqp
        refine lv_iload hx hb dX2_hullEnd_43 (lv_at hl 6 rfl) ?_
        refine li_iadd hx hb dX2_hullEnd_45 ?_
        refine lv_istore (lv' := [(7, .int (iI ((τ 6 p 0) + gr))), (6, .int (iI 1)), (5, .int (iI (mE (eff τ) p a 1 gr))), (0, .ref (ad 7 0)), (1, .int (iI p)), (2, .int (iI a)), (3, .int (iI 1)), (4, .int (iI gr))]) hx hb dX2_hullEnd_46 hl (by decide) rfl (fun ls hl => ?_)
        refine lv_iload hx hb dX2_hullEnd_48 (lv_at hl 1 rfl) ?_
        refine li_if_eq (tgt := 73) hx hb (by unfold iR; omega) dX2_hullEnd_50 (by decide) (fun h => absurd h (by decide)) (fun _ => ?_)
        refine lv_iload_n hx hb dX2_hullEnd_53 rfl (lv_at hl 6 rfl) ?_
        refine li_if_eq (tgt := 65) hx hb (by unfold iR; omega) dX2_hullEnd_54 (by decide) (fun h => absurd h (by decide)) (fun _ => ?_)
        refine lv_iload hx hb dX2_hullEnd_57 (lv_at hl 2 rfl) ?_
        refine lv_iload hx hb dX2_hullEnd_59 (lv_at hl 0 rfl) ?_
        refine li_iadd hx hb dX2_hullEnd_61 ?_
        refine lv_goto (tgt := 75) hx hb dX2_hullEnd_62 (by decide) ?_
        refine be_i hx hb hr hlocks ?_ dX2_hullEnd_75
        unfold mH mE; first | (rw [zI_t (show acr (eff τ) p a from ⟨by show 0 ≤ τ 5 p 0; omega, by show τ 5 p 0 ≠ a; omega⟩), zI_t (show acr (eff τ) p a from ⟨by show 0 ≤ τ 5 p 0; omega, by show τ 5 p 0 ≠ a; omega⟩)]; rfl) | (rw [zI_f (fun q => by have q1 : 0 ≤ τ 5 p 0 := q.1; have q2 : τ 5 p 0 ≠ a := q.2; omega), zI_f (fun q => by have q1 : 0 ≤ τ 5 p 0 := q.1; have q2 : τ 5 p 0 ≠ a := q.2; omega)])

set_option maxHeartbeats 4000000 in
set_option maxRecDepth 100000 in
theorem c_X2_off (l : Launch) (g : bxG) (ad : bxA) (σ τ : bxS) (w : bxW) (v f t : Int) (hRv : -3000 ≤ v ∧ v ≤ 3000) (hRf : -3000 ≤ f ∧ f ≤ 3000) (hRt : -3000 ≤ t ∧ t ≤ 3000) : Met l yX2_off wsX2_off ({ frames := 0, cells := 0, slots := 0, locals := 0 }) (va_Pc [.int (iI v), .int (iI f), .int (iI t)] (fun U => bx_I g ad σ τ w U)) (k2_QcV (.int (iI (offv v f t)))) 0 0 (fun _ => False) := by
  refine Met.ofW (cc := cX2_off) (maxL := 3) (ret := (some .int)) (by decide) rfl ?_
  intro Pg Ev s mI args below meth cd s₁ B hml hv
  obtain ⟨rfl, hU, hK⟩ := hv
  have hx := B.exec
  have hb := B.bytes
  have hr := B.returns
  have hts := atoms_spec (ws := wsX2_off) B.pre
  have hown : s.vm.findClass RX2 = some mI.cls := findClass_of_methodNamed B.named
  have hlocks := B.notSynchronized
  have hl := lv_entry ([.int (iI v), .int (iI f), .int (iI t)]) (n := 3) (Nat.le_of_ble_eq_true rfl)
  rw [lg_entry_eq]
  generalize (lg_sl ([.int (iI v), .int (iI f), .int (iI t)]) ++ List.replicate (3 - (lg_sl ([.int (iI v), .int (iI f), .int (iI t)])).length) Slot.unset).toArray = ls at hl ⊢
  have hl : lv_has ls 3 [(0, .int (iI v)), (1, .int (iI f)), (2, .int (iI t))] := hl
  refine lv_iload_n hx hb dX2_off_0 rfl (lv_at hl 0 rfl) ?_
  refine lv_iload_n hx hb dX2_off_1 rfl (lv_at hl 1 rfl) ?_
  refine li_icmp_ge (tgt := 11) hx hb (by unfold iR; omega) (by unfold iR; omega) dX2_off_2 (by decide) (fun h1 => ?_) (fun h1 => ?_)
  · refine lv_iload_n hx hb dX2_off_11 rfl (lv_at hl 0 rfl) ?_
    refine lv_iload_n hx hb dX2_off_12 rfl (lv_at hl 2 rfl) ?_
    refine li_icmp_le (tgt := 22) hx hb (by unfold iR; omega) (by unfold iR; omega) dX2_off_13 (by decide) (fun h2 => ?_) (fun h2 => ?_)
    · refine li_iconst hx hb dX2_off_22 ?_
      refine be_i hx hb hr hlocks ?_ dX2_off_23
      unfold offv; split <;> (try split) <;> omega
    · refine lv_iload_n hx hb dX2_off_16 rfl (lv_at hl 0 rfl) ?_
      refine lv_iload_n hx hb dX2_off_17 rfl (lv_at hl 2 rfl) ?_
      refine li_isub hx hb dX2_off_18 ?_
      refine lv_goto (tgt := 23) hx hb dX2_off_19 (by decide) ?_
      refine be_i hx hb hr hlocks ?_ dX2_off_23
      unfold offv; split <;> (try split) <;> omega
  · refine lv_iload_n hx hb dX2_off_5 rfl (lv_at hl 1 rfl) ?_
    refine lv_iload_n hx hb dX2_off_6 rfl (lv_at hl 0 rfl) ?_
    refine li_isub hx hb dX2_off_7 ?_
    refine lv_goto (tgt := 23) hx hb dX2_off_8 (by decide) ?_
    refine be_i hx hb hr hlocks ?_ dX2_off_23
    unfold offv; split <;> (try split) <;> omega

set_option maxHeartbeats 4000000 in
set_option maxRecDepth 100000 in
theorem c_X2_hullsMeet (l : Launch) (g : bxG) (ad : bxA) (σ τ : bxS) (w : bxW) (p m0 q : Int) (hqp : 0 ≤ p ∧ p < 60 ∧ τ 2 p 0 ≠ 0) (hqq : 0 ≤ q ∧ q < 60 ∧ τ 2 q 0 ≠ 0) (hBt : bx_B τ) (hM : bx_M τ) (hgm0 : 0 ≤ m0 ∧ m0 ≤ 50) : Met l yX2_hullsMeet wsX2_hullsMeet ({ frames := 2, cells := 0, slots := 0, locals := 53 }) (va_Pc [.ref (ad 7 0), .int (iI p), .int (iI m0), .int (iI q)] (fun U => bx_I g ad σ τ w U)) (k2_QcV (.int (iI (zB (hmt (eff τ) p m0 q 0 ∧ hmt (eff τ) p m0 q 1 ∧ hmt (eff τ) p m0 q 2))))) 0 0 (fun _ => False) := by
  refine Met.ofW (cc := cX2_hullsMeet) (maxL := 6) (ret := (some .boolean)) (by decide) rfl ?_
  intro Pg Ev s mI args below meth cd s₁ B hml hv
  obtain ⟨rfl, hU, hK⟩ := hv
  have hx := B.exec
  have hb := B.bytes
  have hr := B.returns
  have hts := atoms_spec (ws := wsX2_hullsMeet) B.pre
  have hown : s.vm.findClass RX2 = some mI.cls := findClass_of_methodNamed B.named
  have hlocks := B.notSynchronized
  have hl := lv_entry ([.ref (ad 7 0), .int (iI p), .int (iI m0), .int (iI q)]) (n := 6) (Nat.le_of_ble_eq_true rfl)
  rw [lg_entry_eq]
  generalize (lg_sl ([.ref (ad 7 0), .int (iI p), .int (iI m0), .int (iI q)]) ++ List.replicate (6 - (lg_sl ([.ref (ad 7 0), .int (iI p), .int (iI m0), .int (iI q)])).length) Slot.unset).toArray = ls at hl ⊢
  have hl : lv_has ls 6 [(0, .ref (ad 7 0)), (1, .int (iI p)), (2, .int (iI m0)), (3, .int (iI q))] := hl
  refine li_iconst hx hb dX2_hullsMeet_0 ?_
  refine lv_istore (lv' := [(4, .int (iI 1)), (0, .ref (ad 7 0)), (1, .int (iI p)), (2, .int (iI m0)), (3, .int (iI q))]) hx hb dX2_hullsMeet_1 hl (by decide) rfl (fun ls hl => ?_)
  refine li_iconst hx hb dX2_hullsMeet_3 ?_
  refine lv_istore (lv' := [(5, .int (iI 0)), (4, .int (iI 1)), (0, .ref (ad 7 0)), (1, .int (iI p)), (2, .int (iI m0)), (3, .int (iI q))]) hx hb dX2_hullsMeet_4 hl (by decide) rfl (fun ls hl => ?_)
  refine lv_iload hx hb dX2_hullsMeet_6 (lv_at hl 0 rfl) ?_
  refine li_iconst hx hb dX2_hullsMeet_8 ?_
  refine li_icmp_ge (tgt := 72) hx hb (by unfold iR; omega) (by unfold iR; omega) dX2_hullsMeet_9 (by decide) (fun h => absurd h (by decide)) (fun _ => ?_)
  refine lv_iload hx hb dX2_hullsMeet_12 (lv_at hl 1 rfl) ?_
  refine li_if_eq (tgt := 63) hx hb (by unfold iR; omega) dX2_hullsMeet_14 (by decide) (fun h => absurd h (by decide)) (fun _ => ?_)
  refine lv_aload_n hx hb dX2_hullsMeet_17 rfl (lv_at hl 2 rfl) ?_
  refine lv_iload_n hx hb dX2_hullsMeet_18 rfl (lv_at hl 3 rfl) ?_
  refine lv_iload hx hb dX2_hullsMeet_19 (lv_at hl 0 rfl) ?_
  refine li_iconst hx hb dX2_hullsMeet_21 ?_
  refine lv_iload_n hx hb dX2_hullsMeet_22 rfl (lv_at hl 4 rfl) ?_
  refine bc_V (As := [.int (iI p), .int (iI 0), .int (iI 0), .int (iI m0)]) (rest := []) (kd := 7) (k := 0) (ci := 2) ⟨hx, hb, hml, hown, hts⟩ (c_X2_hullEnd l g ad σ τ w p 0 0 m0 hqp hBt hM (by omega) (by omega) (by omega)) (cwV 4 hts gX2_hullsMeet_X2_hullEnd rfl rfl rfl (by decide +kernel) ⟨Nat.le_of_ble_eq_true rfl, Nat.le_of_ble_eq_true rfl⟩) hK hU (bx_L0 (by omega)) rfl rfl rfl hl.1 rfl (Nat.le_of_ble_eq_true rfl) dX2_hullsMeet_23 ⟨Nat.zero_le _, Nat.zero_le _⟩ ?_
  have h1 := mH_bd hBt hM hqp (a := 0) (hi := 0) (gr := m0) (by omega) (by omega) (by omega)
  refine lv_aload_n hx hb dX2_hullsMeet_26 rfl (lv_at hl 2 rfl) ?_
  refine lv_iload_n hx hb dX2_hullsMeet_27 rfl (lv_at hl 3 rfl) ?_
  refine lv_iload hx hb dX2_hullsMeet_28 (lv_at hl 0 rfl) ?_
  refine li_iconst hx hb dX2_hullsMeet_30 ?_
  refine lv_iload_n hx hb dX2_hullsMeet_31 rfl (lv_at hl 4 rfl) ?_
  refine bc_V (As := [.int (iI p), .int (iI 0), .int (iI 1), .int (iI m0)]) (rest := [.int (iI (mH (eff τ) p 0 0 m0))]) (kd := 7) (k := 0) (ci := 2) ⟨hx, hb, hml, hown, hts⟩ (c_X2_hullEnd l g ad σ τ w p 0 1 m0 hqp hBt hM (by omega) (by omega) (by omega)) (cwV 4 hts gX2_hullsMeet_X2_hullEnd rfl rfl rfl (by decide +kernel) ⟨Nat.le_of_ble_eq_true rfl, Nat.le_of_ble_eq_true rfl⟩) hK hU (bx_L0 (by omega)) rfl rfl rfl hl.1 rfl (Nat.le_of_ble_eq_true rfl) dX2_hullsMeet_32 ⟨Nat.zero_le _, Nat.zero_le _⟩ ?_
  have h2 := mH_bd hBt hM hqp (a := 0) (hi := 1) (gr := m0) (by omega) (by omega) (by omega)
  refine lv_aload_n hx hb dX2_hullsMeet_35 rfl (lv_at hl 2 rfl) ?_
  refine lv_iload_n hx hb dX2_hullsMeet_36 rfl (lv_at hl 5 rfl) ?_
  refine lv_iload hx hb dX2_hullsMeet_37 (lv_at hl 0 rfl) ?_
  refine li_iconst hx hb dX2_hullsMeet_39 ?_
  refine li_iconst hx hb dX2_hullsMeet_40 ?_
  refine bc_V (As := [.int (iI q), .int (iI 0), .int (iI 0), .int (iI 0)]) (rest := [.int (iI (mH (eff τ) p 0 1 m0)), .int (iI (mH (eff τ) p 0 0 m0))]) (kd := 7) (k := 0) (ci := 2) ⟨hx, hb, hml, hown, hts⟩ (c_X2_hullEnd l g ad σ τ w q 0 0 0 hqq hBt hM (by omega) (by omega) (by omega)) (cwV 4 hts gX2_hullsMeet_X2_hullEnd rfl rfl rfl (by decide +kernel) ⟨Nat.le_of_ble_eq_true rfl, Nat.le_of_ble_eq_true rfl⟩) hK hU (bx_L0 (by omega)) rfl rfl rfl hl.1 rfl (Nat.le_of_ble_eq_true rfl) dX2_hullsMeet_41 ⟨Nat.zero_le _, Nat.zero_le _⟩ ?_
  have h3 := mH_bd hBt hM hqq (a := 0) (hi := 0) (gr := 0) (by omega) (by omega) (by omega)
  refine lv_aload_n hx hb dX2_hullsMeet_44 rfl (lv_at hl 2 rfl) ?_
  refine lv_iload_n hx hb dX2_hullsMeet_45 rfl (lv_at hl 5 rfl) ?_
  refine lv_iload hx hb dX2_hullsMeet_46 (lv_at hl 0 rfl) ?_
  refine li_iconst hx hb dX2_hullsMeet_48 ?_
  refine li_iconst hx hb dX2_hullsMeet_49 ?_
  refine bc_V (As := [.int (iI q), .int (iI 0), .int (iI 1), .int (iI 0)]) (rest := [.int (iI (mH (eff τ) q 0 0 0)), .int (iI (mH (eff τ) p 0 1 m0)), .int (iI (mH (eff τ) p 0 0 m0))]) (kd := 7) (k := 0) (ci := 2) ⟨hx, hb, hml, hown, hts⟩ (c_X2_hullEnd l g ad σ τ w q 0 1 0 hqq hBt hM (by omega) (by omega) (by omega)) (cwV 4 hts gX2_hullsMeet_X2_hullEnd rfl rfl rfl (by decide +kernel) ⟨Nat.le_of_ble_eq_true rfl, Nat.le_of_ble_eq_true rfl⟩) hK hU (bx_L0 (by omega)) rfl rfl rfl hl.1 rfl (Nat.le_of_ble_eq_true rfl) dX2_hullsMeet_50 ⟨Nat.zero_le _, Nat.zero_le _⟩ ?_
  have h4 := mH_bd hBt hM hqq (a := 0) (hi := 1) (gr := 0) (by omega) (by omega) (by omega)
  refine bc_SB (As := [.int (iI (mH (eff τ) p 0 0 m0)), .int (iI (mH (eff τ) p 0 1 m0)), .int (iI (mH (eff τ) q 0 0 0)), .int (iI (mH (eff τ) q 0 1 0))]) (rest := []) ⟨hx, hb, hml, hown, hts⟩ (c_X2_overlaps l g ad σ τ w (mH (eff τ) p 0 0 m0) (mH (eff τ) p 0 1 m0) (mH (eff τ) q 0 0 0) (mH (eff τ) q 0 1 0) (by unfold iR; omega) (by unfold iR; omega) (by unfold iR; omega) (by unfold iR; omega)) (va_cwS 4 hts gX2_hullsMeet_X2_overlaps rfl rfl rfl (by decide +kernel) ⟨Nat.le_of_ble_eq_true rfl, Nat.le_of_ble_eq_true rfl⟩) hK hU  rfl hl.1 rfl (Nat.le_of_ble_eq_true rfl) dX2_hullsMeet_53 ⟨Nat.zero_le _, Nat.zero_le _⟩ (fun h5 => ?_) (fun h5 => ?_)
  · refine li_if_eq (tgt := 63) hx hb (by unfold iR; omega) dX2_hullsMeet_56 (by decide) (fun h => absurd h (by decide)) (fun _ => ?_)
    refine li_iconst hx hb dX2_hullsMeet_59 ?_
    refine lv_goto (tgt := 64) hx hb dX2_hullsMeet_60 (by decide) ?_
    refine lv_istore (lv' := [(4, .int (iI 1)), (5, .int (iI 0)), (0, .ref (ad 7 0)), (1, .int (iI p)), (2, .int (iI m0)), (3, .int (iI q))]) hx hb dX2_hullsMeet_64 hl (by decide) rfl (fun ls hl => ?_)
    refine li_iinc (k0 := 1) (lv' := [(5, .int (iI (0 + 1))), (4, .int (iI 1)), (0, .ref (ad 7 0)), (1, .int (iI p)), (2, .int (iI m0)), (3, .int (iI q))]) hx hb dX2_hullsMeet_66 hl rfl (by decide) rfl (fun ls hl => ?_)
    have hl : lv_has ls 6 [(5, .int (iI 1)), (4, .int (iI 1)), (0, .ref (ad 7 0)), (1, .int (iI p)), (2, .int (iI m0)), (3, .int (iI q))] := hl
    refine lv_goto (tgt := 6) hx hb dX2_hullsMeet_69 (by decide) ?_
    refine lv_iload hx hb dX2_hullsMeet_6 (lv_at hl 0 rfl) ?_
    refine li_iconst hx hb dX2_hullsMeet_8 ?_
    refine li_icmp_ge (tgt := 72) hx hb (by unfold iR; omega) (by unfold iR; omega) dX2_hullsMeet_9 (by decide) (fun h => absurd h (by decide)) (fun _ => ?_)
    refine lv_iload hx hb dX2_hullsMeet_12 (lv_at hl 1 rfl) ?_
    refine li_if_eq (tgt := 63) hx hb (by unfold iR; omega) dX2_hullsMeet_14 (by decide) (fun h => absurd h (by decide)) (fun _ => ?_)
    refine lv_aload_n hx hb dX2_hullsMeet_17 rfl (lv_at hl 2 rfl) ?_
    refine lv_iload_n hx hb dX2_hullsMeet_18 rfl (lv_at hl 3 rfl) ?_
    refine lv_iload hx hb dX2_hullsMeet_19 (lv_at hl 0 rfl) ?_
    refine li_iconst hx hb dX2_hullsMeet_21 ?_
    refine lv_iload_n hx hb dX2_hullsMeet_22 rfl (lv_at hl 4 rfl) ?_
    refine bc_V (As := [.int (iI p), .int (iI 1), .int (iI 0), .int (iI m0)]) (rest := []) (kd := 7) (k := 0) (ci := 2) ⟨hx, hb, hml, hown, hts⟩ (c_X2_hullEnd l g ad σ τ w p 1 0 m0 hqp hBt hM (by omega) (by omega) (by omega)) (cwV 4 hts gX2_hullsMeet_X2_hullEnd rfl rfl rfl (by decide +kernel) ⟨Nat.le_of_ble_eq_true rfl, Nat.le_of_ble_eq_true rfl⟩) hK hU (bx_L0 (by omega)) rfl rfl rfl hl.1 rfl (Nat.le_of_ble_eq_true rfl) dX2_hullsMeet_23 ⟨Nat.zero_le _, Nat.zero_le _⟩ ?_
    have h6 := mH_bd hBt hM hqp (a := 1) (hi := 0) (gr := m0) (by omega) (by omega) (by omega)
    refine lv_aload_n hx hb dX2_hullsMeet_26 rfl (lv_at hl 2 rfl) ?_
    refine lv_iload_n hx hb dX2_hullsMeet_27 rfl (lv_at hl 3 rfl) ?_
    refine lv_iload hx hb dX2_hullsMeet_28 (lv_at hl 0 rfl) ?_
    refine li_iconst hx hb dX2_hullsMeet_30 ?_
    refine lv_iload_n hx hb dX2_hullsMeet_31 rfl (lv_at hl 4 rfl) ?_
    refine bc_V (As := [.int (iI p), .int (iI 1), .int (iI 1), .int (iI m0)]) (rest := [.int (iI (mH (eff τ) p 1 0 m0))]) (kd := 7) (k := 0) (ci := 2) ⟨hx, hb, hml, hown, hts⟩ (c_X2_hullEnd l g ad σ τ w p 1 1 m0 hqp hBt hM (by omega) (by omega) (by omega)) (cwV 4 hts gX2_hullsMeet_X2_hullEnd rfl rfl rfl (by decide +kernel) ⟨Nat.le_of_ble_eq_true rfl, Nat.le_of_ble_eq_true rfl⟩) hK hU (bx_L0 (by omega)) rfl rfl rfl hl.1 rfl (Nat.le_of_ble_eq_true rfl) dX2_hullsMeet_32 ⟨Nat.zero_le _, Nat.zero_le _⟩ ?_
    have h7 := mH_bd hBt hM hqp (a := 1) (hi := 1) (gr := m0) (by omega) (by omega) (by omega)
    refine lv_aload_n hx hb dX2_hullsMeet_35 rfl (lv_at hl 2 rfl) ?_
    refine lv_iload_n hx hb dX2_hullsMeet_36 rfl (lv_at hl 5 rfl) ?_
    refine lv_iload hx hb dX2_hullsMeet_37 (lv_at hl 0 rfl) ?_
    refine li_iconst hx hb dX2_hullsMeet_39 ?_
    refine li_iconst hx hb dX2_hullsMeet_40 ?_
    refine bc_V (As := [.int (iI q), .int (iI 1), .int (iI 0), .int (iI 0)]) (rest := [.int (iI (mH (eff τ) p 1 1 m0)), .int (iI (mH (eff τ) p 1 0 m0))]) (kd := 7) (k := 0) (ci := 2) ⟨hx, hb, hml, hown, hts⟩ (c_X2_hullEnd l g ad σ τ w q 1 0 0 hqq hBt hM (by omega) (by omega) (by omega)) (cwV 4 hts gX2_hullsMeet_X2_hullEnd rfl rfl rfl (by decide +kernel) ⟨Nat.le_of_ble_eq_true rfl, Nat.le_of_ble_eq_true rfl⟩) hK hU (bx_L0 (by omega)) rfl rfl rfl hl.1 rfl (Nat.le_of_ble_eq_true rfl) dX2_hullsMeet_41 ⟨Nat.zero_le _, Nat.zero_le _⟩ ?_
    have h8 := mH_bd hBt hM hqq (a := 1) (hi := 0) (gr := 0) (by omega) (by omega) (by omega)
    refine lv_aload_n hx hb dX2_hullsMeet_44 rfl (lv_at hl 2 rfl) ?_
    refine lv_iload_n hx hb dX2_hullsMeet_45 rfl (lv_at hl 5 rfl) ?_
    refine lv_iload hx hb dX2_hullsMeet_46 (lv_at hl 0 rfl) ?_
    refine li_iconst hx hb dX2_hullsMeet_48 ?_
    refine li_iconst hx hb dX2_hullsMeet_49 ?_
    refine bc_V (As := [.int (iI q), .int (iI 1), .int (iI 1), .int (iI 0)]) (rest := [.int (iI (mH (eff τ) q 1 0 0)), .int (iI (mH (eff τ) p 1 1 m0)), .int (iI (mH (eff τ) p 1 0 m0))]) (kd := 7) (k := 0) (ci := 2) ⟨hx, hb, hml, hown, hts⟩ (c_X2_hullEnd l g ad σ τ w q 1 1 0 hqq hBt hM (by omega) (by omega) (by omega)) (cwV 4 hts gX2_hullsMeet_X2_hullEnd rfl rfl rfl (by decide +kernel) ⟨Nat.le_of_ble_eq_true rfl, Nat.le_of_ble_eq_true rfl⟩) hK hU (bx_L0 (by omega)) rfl rfl rfl hl.1 rfl (Nat.le_of_ble_eq_true rfl) dX2_hullsMeet_50 ⟨Nat.zero_le _, Nat.zero_le _⟩ ?_
    have h9 := mH_bd hBt hM hqq (a := 1) (hi := 1) (gr := 0) (by omega) (by omega) (by omega)
    refine bc_SB (As := [.int (iI (mH (eff τ) p 1 0 m0)), .int (iI (mH (eff τ) p 1 1 m0)), .int (iI (mH (eff τ) q 1 0 0)), .int (iI (mH (eff τ) q 1 1 0))]) (rest := []) ⟨hx, hb, hml, hown, hts⟩ (c_X2_overlaps l g ad σ τ w (mH (eff τ) p 1 0 m0) (mH (eff τ) p 1 1 m0) (mH (eff τ) q 1 0 0) (mH (eff τ) q 1 1 0) (by unfold iR; omega) (by unfold iR; omega) (by unfold iR; omega) (by unfold iR; omega)) (va_cwS 4 hts gX2_hullsMeet_X2_overlaps rfl rfl rfl (by decide +kernel) ⟨Nat.le_of_ble_eq_true rfl, Nat.le_of_ble_eq_true rfl⟩) hK hU  rfl hl.1 rfl (Nat.le_of_ble_eq_true rfl) dX2_hullsMeet_53 ⟨Nat.zero_le _, Nat.zero_le _⟩ (fun h10 => ?_) (fun h10 => ?_)
    · refine li_if_eq (tgt := 63) hx hb (by unfold iR; omega) dX2_hullsMeet_56 (by decide) (fun h => absurd h (by decide)) (fun _ => ?_)
      refine li_iconst hx hb dX2_hullsMeet_59 ?_
      refine lv_goto (tgt := 64) hx hb dX2_hullsMeet_60 (by decide) ?_
      refine lv_istore (lv' := [(4, .int (iI 1)), (5, .int (iI 1)), (0, .ref (ad 7 0)), (1, .int (iI p)), (2, .int (iI m0)), (3, .int (iI q))]) hx hb dX2_hullsMeet_64 hl (by decide) rfl (fun ls hl => ?_)
      refine li_iinc (k0 := 1) (lv' := [(5, .int (iI (1 + 1))), (4, .int (iI 1)), (0, .ref (ad 7 0)), (1, .int (iI p)), (2, .int (iI m0)), (3, .int (iI q))]) hx hb dX2_hullsMeet_66 hl rfl (by decide) rfl (fun ls hl => ?_)
      have hl : lv_has ls 6 [(5, .int (iI 2)), (4, .int (iI 1)), (0, .ref (ad 7 0)), (1, .int (iI p)), (2, .int (iI m0)), (3, .int (iI q))] := hl
      refine lv_goto (tgt := 6) hx hb dX2_hullsMeet_69 (by decide) ?_
      refine lv_iload hx hb dX2_hullsMeet_6 (lv_at hl 0 rfl) ?_
      refine li_iconst hx hb dX2_hullsMeet_8 ?_
      refine li_icmp_ge (tgt := 72) hx hb (by unfold iR; omega) (by unfold iR; omega) dX2_hullsMeet_9 (by decide) (fun h => absurd h (by decide)) (fun _ => ?_)
      refine lv_iload hx hb dX2_hullsMeet_12 (lv_at hl 1 rfl) ?_
      refine li_if_eq (tgt := 63) hx hb (by unfold iR; omega) dX2_hullsMeet_14 (by decide) (fun h => absurd h (by decide)) (fun _ => ?_)
      refine lv_aload_n hx hb dX2_hullsMeet_17 rfl (lv_at hl 2 rfl) ?_
      refine lv_iload_n hx hb dX2_hullsMeet_18 rfl (lv_at hl 3 rfl) ?_
      refine lv_iload hx hb dX2_hullsMeet_19 (lv_at hl 0 rfl) ?_
      refine li_iconst hx hb dX2_hullsMeet_21 ?_
      refine lv_iload_n hx hb dX2_hullsMeet_22 rfl (lv_at hl 4 rfl) ?_
      refine bc_V (As := [.int (iI p), .int (iI 2), .int (iI 0), .int (iI m0)]) (rest := []) (kd := 7) (k := 0) (ci := 2) ⟨hx, hb, hml, hown, hts⟩ (c_X2_hullEnd l g ad σ τ w p 2 0 m0 hqp hBt hM (by omega) (by omega) (by omega)) (cwV 4 hts gX2_hullsMeet_X2_hullEnd rfl rfl rfl (by decide +kernel) ⟨Nat.le_of_ble_eq_true rfl, Nat.le_of_ble_eq_true rfl⟩) hK hU (bx_L0 (by omega)) rfl rfl rfl hl.1 rfl (Nat.le_of_ble_eq_true rfl) dX2_hullsMeet_23 ⟨Nat.zero_le _, Nat.zero_le _⟩ ?_
      have h11 := mH_bd hBt hM hqp (a := 2) (hi := 0) (gr := m0) (by omega) (by omega) (by omega)
      refine lv_aload_n hx hb dX2_hullsMeet_26 rfl (lv_at hl 2 rfl) ?_
      refine lv_iload_n hx hb dX2_hullsMeet_27 rfl (lv_at hl 3 rfl) ?_
      refine lv_iload hx hb dX2_hullsMeet_28 (lv_at hl 0 rfl) ?_
      refine li_iconst hx hb dX2_hullsMeet_30 ?_
      refine lv_iload_n hx hb dX2_hullsMeet_31 rfl (lv_at hl 4 rfl) ?_
      refine bc_V (As := [.int (iI p), .int (iI 2), .int (iI 1), .int (iI m0)]) (rest := [.int (iI (mH (eff τ) p 2 0 m0))]) (kd := 7) (k := 0) (ci := 2) ⟨hx, hb, hml, hown, hts⟩ (c_X2_hullEnd l g ad σ τ w p 2 1 m0 hqp hBt hM (by omega) (by omega) (by omega)) (cwV 4 hts gX2_hullsMeet_X2_hullEnd rfl rfl rfl (by decide +kernel) ⟨Nat.le_of_ble_eq_true rfl, Nat.le_of_ble_eq_true rfl⟩) hK hU (bx_L0 (by omega)) rfl rfl rfl hl.1 rfl (Nat.le_of_ble_eq_true rfl) dX2_hullsMeet_32 ⟨Nat.zero_le _, Nat.zero_le _⟩ ?_
      have h12 := mH_bd hBt hM hqp (a := 2) (hi := 1) (gr := m0) (by omega) (by omega) (by omega)
      refine lv_aload_n hx hb dX2_hullsMeet_35 rfl (lv_at hl 2 rfl) ?_
      refine lv_iload_n hx hb dX2_hullsMeet_36 rfl (lv_at hl 5 rfl) ?_
      refine lv_iload hx hb dX2_hullsMeet_37 (lv_at hl 0 rfl) ?_
      refine li_iconst hx hb dX2_hullsMeet_39 ?_
      refine li_iconst hx hb dX2_hullsMeet_40 ?_
      refine bc_V (As := [.int (iI q), .int (iI 2), .int (iI 0), .int (iI 0)]) (rest := [.int (iI (mH (eff τ) p 2 1 m0)), .int (iI (mH (eff τ) p 2 0 m0))]) (kd := 7) (k := 0) (ci := 2) ⟨hx, hb, hml, hown, hts⟩ (c_X2_hullEnd l g ad σ τ w q 2 0 0 hqq hBt hM (by omega) (by omega) (by omega)) (cwV 4 hts gX2_hullsMeet_X2_hullEnd rfl rfl rfl (by decide +kernel) ⟨Nat.le_of_ble_eq_true rfl, Nat.le_of_ble_eq_true rfl⟩) hK hU (bx_L0 (by omega)) rfl rfl rfl hl.1 rfl (Nat.le_of_ble_eq_true rfl) dX2_hullsMeet_41 ⟨Nat.zero_le _, Nat.zero_le _⟩ ?_
      have h13 := mH_bd hBt hM hqq (a := 2) (hi := 0) (gr := 0) (by omega) (by omega) (by omega)
      refine lv_aload_n hx hb dX2_hullsMeet_44 rfl (lv_at hl 2 rfl) ?_
      refine lv_iload_n hx hb dX2_hullsMeet_45 rfl (lv_at hl 5 rfl) ?_
      refine lv_iload hx hb dX2_hullsMeet_46 (lv_at hl 0 rfl) ?_
      refine li_iconst hx hb dX2_hullsMeet_48 ?_
      refine li_iconst hx hb dX2_hullsMeet_49 ?_
      refine bc_V (As := [.int (iI q), .int (iI 2), .int (iI 1), .int (iI 0)]) (rest := [.int (iI (mH (eff τ) q 2 0 0)), .int (iI (mH (eff τ) p 2 1 m0)), .int (iI (mH (eff τ) p 2 0 m0))]) (kd := 7) (k := 0) (ci := 2) ⟨hx, hb, hml, hown, hts⟩ (c_X2_hullEnd l g ad σ τ w q 2 1 0 hqq hBt hM (by omega) (by omega) (by omega)) (cwV 4 hts gX2_hullsMeet_X2_hullEnd rfl rfl rfl (by decide +kernel) ⟨Nat.le_of_ble_eq_true rfl, Nat.le_of_ble_eq_true rfl⟩) hK hU (bx_L0 (by omega)) rfl rfl rfl hl.1 rfl (Nat.le_of_ble_eq_true rfl) dX2_hullsMeet_50 ⟨Nat.zero_le _, Nat.zero_le _⟩ ?_
      have h14 := mH_bd hBt hM hqq (a := 2) (hi := 1) (gr := 0) (by omega) (by omega) (by omega)
      refine bc_SB (As := [.int (iI (mH (eff τ) p 2 0 m0)), .int (iI (mH (eff τ) p 2 1 m0)), .int (iI (mH (eff τ) q 2 0 0)), .int (iI (mH (eff τ) q 2 1 0))]) (rest := []) ⟨hx, hb, hml, hown, hts⟩ (c_X2_overlaps l g ad σ τ w (mH (eff τ) p 2 0 m0) (mH (eff τ) p 2 1 m0) (mH (eff τ) q 2 0 0) (mH (eff τ) q 2 1 0) (by unfold iR; omega) (by unfold iR; omega) (by unfold iR; omega) (by unfold iR; omega)) (va_cwS 4 hts gX2_hullsMeet_X2_overlaps rfl rfl rfl (by decide +kernel) ⟨Nat.le_of_ble_eq_true rfl, Nat.le_of_ble_eq_true rfl⟩) hK hU  rfl hl.1 rfl (Nat.le_of_ble_eq_true rfl) dX2_hullsMeet_53 ⟨Nat.zero_le _, Nat.zero_le _⟩ (fun h15 => ?_) (fun h15 => ?_)
      · refine li_if_eq (tgt := 63) hx hb (by unfold iR; omega) dX2_hullsMeet_56 (by decide) (fun h => absurd h (by decide)) (fun _ => ?_)
        refine li_iconst hx hb dX2_hullsMeet_59 ?_
        refine lv_goto (tgt := 64) hx hb dX2_hullsMeet_60 (by decide) ?_
        refine lv_istore (lv' := [(4, .int (iI 1)), (5, .int (iI 2)), (0, .ref (ad 7 0)), (1, .int (iI p)), (2, .int (iI m0)), (3, .int (iI q))]) hx hb dX2_hullsMeet_64 hl (by decide) rfl (fun ls hl => ?_)
        refine li_iinc (k0 := 1) (lv' := [(5, .int (iI (2 + 1))), (4, .int (iI 1)), (0, .ref (ad 7 0)), (1, .int (iI p)), (2, .int (iI m0)), (3, .int (iI q))]) hx hb dX2_hullsMeet_66 hl rfl (by decide) rfl (fun ls hl => ?_)
        have hl : lv_has ls 6 [(5, .int (iI 3)), (4, .int (iI 1)), (0, .ref (ad 7 0)), (1, .int (iI p)), (2, .int (iI m0)), (3, .int (iI q))] := hl
        refine lv_goto (tgt := 6) hx hb dX2_hullsMeet_69 (by decide) ?_
        refine lv_iload hx hb dX2_hullsMeet_6 (lv_at hl 0 rfl) ?_
        refine li_iconst hx hb dX2_hullsMeet_8 ?_
        refine li_icmp_ge (tgt := 72) hx hb (by unfold iR; omega) (by unfold iR; omega) dX2_hullsMeet_9 (by decide) (fun _ => ?_) (fun h => absurd (by decide) h)
        refine lv_iload hx hb dX2_hullsMeet_72 (lv_at hl 1 rfl) ?_
        refine be_t hx hb hr hlocks ?_ dX2_hullsMeet_74
        unfold hmt; omega
      · refine li_if_eq (tgt := 63) hx hb (by unfold iR; omega) dX2_hullsMeet_56 (by decide) (fun _ => ?_) (fun h => absurd (by decide) h)
        refine li_iconst hx hb dX2_hullsMeet_63 ?_
        refine lv_istore (lv' := [(4, .int (iI 0)), (5, .int (iI 2)), (0, .ref (ad 7 0)), (1, .int (iI p)), (2, .int (iI m0)), (3, .int (iI q))]) hx hb dX2_hullsMeet_64 hl (by decide) rfl (fun ls hl => ?_)
        refine li_iinc (k0 := 1) (lv' := [(5, .int (iI (2 + 1))), (4, .int (iI 0)), (0, .ref (ad 7 0)), (1, .int (iI p)), (2, .int (iI m0)), (3, .int (iI q))]) hx hb dX2_hullsMeet_66 hl rfl (by decide) rfl (fun ls hl => ?_)
        have hl : lv_has ls 6 [(5, .int (iI 3)), (4, .int (iI 0)), (0, .ref (ad 7 0)), (1, .int (iI p)), (2, .int (iI m0)), (3, .int (iI q))] := hl
        refine lv_goto (tgt := 6) hx hb dX2_hullsMeet_69 (by decide) ?_
        refine lv_iload hx hb dX2_hullsMeet_6 (lv_at hl 0 rfl) ?_
        refine li_iconst hx hb dX2_hullsMeet_8 ?_
        refine li_icmp_ge (tgt := 72) hx hb (by unfold iR; omega) (by unfold iR; omega) dX2_hullsMeet_9 (by decide) (fun _ => ?_) (fun h => absurd (by decide) h)
        refine lv_iload hx hb dX2_hullsMeet_72 (lv_at hl 1 rfl) ?_
        refine be_f hx hb hr hlocks ?_ dX2_hullsMeet_74
        unfold hmt; omega
    · refine li_if_eq (tgt := 63) hx hb (by unfold iR; omega) dX2_hullsMeet_56 (by decide) (fun _ => ?_) (fun h => absurd (by decide) h)
      refine li_iconst hx hb dX2_hullsMeet_63 ?_
      refine lv_istore (lv' := [(4, .int (iI 0)), (5, .int (iI 1)), (0, .ref (ad 7 0)), (1, .int (iI p)), (2, .int (iI m0)), (3, .int (iI q))]) hx hb dX2_hullsMeet_64 hl (by decide) rfl (fun ls hl => ?_)
      refine li_iinc (k0 := 1) (lv' := [(5, .int (iI (1 + 1))), (4, .int (iI 0)), (0, .ref (ad 7 0)), (1, .int (iI p)), (2, .int (iI m0)), (3, .int (iI q))]) hx hb dX2_hullsMeet_66 hl rfl (by decide) rfl (fun ls hl => ?_)
      have hl : lv_has ls 6 [(5, .int (iI 2)), (4, .int (iI 0)), (0, .ref (ad 7 0)), (1, .int (iI p)), (2, .int (iI m0)), (3, .int (iI q))] := hl
      refine lv_goto (tgt := 6) hx hb dX2_hullsMeet_69 (by decide) ?_
      refine lv_iload hx hb dX2_hullsMeet_6 (lv_at hl 0 rfl) ?_
      refine li_iconst hx hb dX2_hullsMeet_8 ?_
      refine li_icmp_ge (tgt := 72) hx hb (by unfold iR; omega) (by unfold iR; omega) dX2_hullsMeet_9 (by decide) (fun h => absurd h (by decide)) (fun _ => ?_)
      refine lv_iload hx hb dX2_hullsMeet_12 (lv_at hl 1 rfl) ?_
      refine li_if_eq (tgt := 63) hx hb (by unfold iR; omega) dX2_hullsMeet_14 (by decide) (fun _ => ?_) (fun h => absurd (by decide) h)
      refine li_iconst hx hb dX2_hullsMeet_63 ?_
      refine lv_istore (lv' := [(4, .int (iI 0)), (5, .int (iI 2)), (0, .ref (ad 7 0)), (1, .int (iI p)), (2, .int (iI m0)), (3, .int (iI q))]) hx hb dX2_hullsMeet_64 hl (by decide) rfl (fun ls hl => ?_)
      refine li_iinc (k0 := 1) (lv' := [(5, .int (iI (2 + 1))), (4, .int (iI 0)), (0, .ref (ad 7 0)), (1, .int (iI p)), (2, .int (iI m0)), (3, .int (iI q))]) hx hb dX2_hullsMeet_66 hl rfl (by decide) rfl (fun ls hl => ?_)
      have hl : lv_has ls 6 [(5, .int (iI 3)), (4, .int (iI 0)), (0, .ref (ad 7 0)), (1, .int (iI p)), (2, .int (iI m0)), (3, .int (iI q))] := hl
      refine lv_goto (tgt := 6) hx hb dX2_hullsMeet_69 (by decide) ?_
      refine lv_iload hx hb dX2_hullsMeet_6 (lv_at hl 0 rfl) ?_
      refine li_iconst hx hb dX2_hullsMeet_8 ?_
      refine li_icmp_ge (tgt := 72) hx hb (by unfold iR; omega) (by unfold iR; omega) dX2_hullsMeet_9 (by decide) (fun _ => ?_) (fun h => absurd (by decide) h)
      refine lv_iload hx hb dX2_hullsMeet_72 (lv_at hl 1 rfl) ?_
      refine be_f hx hb hr hlocks ?_ dX2_hullsMeet_74
      unfold hmt; omega
  · refine li_if_eq (tgt := 63) hx hb (by unfold iR; omega) dX2_hullsMeet_56 (by decide) (fun _ => ?_) (fun h => absurd (by decide) h)
    refine li_iconst hx hb dX2_hullsMeet_63 ?_
    refine lv_istore (lv' := [(4, .int (iI 0)), (5, .int (iI 0)), (0, .ref (ad 7 0)), (1, .int (iI p)), (2, .int (iI m0)), (3, .int (iI q))]) hx hb dX2_hullsMeet_64 hl (by decide) rfl (fun ls hl => ?_)
    refine li_iinc (k0 := 1) (lv' := [(5, .int (iI (0 + 1))), (4, .int (iI 0)), (0, .ref (ad 7 0)), (1, .int (iI p)), (2, .int (iI m0)), (3, .int (iI q))]) hx hb dX2_hullsMeet_66 hl rfl (by decide) rfl (fun ls hl => ?_)
    have hl : lv_has ls 6 [(5, .int (iI 1)), (4, .int (iI 0)), (0, .ref (ad 7 0)), (1, .int (iI p)), (2, .int (iI m0)), (3, .int (iI q))] := hl
    refine lv_goto (tgt := 6) hx hb dX2_hullsMeet_69 (by decide) ?_
    refine lv_iload hx hb dX2_hullsMeet_6 (lv_at hl 0 rfl) ?_
    refine li_iconst hx hb dX2_hullsMeet_8 ?_
    refine li_icmp_ge (tgt := 72) hx hb (by unfold iR; omega) (by unfold iR; omega) dX2_hullsMeet_9 (by decide) (fun h => absurd h (by decide)) (fun _ => ?_)
    refine lv_iload hx hb dX2_hullsMeet_12 (lv_at hl 1 rfl) ?_
    refine li_if_eq (tgt := 63) hx hb (by unfold iR; omega) dX2_hullsMeet_14 (by decide) (fun _ => ?_) (fun h => absurd (by decide) h)
    refine li_iconst hx hb dX2_hullsMeet_63 ?_
    refine lv_istore (lv' := [(4, .int (iI 0)), (5, .int (iI 1)), (0, .ref (ad 7 0)), (1, .int (iI p)), (2, .int (iI m0)), (3, .int (iI q))]) hx hb dX2_hullsMeet_64 hl (by decide) rfl (fun ls hl => ?_)
    refine li_iinc (k0 := 1) (lv' := [(5, .int (iI (1 + 1))), (4, .int (iI 0)), (0, .ref (ad 7 0)), (1, .int (iI p)), (2, .int (iI m0)), (3, .int (iI q))]) hx hb dX2_hullsMeet_66 hl rfl (by decide) rfl (fun ls hl => ?_)
    have hl : lv_has ls 6 [(5, .int (iI 2)), (4, .int (iI 0)), (0, .ref (ad 7 0)), (1, .int (iI p)), (2, .int (iI m0)), (3, .int (iI q))] := hl
    refine lv_goto (tgt := 6) hx hb dX2_hullsMeet_69 (by decide) ?_
    refine lv_iload hx hb dX2_hullsMeet_6 (lv_at hl 0 rfl) ?_
    refine li_iconst hx hb dX2_hullsMeet_8 ?_
    refine li_icmp_ge (tgt := 72) hx hb (by unfold iR; omega) (by unfold iR; omega) dX2_hullsMeet_9 (by decide) (fun h => absurd h (by decide)) (fun _ => ?_)
    refine lv_iload hx hb dX2_hullsMeet_12 (lv_at hl 1 rfl) ?_
    refine li_if_eq (tgt := 63) hx hb (by unfold iR; omega) dX2_hullsMeet_14 (by decide) (fun _ => ?_) (fun h => absurd (by decide) h)
    refine li_iconst hx hb dX2_hullsMeet_63 ?_
    refine lv_istore (lv' := [(4, .int (iI 0)), (5, .int (iI 2)), (0, .ref (ad 7 0)), (1, .int (iI p)), (2, .int (iI m0)), (3, .int (iI q))]) hx hb dX2_hullsMeet_64 hl (by decide) rfl (fun ls hl => ?_)
    refine li_iinc (k0 := 1) (lv' := [(5, .int (iI (2 + 1))), (4, .int (iI 0)), (0, .ref (ad 7 0)), (1, .int (iI p)), (2, .int (iI m0)), (3, .int (iI q))]) hx hb dX2_hullsMeet_66 hl rfl (by decide) rfl (fun ls hl => ?_)
    have hl : lv_has ls 6 [(5, .int (iI 3)), (4, .int (iI 0)), (0, .ref (ad 7 0)), (1, .int (iI p)), (2, .int (iI m0)), (3, .int (iI q))] := hl
    refine lv_goto (tgt := 6) hx hb dX2_hullsMeet_69 (by decide) ?_
    refine lv_iload hx hb dX2_hullsMeet_6 (lv_at hl 0 rfl) ?_
    refine li_iconst hx hb dX2_hullsMeet_8 ?_
    refine li_icmp_ge (tgt := 72) hx hb (by unfold iR; omega) (by unfold iR; omega) dX2_hullsMeet_9 (by decide) (fun _ => ?_) (fun h => absurd (by decide) h)
    refine lv_iload hx hb dX2_hullsMeet_72 (lv_at hl 1 rfl) ?_
    refine be_f hx hb hr hlocks ?_ dX2_hullsMeet_74
    unfold hmt; omega
