set_option maxHeartbeats 4000000 in
set_option maxRecDepth 100000 in
theorem c_X1_stateOf (l : Launch) (g : bxG) (ad : bxA) (σ τ : bxS) (w : bxW) (p q : Int) (hpp : 0 ≤ p ∧ p < 60 ∧ σ 2 p 0 ≠ 0) (hpq : 0 ≤ q ∧ q < 60 ∧ σ 2 q 0 ≠ 0) (hB : bx_B σ) : Met l yX1_stateOf wsX1_stateOf ({ frames := 4, cells := 0, slots := 0, locals := 96 }) (va_Pc [.ref (ad 0 0), .ref (ad 20 p), .ref (ad 20 q)] (fun U => bx_I g ad σ τ w U)) (k2_QcV (.int (iI (stO σ p q)))) 0 0 (fun _ => False) := by
  refine Met.ofW (cc := cX1_stateOf) (maxL := 4) (ret := (some .int)) (by decide) rfl ?_
  intro Pg Ev s mI args below meth cd s₁ B hml hv
  obtain ⟨rfl, hU, hK⟩ := hv
  have hx := B.exec
  have hb := B.bytes
  have hr := B.returns
  have hts := atoms_spec (ws := wsX1_stateOf) B.pre
  have hown : s.vm.findClass RX1 = some mI.cls := findClass_of_methodNamed B.named
  have hlocks := B.notSynchronized
  have hl := lv_entry ([.ref (ad 0 0), .ref (ad 20 p), .ref (ad 20 q)]) (n := 4) (Nat.le_of_ble_eq_true rfl)
  rw [lg_entry_eq]
  generalize (lg_sl ([.ref (ad 0 0), .ref (ad 20 p), .ref (ad 20 q)]) ++ List.replicate (4 - (lg_sl ([.ref (ad 0 0), .ref (ad 20 p), .ref (ad 20 q)])).length) Slot.unset).toArray = ls at hl ⊢
  have hl : lv_has ls 4 [(0, .ref (ad 0 0)), (1, .ref (ad 20 p)), (2, .ref (ad 20 q))] := hl
  have hinX0 : ∀ w ∈ wsX00, w ∈ wsX1_stateOf := by decide +kernel
  refine lv_aload_n hx hb dX1_stateOf_0 rfl (lv_at hl 0 rfl) ?_
  refine lv_aload_n hx hb dX1_stateOf_1 rfl (lv_at hl 1 rfl) ?_
  refine bg_X0_kind hx hb hts hinX0 hown hK hU hpp (hts (.fieldLink RX1 152 "ClashBoxes$Part" "kind" "I") (by decide +kernel)) dX1_stateOf_2 ?_
  have b1 := bB3 hB hpp
  refine lv_aload_n hx hb dX1_stateOf_5 rfl (lv_at hl 2 rfl) ?_
  refine bg_X0_kind hx hb hts hinX0 hown hK hU hpq (hts (.fieldLink RX1 152 "ClashBoxes$Part" "kind" "I") (by decide +kernel)) dX1_stateOf_6 ?_
  have b2 := bB3 hB hpq
  refine bc_VB (As := [.int (iI (σ 3 p 0)), .int (iI (σ 3 q 0))]) (rest := []) (kd := 0) (k := 0) (ci := 1) ⟨hx, hb, hml, hown, hts⟩ (c_X1_areFree l g ad σ τ w (σ 3 p 0) (σ 3 q 0) (by omega) (by omega) hB) (cwV 2 hts gX1_stateOf_X1_areFree rfl rfl rfl (by decide +kernel) ⟨Nat.le_of_ble_eq_true rfl, Nat.le_of_ble_eq_true rfl⟩) hK hU (bx_L0 (by omega)) rfl rfl rfl hl.1 rfl (Nat.le_of_ble_eq_true rfl) dX1_stateOf_9 ⟨Nat.zero_le _, Nat.zero_le _⟩ (fun h3 => ?_) (fun h3 => ?_)
  · refine li_if_eq (tgt := 17) hx hb (by unfold iR; omega) dX1_stateOf_12 (by decide) (fun h => absurd h (by decide)) (fun _ => ?_)
    refine li_iconst hx hb dX1_stateOf_15 ?_
    refine be_i hx hb hr hlocks ?_ dX1_stateOf_16
    unfold stO; rw [zI_t h3]
  · refine li_if_eq (tgt := 17) hx hb (by unfold iR; omega) dX1_stateOf_12 (by decide) (fun _ => ?_) (fun h => absurd (by decide) h)
    refine lv_aload_n hx hb dX1_stateOf_17 rfl (lv_at hl 1 rfl) ?_
    refine li_iconst hx hb dX1_stateOf_18 ?_
    refine lv_aload_n hx hb dX1_stateOf_19 rfl (lv_at hl 2 rfl) ?_
    refine bc_SB (As := [.ref (ad 20 p), .int (iI 0), .ref (ad 20 q)]) (rest := []) ⟨hx, hb, hml, hown, hts⟩ (c_X1_meet l g ad σ τ w p 0 q hpp hpq hB (by omega)) (va_cwS 3 hts gX1_stateOf_X1_meet rfl rfl rfl (by decide +kernel) ⟨Nat.le_of_ble_eq_true rfl, Nat.le_of_ble_eq_true rfl⟩) hK hU  rfl hl.1 rfl (Nat.le_of_ble_eq_true rfl) dX1_stateOf_20 ⟨Nat.zero_le _, Nat.zero_le _⟩ (fun h4 => ?_) (fun h4 => ?_)
    · refine li_if_eq (tgt := 28) hx hb (by unfold iR; omega) dX1_stateOf_23 (by decide) (fun h => absurd h (by decide)) (fun _ => ?_)
      refine li_iconst hx hb dX1_stateOf_26 ?_
      refine be_i hx hb hr hlocks ?_ dX1_stateOf_27
      unfold stO; rw [zI_f (fun q => h3 q), zI_t h4]
    · refine li_if_eq (tgt := 28) hx hb (by unfold iR; omega) dX1_stateOf_23 (by decide) (fun _ => ?_) (fun h => absurd (by decide) h)
      refine lv_aload_n hx hb dX1_stateOf_28 rfl (lv_at hl 1 rfl) ?_
      refine bg_X0_softSpace hx hb hts hinX0 hown hK hU hpp (hts (.fieldLink RX1 75 "ClashBoxes$Part" "softSpace" "I") (by decide +kernel)) dX1_stateOf_29 ?_
      have b5 := bB4 hB hpp
      refine li_if_le (tgt := 47) hx hb (by unfold iR; omega) dX1_stateOf_32 (by decide) (fun h6 => ?_) (fun h6 => ?_)
      · refine lv_aload_n hx hb dX1_stateOf_47 rfl (lv_at hl 2 rfl) ?_
        refine bg_X0_softSpace hx hb hts hinX0 hown hK hU hpq (hts (.fieldLink RX1 75 "ClashBoxes$Part" "softSpace" "I") (by decide +kernel)) dX1_stateOf_48 ?_
        have b7 := bB4 hB hpq
        refine li_if_le (tgt := 70) hx hb (by unfold iR; omega) dX1_stateOf_51 (by decide) (fun h8 => ?_) (fun h8 => ?_)
        · refine li_iconst hx hb dX1_stateOf_70 ?_
          refine lv_istore_n (lv' := [(3, .int (iI 0)), (0, .ref (ad 0 0)), (1, .ref (ad 20 p)), (2, .ref (ad 20 q))]) hx hb dX1_stateOf_71 rfl hl (by decide) rfl (fun ls hl => ?_)
          refine lv_iload_n hx hb dX1_stateOf_72 rfl (lv_at hl 0 rfl) ?_
          refine li_if_eq (tgt := 80) hx hb (by unfold iR; omega) dX1_stateOf_73 (by decide) (fun _ => ?_) (fun h => absurd (by decide) h)
          refine li_iconst hx hb dX1_stateOf_80 ?_
          refine be_i hx hb hr hlocks ?_ dX1_stateOf_81
          unfold stO; rw [zI_f (fun q => h3 q), zI_f h4, zI_f (fun q => q.elim (fun q => absurd q.1 (by omega)) (fun q => absurd q.1 (by omega)))]
        · refine lv_aload_n hx hb dX1_stateOf_54 rfl (lv_at hl 2 rfl) ?_
          refine lv_aload_n hx hb dX1_stateOf_55 rfl (lv_at hl 2 rfl) ?_
          refine bg_X0_softSpace hx hb hts hinX0 hown hK hU hpq (hts (.fieldLink RX1 75 "ClashBoxes$Part" "softSpace" "I") (by decide +kernel)) dX1_stateOf_56 ?_
          have b9 := bB4 hB hpq
          refine lv_aload_n hx hb dX1_stateOf_59 rfl (lv_at hl 1 rfl) ?_
          refine bc_SB (As := [.ref (ad 20 q), .int (iI (σ 4 q 0)), .ref (ad 20 p)]) (rest := []) ⟨hx, hb, hml, hown, hts⟩ (c_X1_meet l g ad σ τ w q (σ 4 q 0) p hpq hpp hB (by omega)) (va_cwS 3 hts gX1_stateOf_X1_meet rfl rfl rfl (by decide +kernel) ⟨Nat.le_of_ble_eq_true rfl, Nat.le_of_ble_eq_true rfl⟩) hK hU  rfl hl.1 rfl (Nat.le_of_ble_eq_true rfl) dX1_stateOf_60 ⟨Nat.zero_le _, Nat.zero_le _⟩ (fun h10 => ?_) (fun h10 => ?_)
          · refine li_if_eq (tgt := 70) hx hb (by unfold iR; omega) dX1_stateOf_63 (by decide) (fun h => absurd h (by decide)) (fun _ => ?_)
            refine li_iconst hx hb dX1_stateOf_66 ?_
            refine lv_goto (tgt := 71) hx hb dX1_stateOf_67 (by decide) ?_
            refine lv_istore_n (lv' := [(3, .int (iI 1)), (0, .ref (ad 0 0)), (1, .ref (ad 20 p)), (2, .ref (ad 20 q))]) hx hb dX1_stateOf_71 rfl hl (by decide) rfl (fun ls hl => ?_)
            refine lv_iload_n hx hb dX1_stateOf_72 rfl (lv_at hl 0 rfl) ?_
            refine li_if_eq (tgt := 80) hx hb (by unfold iR; omega) dX1_stateOf_73 (by decide) (fun h => absurd h (by decide)) (fun _ => ?_)
            refine li_iconst hx hb dX1_stateOf_76 ?_
            refine lv_goto (tgt := 81) hx hb dX1_stateOf_77 (by decide) ?_
            refine be_i hx hb hr hlocks ?_ dX1_stateOf_81
            unfold stO; rw [zI_f (fun q => h3 q), zI_f h4, zI_t (Or.inr ⟨by omega, h10⟩)]
          · refine li_if_eq (tgt := 70) hx hb (by unfold iR; omega) dX1_stateOf_63 (by decide) (fun _ => ?_) (fun h => absurd (by decide) h)
            refine li_iconst hx hb dX1_stateOf_70 ?_
            refine lv_istore_n (lv' := [(3, .int (iI 0)), (0, .ref (ad 0 0)), (1, .ref (ad 20 p)), (2, .ref (ad 20 q))]) hx hb dX1_stateOf_71 rfl hl (by decide) rfl (fun ls hl => ?_)
            refine lv_iload_n hx hb dX1_stateOf_72 rfl (lv_at hl 0 rfl) ?_
            refine li_if_eq (tgt := 80) hx hb (by unfold iR; omega) dX1_stateOf_73 (by decide) (fun _ => ?_) (fun h => absurd (by decide) h)
            refine li_iconst hx hb dX1_stateOf_80 ?_
            refine be_i hx hb hr hlocks ?_ dX1_stateOf_81
            unfold stO; rw [zI_f (fun q => h3 q), zI_f h4, zI_f (fun q => q.elim (fun q => absurd q.1 (by omega)) (fun q => absurd q.2 h10))]
      · refine lv_aload_n hx hb dX1_stateOf_35 rfl (lv_at hl 1 rfl) ?_
        refine lv_aload_n hx hb dX1_stateOf_36 rfl (lv_at hl 1 rfl) ?_
        refine bg_X0_softSpace hx hb hts hinX0 hown hK hU hpp (hts (.fieldLink RX1 75 "ClashBoxes$Part" "softSpace" "I") (by decide +kernel)) dX1_stateOf_37 ?_
        have b11 := bB4 hB hpp
        refine lv_aload_n hx hb dX1_stateOf_40 rfl (lv_at hl 2 rfl) ?_
        refine bc_SB (As := [.ref (ad 20 p), .int (iI (σ 4 p 0)), .ref (ad 20 q)]) (rest := []) ⟨hx, hb, hml, hown, hts⟩ (c_X1_meet l g ad σ τ w p (σ 4 p 0) q hpp hpq hB (by omega)) (va_cwS 3 hts gX1_stateOf_X1_meet rfl rfl rfl (by decide +kernel) ⟨Nat.le_of_ble_eq_true rfl, Nat.le_of_ble_eq_true rfl⟩) hK hU  rfl hl.1 rfl (Nat.le_of_ble_eq_true rfl) dX1_stateOf_41 ⟨Nat.zero_le _, Nat.zero_le _⟩ (fun h12 => ?_) (fun h12 => ?_)
        · refine li_if_ne (tgt := 66) hx hb (by unfold iR; omega) dX1_stateOf_44 (by decide) (fun _ => ?_) (fun h => absurd h (by decide))
          refine li_iconst hx hb dX1_stateOf_66 ?_
          refine lv_goto (tgt := 71) hx hb dX1_stateOf_67 (by decide) ?_
          refine lv_istore_n (lv' := [(3, .int (iI 1)), (0, .ref (ad 0 0)), (1, .ref (ad 20 p)), (2, .ref (ad 20 q))]) hx hb dX1_stateOf_71 rfl hl (by decide) rfl (fun ls hl => ?_)
          refine lv_iload_n hx hb dX1_stateOf_72 rfl (lv_at hl 0 rfl) ?_
          refine li_if_eq (tgt := 80) hx hb (by unfold iR; omega) dX1_stateOf_73 (by decide) (fun h => absurd h (by decide)) (fun _ => ?_)
          refine li_iconst hx hb dX1_stateOf_76 ?_
          refine lv_goto (tgt := 81) hx hb dX1_stateOf_77 (by decide) ?_
          refine be_i hx hb hr hlocks ?_ dX1_stateOf_81
          unfold stO; rw [zI_f (fun q => h3 q), zI_f h4, zI_t (Or.inl ⟨by omega, h12⟩)]
        · refine li_if_ne (tgt := 66) hx hb (by unfold iR; omega) dX1_stateOf_44 (by decide) (fun h => absurd (by decide) h) (fun _ => ?_)
          refine lv_aload_n hx hb dX1_stateOf_47 rfl (lv_at hl 2 rfl) ?_
          refine bg_X0_softSpace hx hb hts hinX0 hown hK hU hpq (hts (.fieldLink RX1 75 "ClashBoxes$Part" "softSpace" "I") (by decide +kernel)) dX1_stateOf_48 ?_
          have b13 := bB4 hB hpq
          refine li_if_le (tgt := 70) hx hb (by unfold iR; omega) dX1_stateOf_51 (by decide) (fun h14 => ?_) (fun h14 => ?_)
          · refine li_iconst hx hb dX1_stateOf_70 ?_
            refine lv_istore_n (lv' := [(3, .int (iI 0)), (0, .ref (ad 0 0)), (1, .ref (ad 20 p)), (2, .ref (ad 20 q))]) hx hb dX1_stateOf_71 rfl hl (by decide) rfl (fun ls hl => ?_)
            refine lv_iload_n hx hb dX1_stateOf_72 rfl (lv_at hl 0 rfl) ?_
            refine li_if_eq (tgt := 80) hx hb (by unfold iR; omega) dX1_stateOf_73 (by decide) (fun _ => ?_) (fun h => absurd (by decide) h)
            refine li_iconst hx hb dX1_stateOf_80 ?_
            refine be_i hx hb hr hlocks ?_ dX1_stateOf_81
            unfold stO; rw [zI_f (fun q => h3 q), zI_f h4, zI_f (fun q => q.elim (fun q => absurd q.2 h12) (fun q => absurd q.1 (by omega)))]
          · refine lv_aload_n hx hb dX1_stateOf_54 rfl (lv_at hl 2 rfl) ?_
            refine lv_aload_n hx hb dX1_stateOf_55 rfl (lv_at hl 2 rfl) ?_
            refine bg_X0_softSpace hx hb hts hinX0 hown hK hU hpq (hts (.fieldLink RX1 75 "ClashBoxes$Part" "softSpace" "I") (by decide +kernel)) dX1_stateOf_56 ?_
            have b15 := bB4 hB hpq
            refine lv_aload_n hx hb dX1_stateOf_59 rfl (lv_at hl 1 rfl) ?_
            refine bc_SB (As := [.ref (ad 20 q), .int (iI (σ 4 q 0)), .ref (ad 20 p)]) (rest := []) ⟨hx, hb, hml, hown, hts⟩ (c_X1_meet l g ad σ τ w q (σ 4 q 0) p hpq hpp hB (by omega)) (va_cwS 3 hts gX1_stateOf_X1_meet rfl rfl rfl (by decide +kernel) ⟨Nat.le_of_ble_eq_true rfl, Nat.le_of_ble_eq_true rfl⟩) hK hU  rfl hl.1 rfl (Nat.le_of_ble_eq_true rfl) dX1_stateOf_60 ⟨Nat.zero_le _, Nat.zero_le _⟩ (fun h16 => ?_) (fun h16 => ?_)
            · refine li_if_eq (tgt := 70) hx hb (by unfold iR; omega) dX1_stateOf_63 (by decide) (fun h => absurd h (by decide)) (fun _ => ?_)
              refine li_iconst hx hb dX1_stateOf_66 ?_
              refine lv_goto (tgt := 71) hx hb dX1_stateOf_67 (by decide) ?_
              refine lv_istore_n (lv' := [(3, .int (iI 1)), (0, .ref (ad 0 0)), (1, .ref (ad 20 p)), (2, .ref (ad 20 q))]) hx hb dX1_stateOf_71 rfl hl (by decide) rfl (fun ls hl => ?_)
              refine lv_iload_n hx hb dX1_stateOf_72 rfl (lv_at hl 0 rfl) ?_
              refine li_if_eq (tgt := 80) hx hb (by unfold iR; omega) dX1_stateOf_73 (by decide) (fun h => absurd h (by decide)) (fun _ => ?_)
              refine li_iconst hx hb dX1_stateOf_76 ?_
              refine lv_goto (tgt := 81) hx hb dX1_stateOf_77 (by decide) ?_
              refine be_i hx hb hr hlocks ?_ dX1_stateOf_81
              unfold stO; rw [zI_f (fun q => h3 q), zI_f h4, zI_t (Or.inr ⟨by omega, h16⟩)]
            · refine li_if_eq (tgt := 70) hx hb (by unfold iR; omega) dX1_stateOf_63 (by decide) (fun _ => ?_) (fun h => absurd (by decide) h)
              refine li_iconst hx hb dX1_stateOf_70 ?_
              refine lv_istore_n (lv' := [(3, .int (iI 0)), (0, .ref (ad 0 0)), (1, .ref (ad 20 p)), (2, .ref (ad 20 q))]) hx hb dX1_stateOf_71 rfl hl (by decide) rfl (fun ls hl => ?_)
              refine lv_iload_n hx hb dX1_stateOf_72 rfl (lv_at hl 0 rfl) ?_
              refine li_if_eq (tgt := 80) hx hb (by unfold iR; omega) dX1_stateOf_73 (by decide) (fun _ => ?_) (fun h => absurd (by decide) h)
              refine li_iconst hx hb dX1_stateOf_80 ?_
              refine be_i hx hb hr hlocks ?_ dX1_stateOf_81
              unfold stO; rw [zI_f (fun q => h3 q), zI_f h4, zI_f (fun q => q.elim (fun q => absurd q.2 h12) (fun q => absurd q.2 h16))]

set_option maxHeartbeats 4000000 in
set_option maxRecDepth 100000 in
theorem c_X1_isPair (l : Launch) (g : bxG) (ad : bxA) (σ τ : bxS) (w : bxW) (st p q : Int) (hRst : iR st) (hip : 0 ≤ p ∧ p < 60) (hiq : 0 ≤ q ∧ q < 60) (hB : bx_B σ) : Met l yX1_isPair wsX1_isPair ({ frames := 5, cells := 0, slots := 0, locals := 119 }) (va_Pc [.ref (ad 0 0), .int (iI st), .int (iI p), .int (iI q)] (fun U => bx_I g ad σ τ w U)) (k2_QcV (.int (iI (zB (pairP σ st p q))))) 0 0 (fun _ => False) := by
  refine Met.ofW (cc := cX1_isPair) (maxL := 6) (ret := (some .boolean)) (by decide) rfl ?_
  intro Pg Ev s mI args below meth cd s₁ B hml hv
  obtain ⟨rfl, hU, hK⟩ := hv
  have hx := B.exec
  have hb := B.bytes
  have hr := B.returns
  have hts := atoms_spec (ws := wsX1_isPair) B.pre
  have hown : s.vm.findClass RX1 = some mI.cls := findClass_of_methodNamed B.named
  have hlocks := B.notSynchronized
  have hl := lv_entry ([.ref (ad 0 0), .int (iI st), .int (iI p), .int (iI q)]) (n := 6) (Nat.le_of_ble_eq_true rfl)
  rw [lg_entry_eq]
  generalize (lg_sl ([.ref (ad 0 0), .int (iI st), .int (iI p), .int (iI q)]) ++ List.replicate (6 - (lg_sl ([.ref (ad 0 0), .int (iI st), .int (iI p), .int (iI q)])).length) Slot.unset).toArray = ls at hl ⊢
  have hl : lv_has ls 6 [(0, .ref (ad 0 0)), (1, .int (iI st)), (2, .int (iI p)), (3, .int (iI q))] := hl
  have hinX1 : ∀ w ∈ wsX10, w ∈ wsX1_isPair := by decide +kernel
  have hRst0 : -2147483648 ≤ st ∧ st < 2147483648 := hRst
  refine lv_aload_n hx hb dX1_isPair_0 rfl (lv_at hl 0 rfl) ?_
  refine bg_X1_row hx hb hts hinX1 hown hK hU (hts (.fieldLink RX1 11 "ClashBoxes" "row" "[LClashBoxes$Part;") (by decide +kernel)) dX1_isPair_1 ?_
  refine lv_iload_n hx hb dX1_isPair_4 rfl (lv_at hl 2 rfl) ?_
  refine bx_row hx hb hK hU (by omega) (by omega) dX1_isPair_5 (fun h1 => ?_) (fun h1 => ?_)
  · refine lv_astoreN (lv' := [(4, .null), (0, .ref (ad 0 0)), (1, .int (iI st)), (2, .int (iI p)), (3, .int (iI q))]) hx hb dX1_isPair_6 hl (by decide) rfl (fun ls hl => ?_)
    refine lv_aload_n hx hb dX1_isPair_8 rfl (lv_at hl 1 rfl) ?_
    refine bg_X1_row hx hb hts hinX1 hown hK hU (hts (.fieldLink RX1 11 "ClashBoxes" "row" "[LClashBoxes$Part;") (by decide +kernel)) dX1_isPair_9 ?_
    refine lv_iload_n hx hb dX1_isPair_12 rfl (lv_at hl 4 rfl) ?_
    refine bx_row hx hb hK hU (by omega) (by omega) dX1_isPair_13 (fun h3 => ?_) (fun h3 => ?_)
    · refine lv_astoreN (lv' := [(5, .null), (4, .null), (0, .ref (ad 0 0)), (1, .int (iI st)), (2, .int (iI p)), (3, .int (iI q))]) hx hb dX1_isPair_14 hl (by decide) rfl (fun ls hl => ?_)
      refine lv_aloadN hx hb dX1_isPair_16 (lv_at hl 1 rfl) ?_
      refine lv_ifnullN (tgt := 42) hx hb dX1_isPair_18 (by decide) ?_
      refine li_iconst hx hb dX1_isPair_42 ?_
      refine be_f hx hb hr hlocks ?_ dX1_isPair_43
      unfold pairP; omega
    · have hp4 : 0 ≤ q ∧ q < 60 ∧ σ 2 q 0 ≠ 0 := ⟨by omega, by omega, h3⟩
      refine lv_astore (lv' := [(5, .ref (ad 20 q)), (4, .null), (0, .ref (ad 0 0)), (1, .int (iI st)), (2, .int (iI p)), (3, .int (iI q))]) hx hb dX1_isPair_14 hl (by decide) rfl (fun ls hl => ?_)
      refine lv_aloadN hx hb dX1_isPair_16 (lv_at hl 1 rfl) ?_
      refine lv_ifnullN (tgt := 42) hx hb dX1_isPair_18 (by decide) ?_
      refine li_iconst hx hb dX1_isPair_42 ?_
      refine be_f hx hb hr hlocks ?_ dX1_isPair_43
      unfold pairP; omega
  · have hp2 : 0 ≤ p ∧ p < 60 ∧ σ 2 p 0 ≠ 0 := ⟨by omega, by omega, h1⟩
    refine lv_astore (lv' := [(4, .ref (ad 20 p)), (0, .ref (ad 0 0)), (1, .int (iI st)), (2, .int (iI p)), (3, .int (iI q))]) hx hb dX1_isPair_6 hl (by decide) rfl (fun ls hl => ?_)
    refine lv_aload_n hx hb dX1_isPair_8 rfl (lv_at hl 1 rfl) ?_
    refine bg_X1_row hx hb hts hinX1 hown hK hU (hts (.fieldLink RX1 11 "ClashBoxes" "row" "[LClashBoxes$Part;") (by decide +kernel)) dX1_isPair_9 ?_
    refine lv_iload_n hx hb dX1_isPair_12 rfl (lv_at hl 4 rfl) ?_
    refine bx_row hx hb hK hU (by omega) (by omega) dX1_isPair_13 (fun h5 => ?_) (fun h5 => ?_)
    · refine lv_astoreN (lv' := [(5, .null), (4, .ref (ad 20 p)), (0, .ref (ad 0 0)), (1, .int (iI st)), (2, .int (iI p)), (3, .int (iI q))]) hx hb dX1_isPair_14 hl (by decide) rfl (fun ls hl => ?_)
      refine lv_aload hx hb dX1_isPair_16 (lv_at hl 1 rfl) ?_
      refine lv_ifnull hx hb dX1_isPair_18 ?_
      refine lv_aloadN hx hb dX1_isPair_21 (lv_at hl 0 rfl) ?_
      refine lv_ifnullN (tgt := 42) hx hb dX1_isPair_23 (by decide) ?_
      refine li_iconst hx hb dX1_isPair_42 ?_
      refine be_f hx hb hr hlocks ?_ dX1_isPair_43
      unfold pairP; omega
    · have hp6 : 0 ≤ q ∧ q < 60 ∧ σ 2 q 0 ≠ 0 := ⟨by omega, by omega, h5⟩
      refine lv_astore (lv' := [(5, .ref (ad 20 q)), (4, .ref (ad 20 p)), (0, .ref (ad 0 0)), (1, .int (iI st)), (2, .int (iI p)), (3, .int (iI q))]) hx hb dX1_isPair_14 hl (by decide) rfl (fun ls hl => ?_)
      refine lv_aload hx hb dX1_isPair_16 (lv_at hl 1 rfl) ?_
      refine lv_ifnull hx hb dX1_isPair_18 ?_
      refine lv_aload hx hb dX1_isPair_21 (lv_at hl 0 rfl) ?_
      refine lv_ifnull hx hb dX1_isPair_23 ?_
      refine lv_aload_n hx hb dX1_isPair_26 rfl (lv_at hl 2 rfl) ?_
      refine lv_aload hx hb dX1_isPair_27 (lv_at hl 1 rfl) ?_
      refine lv_aload hx hb dX1_isPair_29 (lv_at hl 0 rfl) ?_
      refine bc_V (As := [.ref (ad 20 p), .ref (ad 20 q)]) (rest := []) (kd := 0) (k := 0) (ci := 1) ⟨hx, hb, hml, hown, hts⟩ (c_X1_stateOf l g ad σ τ w p q hp2 hp6 hB) (cwV 2 hts gX1_isPair_X1_stateOf rfl rfl rfl (by decide +kernel) ⟨Nat.le_of_ble_eq_true rfl, Nat.le_of_ble_eq_true rfl⟩) hK hU (bx_L0 (by omega)) rfl rfl rfl hl.1 rfl (Nat.le_of_ble_eq_true rfl) dX1_isPair_31 ⟨Nat.zero_le _, Nat.zero_le _⟩ ?_
      have h7 := stO_bd σ p q
      refine lv_iload_n hx hb dX1_isPair_34 rfl (lv_at hl 3 rfl) ?_
      refine li_icmp_ne (tgt := 42) hx hb (by unfold iR; omega) (by unfold iR; omega) dX1_isPair_35 (by decide) (fun h8 => ?_) (fun h8 => ?_)
      · refine li_iconst hx hb dX1_isPair_42 ?_
        refine be_f hx hb hr hlocks ?_ dX1_isPair_43
        unfold pairP; omega
      · refine li_iconst hx hb dX1_isPair_38 ?_
        refine lv_goto (tgt := 43) hx hb dX1_isPair_39 (by decide) ?_
        refine be_t hx hb hr hlocks ?_ dX1_isPair_43
        unfold pairP; omega

set_option maxHeartbeats 4000000 in
set_option maxRecDepth 100000 in
theorem c_X1_countPartners (l : Launch) (g : bxG) (ad : bxA) (σ τ : bxS) (w : bxW) (st p : Int) (hRst : iR st) (hip : 0 ≤ p ∧ p < 60) (hB : bx_B σ) : Met l yX1_countPartners wsX1_countPartners ({ frames := 6, cells := 0, slots := 0, locals := 144 }) (va_Pc [.ref (ad 0 0), .int (iI st), .int (iI p)] (fun U => bx_I g ad σ τ w U)) (k2_QcV (.int (iI (pcnt σ st p)))) 0 0 (fun _ => False) := by
  refine Met.ofW (cc := cX1_countPartners) (maxL := 5) (ret := (some .int)) (by decide) rfl ?_
  intro Pg Ev s mI args below meth cd s₁ B hml hv
  obtain ⟨rfl, hU, hK⟩ := hv
  have hx := B.exec
  have hb := B.bytes
  have hr := B.returns
  have hts := atoms_spec (ws := wsX1_countPartners) B.pre
  have hown : s.vm.findClass RX1 = some mI.cls := findClass_of_methodNamed B.named
  have hlocks := B.notSynchronized
  have hl := lv_entry ([.ref (ad 0 0), .int (iI st), .int (iI p)]) (n := 5) (Nat.le_of_ble_eq_true rfl)
  rw [lg_entry_eq]
  generalize (lg_sl ([.ref (ad 0 0), .int (iI st), .int (iI p)]) ++ List.replicate (5 - (lg_sl ([.ref (ad 0 0), .int (iI st), .int (iI p)])).length) Slot.unset).toArray = ls at hl ⊢
  have hl : lv_has ls 5 [(0, .ref (ad 0 0)), (1, .int (iI st)), (2, .int (iI p))] := hl
  have hinX1 : ∀ w ∈ wsX10, w ∈ wsX1_countPartners := by decide +kernel
  have hRst0 : -2147483648 ≤ st ∧ st < 2147483648 := hRst
  refine li_iconst hx hb dX1_countPartners_0 ?_
  refine lv_istore_n (lv' := [(3, .int (iI 0)), (0, .ref (ad 0 0)), (1, .int (iI st)), (2, .int (iI p))]) hx hb dX1_countPartners_1 rfl hl (by decide) rfl (fun ls hl => ?_)
  refine lv_iload_n hx hb dX1_countPartners_2 rfl (lv_at hl 3 rfl) ?_
  refine li_iconst hx hb dX1_countPartners_3 ?_
  refine li_iadd hx hb dX1_countPartners_4 ?_
  refine lv_istore (lv' := [(4, .int (iI (p + 1))), (3, .int (iI 0)), (0, .ref (ad 0 0)), (1, .int (iI st)), (2, .int (iI p))]) hx hb dX1_countPartners_5 hl (by decide) rfl (fun ls hl => ?_)
  refine bl_loop (V := Int × Int) (nL := 5) (I := fun v => [(4, .int (iI v.1)), (3, .int (iI v.2)), (0, .ref (ad 0 0)), (1, .int (iI st)), (2, .int (iI p))]) (Inv := fun v => (p + 1 ≤ v.1) ∧ (v.1 ≤ 60) ∧ (v.2 = cnt (pairP σ st p) (p + 1) v.1 ∧ (v.1 ≤ p + 1 ∨ v.1 ≤ σ 0 0 0))) (μ := fun v => 60 - v.1) ?_ (p + 1, 0) (show (p + 1 ≤ (p + 1)) ∧ ((p + 1) ≤ 60) ∧ (0 = cnt (pairP σ st p) (p + 1) (p + 1) ∧ ((p + 1) ≤ p + 1 ∨ (p + 1) ≤ σ 0 0 0)) from ⟨by omega, by omega, by rw [cnt_0 _ (by omega)]; omega⟩) ls (lv_sub hl [0, 1, 2, 3, 4] rfl)
  rintro ⟨i1, k1⟩ hI ih1 ls hl
  have hI : (p + 1 ≤ i1) ∧ (i1 ≤ 60) ∧ (k1 = cnt (pairP σ st p) (p + 1) i1 ∧ (i1 ≤ p + 1 ∨ i1 ≤ σ 0 0 0)) := hI
  obtain ⟨ha1, hb1, hc1⟩ := hI
  have hl : lv_has ls 5 [(4, .int (iI i1)), (3, .int (iI k1)), (0, .ref (ad 0 0)), (1, .int (iI st)), (2, .int (iI p))] := hl
  have hcb := cnt_bd (pairP σ st p) (p + 1) i1
  have hm0 := bB0 hB
  refine lv_iload hx hb dX1_countPartners_7 (lv_at hl 0 rfl) ?_
  refine lv_aload_n hx hb dX1_countPartners_9 rfl (lv_at hl 2 rfl) ?_
  refine bg_X1_made hx hb hts hinX1 hown hK hU (hts (.fieldLink RX1 19 "ClashBoxes" "made" "I") (by decide +kernel)) dX1_countPartners_10 ?_
  have b2 := bB0 hB
  refine li_icmp_ge (tgt := 36) hx hb (by unfold iR; omega) (by unfold iR; omega) dX1_countPartners_13 (by decide) (fun h3 => ?_) (fun h3 => ?_)
  · refine lv_iload_n hx hb dX1_countPartners_36 rfl (lv_at hl 1 rfl) ?_
    refine be_i hx hb hr hlocks ?_ dX1_countPartners_37
    (have hz := cnt_z (pairP σ st p) (lo := p + 1) (hi := σ 0 0 0)); (have he : cnt (pairP σ st p) (p + 1) i1 = cnt (pairP σ st p) (p + 1) (σ 0 0 0) := by rcases (by omega : i1 = σ 0 0 0 ∨ (σ 0 0 0 ≤ p + 1 ∧ i1 ≤ p + 1)) with q | q; (rw [q]); (rw [cnt_0 _ q.1, cnt_0 _ q.2])); show _ = cnt _ _ _; omega
  · refine lv_aload_n hx hb dX1_countPartners_16 rfl (lv_at hl 2 rfl) ?_
    refine lv_iload_n hx hb dX1_countPartners_17 rfl (lv_at hl 3 rfl) ?_
    refine lv_iload_n hx hb dX1_countPartners_18 rfl (lv_at hl 4 rfl) ?_
    refine lv_iload hx hb dX1_countPartners_19 (lv_at hl 0 rfl) ?_
    refine bc_VB (As := [.int (iI st), .int (iI p), .int (iI i1)]) (rest := []) (kd := 0) (k := 0) (ci := 1) ⟨hx, hb, hml, hown, hts⟩ (c_X1_isPair l g ad σ τ w st p i1 (by unfold iR; omega) (by omega) (by omega) hB) (cwV 3 hts gX1_countPartners_X1_isPair rfl rfl rfl (by decide +kernel) ⟨Nat.le_of_ble_eq_true rfl, Nat.le_of_ble_eq_true rfl⟩) hK hU (bx_L0 (by omega)) rfl rfl rfl hl.1 rfl (Nat.le_of_ble_eq_true rfl) dX1_countPartners_21 ⟨Nat.zero_le _, Nat.zero_le _⟩ (fun h4 => ?_) (fun h4 => ?_)
    · refine li_if_eq (tgt := 30) hx hb (by unfold iR; omega) dX1_countPartners_24 (by decide) (fun h => absurd h (by decide)) (fun _ => ?_)
      refine li_iinc (k0 := 1) (lv' := [(3, .int (iI (k1 + 1))), (4, .int (iI i1)), (0, .ref (ad 0 0)), (1, .int (iI st)), (2, .int (iI p))]) hx hb dX1_countPartners_27 hl rfl (by decide) rfl (fun ls hl => ?_)
      refine li_iinc (k0 := 1) (lv' := [(4, .int (iI (i1 + 1))), (3, .int (iI (k1 + 1))), (0, .ref (ad 0 0)), (1, .int (iI st)), (2, .int (iI p))]) hx hb dX1_countPartners_30 hl rfl (by decide) rfl (fun ls hl => ?_)
      refine lv_goto (tgt := 7) hx hb dX1_countPartners_33 (by decide) ?_
      exact ih1 (i1 + 1, k1 + 1) (show (p + 1 ≤ (i1 + 1)) ∧ ((i1 + 1) ≤ 60) ∧ ((k1 + 1) = cnt (pairP σ st p) (p + 1) (i1 + 1) ∧ ((i1 + 1) ≤ p + 1 ∨ (i1 + 1) ≤ σ 0 0 0)) from ⟨by omega, by omega, by rw [cnt_s _ (by omega), zB_t h4]; omega⟩) (show 0 ≤ 60 - (i1 + 1) by omega) (show 60 - (i1 + 1) < 60 - i1 by omega) ls (lv_sub hl [0, 1, 2, 3, 4] rfl)
    · refine li_if_eq (tgt := 30) hx hb (by unfold iR; omega) dX1_countPartners_24 (by decide) (fun _ => ?_) (fun h => absurd (by decide) h)
      refine li_iinc (k0 := 0) (lv' := [(4, .int (iI (i1 + 1))), (3, .int (iI k1)), (0, .ref (ad 0 0)), (1, .int (iI st)), (2, .int (iI p))]) hx hb dX1_countPartners_30 hl rfl (by decide) rfl (fun ls hl => ?_)
      refine lv_goto (tgt := 7) hx hb dX1_countPartners_33 (by decide) ?_
      exact ih1 (i1 + 1, k1) (show (p + 1 ≤ (i1 + 1)) ∧ ((i1 + 1) ≤ 60) ∧ (k1 = cnt (pairP σ st p) (p + 1) (i1 + 1) ∧ ((i1 + 1) ≤ p + 1 ∨ (i1 + 1) ≤ σ 0 0 0)) from ⟨by omega, by omega, by rw [cnt_s _ (by omega), zB_f h4]; omega⟩) (show 0 ≤ 60 - (i1 + 1) by omega) (show 60 - (i1 + 1) < 60 - i1 by omega) ls (lv_sub hl [0, 1, 2, 3, 4] rfl)
