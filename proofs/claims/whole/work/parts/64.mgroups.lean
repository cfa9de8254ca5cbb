set_option maxHeartbeats 4000000 in
set_option maxRecDepth 100000 in
theorem c_X2_findGroups (l : Launch) (g : bxG) (ad : bxA) (σ τ : bxS) (w : bxW) (N : Int → Int) (hBt : bx_B τ) (hM : bx_M τ) : Met l yX2_findGroups wsX2_findGroups ({ frames := 5, cells := 0, slots := 0, locals := 127 }) (va_Pc [.ref (ad 7 0)] (fun U => bx_I g ad σ (setF τ 10 N) w U)) (bq_W none g ad σ (setF τ 10 (gnm (eff τ) N)) w) 0 0 (bq_fr g) := by
  refine Met.ofW (cc := cX2_findGroups) (maxL := 6) (ret := none) (by decide) rfl ?_
  intro Pg Ev s mI args below meth cd s₁ B hml hv
  obtain ⟨rfl, hU, hK⟩ := hv
  have hx := B.exec
  have hb := B.bytes
  have hr := B.returns
  have hts := atoms_spec (ws := wsX2_findGroups) B.pre
  have hown : s.vm.findClass RX2 = some mI.cls := findClass_of_methodNamed B.named
  have hlocks := B.notSynchronized
  have hF : bx_F g s.heap s.heap := bx_F.rf
  have hlc : bx_Lc g [] := bx_Lc.nil
  have hl := lv_entry ([.ref (ad 7 0)]) (n := 6) (Nat.le_of_ble_eq_true rfl)
  rw [lg_entry_eq]
  generalize (lg_sl ([.ref (ad 7 0)]) ++ List.replicate (6 - (lg_sl ([.ref (ad 7 0)])).length) Slot.unset).toArray = ls at hl ⊢
  have hl : lv_has ls 6 [(0, .ref (ad 7 0))] := hl
  have hinX2 : ∀ w ∈ wsX20, w ∈ wsX2_findGroups := by decide +kernel
  have hm0 := bB0 hBt
  refine li_iconst hx hb dX2_findGroups_0 ?_
  refine lv_istore_n (lv' := [(1, .int (iI 0)), (0, .ref (ad 7 0))]) hx hb dX2_findGroups_1 rfl hl (by decide) rfl (fun ls hl => ?_)
  refine bl_loopW (V := Int) (nL := 6) (S := fun v => σ) (T := fun v => setF τ 10 (nin N v)) (I := fun v => [(1, .int (iI v)), (0, .ref (ad 7 0))]) (Inv := fun v => (0 ≤ v ∧ v ≤ τ 0 0 0)) (μ := fun v => 60 - v) ?_ (0) _ _ (show (0 ≤ 0 ∧ 0 ≤ τ 0 0 0) from (by omega)) (by show bx_U g ad σ (setF τ 10 (nin N 0)) w _; rw [nin_0]; exact hU) hF hlc ls (lv_sub hl [0, 1] rfl)
  intro i1 H locs hI hU hF hlc ih1 ls hl
  have hI : (0 ≤ i1 ∧ i1 ≤ τ 0 0 0) := hI
  have ha1 := hI
  have hl : lv_has ls 6 [(1, .int (iI i1)), (0, .ref (ad 7 0))] := hl
  have hU : bx_U g ad σ (setF τ 10 (nin N i1)) w H := hU
  have hm0 := bB0 hBt
  refine lv_iload_n hx hb dX2_findGroups_2 rfl (lv_at hl 0 rfl) ?_
  refine lv_aload_n hx hb dX2_findGroups_3 rfl (lv_at hl 1 rfl) ?_
  refine bg_X2_made hx hb hts hinX2 hown hK hU (hts (.fieldLink RX2 49 "ClashBoxesModel" "made" "I") (by decide +kernel)) dX2_findGroups_4 ?_
  refine W.eq (g2 := F0 mI 7 ls [.int (iI (τ 0 0 0)), .int (iI i1)]) rfl ?_
  have b2 := bB0 hBt
  refine li_icmp_ge (tgt := 23) hx hb (by unfold iR; omega) (by unfold iR; omega) dX2_findGroups_7 (by decide) (fun h3 => ?_) (fun h3 => ?_)
  · refine li_iconst hx hb dX2_findGroups_23 ?_
    refine lv_istore_n (lv' := [(1, .int (iI 0)), (0, .ref (ad 7 0))]) hx hb dX2_findGroups_24 rfl hl (by decide) rfl (fun ls hl => ?_)
    refine bl_loopW (V := Int) (nL := 6) (S := fun v => σ) (T := fun v => setF τ 10 (gOf (eff τ) (nin N (τ 0 0 0)) v)) (I := fun v => [(1, .int (iI v)), (0, .ref (ad 7 0))]) (Inv := fun v => (0 ≤ v ∧ v ≤ τ 0 0 0)) (μ := fun v => 60 - v) ?_ (0) _ _ (show (0 ≤ 0 ∧ 0 ≤ τ 0 0 0) from (by omega)) (by show bx_U g ad σ (setF τ 10 (gOf (eff τ) (nin N (τ 0 0 0)) 0)) w _; rw [gOf_0, show τ 0 0 0 = i1 by omega]; exact hU) hF hlc ls (lv_sub hl [0, 1] rfl)
    intro i4 H locs hI hU hF hlc ih4 ls hl
    have hI : (0 ≤ i4 ∧ i4 ≤ τ 0 0 0) := hI
    have hb4 := hI
    have hl : lv_has ls 6 [(1, .int (iI i4)), (0, .ref (ad 7 0))] := hl
    have hU : bx_U g ad σ (setF τ 10 (gOf (eff τ) (nin N (τ 0 0 0)) i4)) w H := hU
    have hm0 := bB0 hBt
    refine lv_iload_n hx hb dX2_findGroups_25 rfl (lv_at hl 0 rfl) ?_
    refine lv_aload_n hx hb dX2_findGroups_26 rfl (lv_at hl 1 rfl) ?_
    refine bg_X2_made hx hb hts hinX2 hown hK hU (hts (.fieldLink RX2 49 "ClashBoxesModel" "made" "I") (by decide +kernel)) dX2_findGroups_27 ?_
    refine W.eq (g2 := F0 mI 30 ls [.int (iI (τ 0 0 0)), .int (iI i4)]) rfl ?_
    have b5 := bB0 hBt
    refine li_icmp_ge (tgt := 196) hx hb (by unfold iR; omega) (by unfold iR; omega) dX2_findGroups_30 (by decide) (fun h6 => ?_) (fun h6 => ?_)
    · exact bw_n hx hb hr hlocks (by show bx_U g ad σ (setF τ 10 (gOf (eff τ) (nin N (τ 0 0 0)) (τ 0 0 0))) w _; (have e9 : i4 = τ 0 0 0 := by omega); rw [e9] at hU; exact hU) hF hlc dX2_findGroups_196
    · refine lv_iload_n hx hb dX2_findGroups_33 rfl (lv_at hl 0 rfl) ?_
      refine li_iconst hx hb dX2_findGroups_34 ?_
      refine li_iadd hx hb dX2_findGroups_35 ?_
      refine lv_istore_n (lv' := [(2, .int (iI (i4 + 1))), (1, .int (iI i4)), (0, .ref (ad 7 0))]) hx hb dX2_findGroups_36 rfl hl (by decide) rfl (fun ls hl => ?_)
      refine bl_loopW (V := Int) (nL := 6) (S := fun v => σ) (T := fun v => setF τ 10 (gIf (eff τ) i4 (gOf (eff τ) (nin N (τ 0 0 0)) i4) v)) (I := fun v => [(2, .int (iI v)), (0, .ref (ad 7 0)), (1, .int (iI i4))]) (Inv := fun v => (i4 + 1 ≤ v ∧ v ≤ τ 0 0 0)) (μ := fun v => 60 - v) ?_ (i4 + 1) _ _ (show (i4 + 1 ≤ (i4 + 1) ∧ (i4 + 1) ≤ τ 0 0 0) from (by omega)) (by show bx_U g ad σ (setF τ 10 (gIf (eff τ) i4 (gOf (eff τ) (nin N (τ 0 0 0)) i4) (i4 + 1))) w _; rw [gIf_0]; exact hU) hF hlc ls (lv_sub hl [0, 2, 1] rfl)
      intro j7 H locs hI hU hF hlc ih7 ls hl
      have hI : (i4 + 1 ≤ j7 ∧ j7 ≤ τ 0 0 0) := hI
      have hd7 := hI
      have hl : lv_has ls 6 [(2, .int (iI j7)), (0, .ref (ad 7 0)), (1, .int (iI i4))] := hl
      have hU : bx_U g ad σ (setF τ 10 (gIf (eff τ) i4 (gOf (eff τ) (nin N (τ 0 0 0)) i4) j7)) w H := hU
      have hm0 := bB0 hBt
      have hnm : nmB (eff τ) (gIf (eff τ) i4 (gOf (eff τ) (nin N (τ 0 0 0)) i4) j7) := nmB_gIf (nmB_gOf (nmB_nin (eff τ) N) (show i4 ≤ τ 0 0 0 by omega)) (show 0 ≤ i4 ∧ i4 < τ 0 0 0 by omega) (show j7 ≤ τ 0 0 0 by omega)
      have hbi : 0 ≤ gIf (eff τ) i4 (gOf (eff τ) (nin N (τ 0 0 0)) i4) j7 i4 ∧ gIf (eff τ) i4 (gOf (eff τ) (nin N (τ 0 0 0)) i4) j7 i4 < τ 0 0 0 := hnm i4 (by omega) (show i4 < τ 0 0 0 by omega)
      refine lv_iload_n hx hb dX2_findGroups_37 rfl (lv_at hl 0 rfl) ?_
      refine lv_aload_n hx hb dX2_findGroups_38 rfl (lv_at hl 1 rfl) ?_
      refine bg_X2_made hx hb hts hinX2 hown hK hU (hts (.fieldLink RX2 49 "ClashBoxesModel" "made" "I") (by decide +kernel)) dX2_findGroups_39 ?_
      refine W.eq (g2 := F0 mI 42 ls [.int (iI (τ 0 0 0)), .int (iI j7)]) rfl ?_
      have b8 := bB0 hBt
      refine li_icmp_ge (tgt := 190) hx hb (by unfold iR; omega) (by unfold iR; omega) dX2_findGroups_42 (by decide) (fun h9 => ?_) (fun h9 => ?_)
      · refine li_iinc (k0 := 2) (lv' := [(1, .int (iI (i4 + 1))), (2, .int (iI j7)), (0, .ref (ad 7 0))]) hx hb dX2_findGroups_190 hl rfl (by decide) rfl (fun ls hl => ?_)
        refine lv_goto (tgt := 25) hx hb dX2_findGroups_193 (by decide) ?_
        exact ih4 (i4 + 1) _ _ (show (0 ≤ (i4 + 1) ∧ (i4 + 1) ≤ τ 0 0 0) from (by omega)) (by show bx_U g ad σ (setF τ 10 (gOf (eff τ) (nin N (τ 0 0 0)) (i4 + 1))) w _; rw [gOf_s (eff τ) _ (show 0 ≤ i4 by omega), show (eff τ) 0 0 0 = j7 by show τ 0 0 0 = j7; omega]; exact hU) hF hlc (show 0 ≤ 60 - (i4 + 1) by omega) (show 60 - (i4 + 1) < 60 - i4 by omega) ls (lv_sub hl [0, 2] rfl)
      · have hbj : 0 ≤ gIf (eff τ) i4 (gOf (eff τ) (nin N (τ 0 0 0)) i4) j7 j7 ∧ gIf (eff τ) i4 (gOf (eff τ) (nin N (τ 0 0 0)) i4) j7 j7 < τ 0 0 0 := hnm j7 (by omega) (show j7 < τ 0 0 0 by omega)
        refine lv_aload_n hx hb dX2_findGroups_45 rfl (lv_at hl 1 rfl) ?_
        refine bg_X2_isThere hx hb hts hinX2 hown hK hU (hts (.fieldLink RX2 7 "ClashBoxesModel" "isThere" "[Z") (by decide +kernel)) dX2_findGroups_46 ?_
        refine lv_iload_n hx hb dX2_findGroups_49 rfl (lv_at hl 2 rfl) ?_
        refine bl_8 hx hb hK hU (by omega) (by omega) dX2_findGroups_50 ?_
        refine W.eq (g2 := F0 mI 51 ls [.int (iI (τ 2 i4 0))]) rfl ?_
        have b10 := bB2 hBt (k := i4) (by omega) (by omega)
        refine li_if_eq (tgt := 184) hx hb (by unfold iR; omega) dX2_findGroups_51 (by decide) (fun h11 => ?_) (fun h11 => ?_)
        · refine li_iinc (k0 := 0) (lv' := [(2, .int (iI (j7 + 1))), (0, .ref (ad 7 0)), (1, .int (iI i4))]) hx hb dX2_findGroups_184 hl rfl (by decide) rfl (fun ls hl => ?_)
          refine lv_goto (tgt := 37) hx hb dX2_findGroups_187 (by decide) ?_
          exact ih7 (j7 + 1) _ _ (show (i4 + 1 ≤ (j7 + 1) ∧ (j7 + 1) ≤ τ 0 0 0) from (by omega)) (by show bx_U g ad σ (setF τ 10 (gIf (eff τ) i4 (gOf (eff τ) (nin N (τ 0 0 0)) i4) (j7 + 1))) w _; rw [gIf_s (eff τ) _ (show i4 + 1 ≤ j7 by omega)]; unfold gstep; rw [zA_f (fun q => q.2.1 h11)]; exact hU) hF hlc (show 0 ≤ 60 - (j7 + 1) by omega) (show 60 - (j7 + 1) < 60 - j7 by omega) ls (lv_sub hl [0, 1, 2] rfl)
        · refine lv_aload_n hx hb dX2_findGroups_54 rfl (lv_at hl 1 rfl) ?_
          refine bg_X2_isThere hx hb hts hinX2 hown hK hU (hts (.fieldLink RX2 7 "ClashBoxesModel" "isThere" "[Z") (by decide +kernel)) dX2_findGroups_55 ?_
          refine lv_iload_n hx hb dX2_findGroups_58 rfl (lv_at hl 0 rfl) ?_
          refine bl_8 hx hb hK hU (by omega) (by omega) dX2_findGroups_59 ?_
          refine W.eq (g2 := F0 mI 60 ls [.int (iI (τ 2 j7 0))]) rfl ?_
          have b12 := bB2 hBt (k := j7) (by omega) (by omega)
          refine li_if_eq (tgt := 184) hx hb (by unfold iR; omega) dX2_findGroups_60 (by decide) (fun h13 => ?_) (fun h13 => ?_)
          · refine li_iinc (k0 := 0) (lv' := [(2, .int (iI (j7 + 1))), (0, .ref (ad 7 0)), (1, .int (iI i4))]) hx hb dX2_findGroups_184 hl rfl (by decide) rfl (fun ls hl => ?_)
            refine lv_goto (tgt := 37) hx hb dX2_findGroups_187 (by decide) ?_
            exact ih7 (j7 + 1) _ _ (show (i4 + 1 ≤ (j7 + 1) ∧ (j7 + 1) ≤ τ 0 0 0) from (by omega)) (by show bx_U g ad σ (setF τ 10 (gIf (eff τ) i4 (gOf (eff τ) (nin N (τ 0 0 0)) i4) (j7 + 1))) w _; rw [gIf_s (eff τ) _ (show i4 + 1 ≤ j7 by omega)]; unfold gstep; rw [zA_f (fun q => q.2.2.1 h13)]; exact hU) hF hlc (show 0 ≤ 60 - (j7 + 1) by omega) (show 60 - (j7 + 1) < 60 - j7 by omega) ls (lv_sub hl [0, 1, 2] rfl)
          · refine lv_aload_n hx hb dX2_findGroups_63 rfl (lv_at hl 1 rfl) ?_
            refine bg_X2_groups hx hb hts hinX2 hown hK hU (hts (.fieldLink RX2 35 "ClashBoxesModel" "groups" "[I") (by decide +kernel)) dX2_findGroups_64 ?_
            refine lv_iload_n hx hb dX2_findGroups_67 rfl (lv_at hl 2 rfl) ?_
            refine bl_16 hx hb hK hU (by omega) (by omega) dX2_findGroups_68 ?_
            refine W.eq (g2 := F0 mI 69 ls [.int (iI ((gIf (eff τ) i4 (gOf (eff τ) (nin N (τ 0 0 0)) i4) j7) i4))]) rfl ?_
            refine lv_aload_n hx hb dX2_findGroups_69 rfl (lv_at hl 1 rfl) ?_
            refine bg_X2_groups hx hb hts hinX2 hown hK hU (hts (.fieldLink RX2 35 "ClashBoxesModel" "groups" "[I") (by decide +kernel)) dX2_findGroups_70 ?_
            refine lv_iload_n hx hb dX2_findGroups_73 rfl (lv_at hl 0 rfl) ?_
            refine bl_16 hx hb hK hU (by omega) (by omega) dX2_findGroups_74 ?_
            refine W.eq (g2 := F0 mI 75 ls [.int (iI ((gIf (eff τ) i4 (gOf (eff τ) (nin N (τ 0 0 0)) i4) j7) j7)), .int (iI ((gIf (eff τ) i4 (gOf (eff τ) (nin N (τ 0 0 0)) i4) j7) i4))]) rfl ?_
            refine li_icmp_eq (tgt := 184) hx hb (by unfold iR; omega) (by unfold iR; omega) dX2_findGroups_75 (by decide) (fun h16 => ?_) (fun h16 => ?_)
            · refine li_iinc (k0 := 0) (lv' := [(2, .int (iI (j7 + 1))), (0, .ref (ad 7 0)), (1, .int (iI i4))]) hx hb dX2_findGroups_184 hl rfl (by decide) rfl (fun ls hl => ?_)
              refine lv_goto (tgt := 37) hx hb dX2_findGroups_187 (by decide) ?_
              exact ih7 (j7 + 1) _ _ (show (i4 + 1 ≤ (j7 + 1) ∧ (j7 + 1) ≤ τ 0 0 0) from (by omega)) (by show bx_U g ad σ (setF τ 10 (gIf (eff τ) i4 (gOf (eff τ) (nin N (τ 0 0 0)) i4) (j7 + 1))) w _; rw [gIf_s (eff τ) _ (show i4 + 1 ≤ j7 by omega)]; unfold gstep; rw [zA_f (fun q => q.1 h16)]; exact hU) hF hlc (show 0 ≤ 60 - (j7 + 1) by omega) (show 60 - (j7 + 1) < 60 - j7 by omega) ls (lv_sub hl [0, 1, 2] rfl)
            · have hz17 : 0 ≤ i4 ∧ i4 < 60 ∧ τ 2 i4 0 ≠ 0 := ⟨by omega, by omega, by omega⟩
              have hz18 : 0 ≤ j7 ∧ j7 < 60 ∧ τ 2 j7 0 ≠ 0 := ⟨by omega, by omega, by omega⟩
              refine lv_aload_n hx hb dX2_findGroups_78 rfl (lv_at hl 1 rfl) ?_
              refine lv_iload_n hx hb dX2_findGroups_79 rfl (lv_at hl 2 rfl) ?_
              refine lv_iload_n hx hb dX2_findGroups_80 rfl (lv_at hl 0 rfl) ?_
              refine bc_V (As := [.int (iI i4), .int (iI j7)]) (rest := []) (kd := 7) (k := 0) (ci := 2) ⟨hx, hb, hml, hown, hts⟩ (c_X2_stateOf_N l g ad σ τ w (gIf (eff τ) i4 (gOf (eff τ) (nin N (τ 0 0 0)) i4) j7) i4 j7 hz17 hz18 hBt hM) (cwV 2 hts gX2_findGroups_X2_stateOf rfl rfl rfl (by decide +kernel) ⟨Nat.le_of_ble_eq_true rfl, Nat.le_of_ble_eq_true rfl⟩) hK hU (bx_L0 (by omega)) rfl rfl rfl hl.1 rfl (Nat.le_of_ble_eq_true rfl) dX2_findGroups_81 ⟨Nat.le_of_ble_eq_true rfl, Nat.le_of_ble_eq_true rfl⟩ ?_
              have h19 := stO_bd (eff τ) i4 j7
              refine li_iconst hx hb dX2_findGroups_84 ?_
              refine li_icmp_ne (tgt := 184) hx hb (by unfold iR; omega) (by unfold iR; omega) dX2_findGroups_85 (by decide) (fun h20 => ?_) (fun h20 => ?_)
              · refine li_iinc (k0 := 0) (lv' := [(2, .int (iI (j7 + 1))), (0, .ref (ad 7 0)), (1, .int (iI i4))]) hx hb dX2_findGroups_184 hl rfl (by decide) rfl (fun ls hl => ?_)
                refine lv_goto (tgt := 37) hx hb dX2_findGroups_187 (by decide) ?_
                exact ih7 (j7 + 1) _ _ (show (i4 + 1 ≤ (j7 + 1) ∧ (j7 + 1) ≤ τ 0 0 0) from (by omega)) (by show bx_U g ad σ (setF τ 10 (gIf (eff τ) i4 (gOf (eff τ) (nin N (τ 0 0 0)) i4) (j7 + 1))) w _; rw [gIf_s (eff τ) _ (show i4 + 1 ≤ j7 by omega)]; unfold gstep; rw [zA_f (fun q => h20 q.2.2.2)]; exact hU) hF hlc (show 0 ≤ 60 - (j7 + 1) by omega) (show 60 - (j7 + 1) < 60 - j7 by omega) ls (lv_sub hl [0, 1, 2] rfl)
              · refine W.cut (g2 := F0 mI 118 ls [.int (iI (min (gIf (eff τ) i4 (gOf (eff τ) (nin N (τ 0 0 0)) i4) j7 i4) (gIf (eff τ) i4 (gOf (eff τ) (nin N (τ 0 0 0)) i4) j7 j7)))]) ?_ (fun key21 => ?_)
                · refine lv_istore_n (lv' := [(3, .int (iI (min (gIf (eff τ) i4 (gOf (eff τ) (nin N (τ 0 0 0)) i4) j7 i4) (gIf (eff τ) i4 (gOf (eff τ) (nin N (τ 0 0 0)) i4) j7 j7)))), (2, .int (iI j7)), (0, .ref (ad 7 0)), (1, .int (iI i4))]) hx hb dX2_findGroups_118 rfl hl (by decide) rfl (fun ls hl => ?_)
                  refine lv_aload_n hx hb dX2_findGroups_119 rfl (lv_at hl 2 rfl) ?_
                  refine bg_X2_groups hx hb hts hinX2 hown hK hU (hts (.fieldLink RX2 35 "ClashBoxesModel" "groups" "[I") (by decide +kernel)) dX2_findGroups_120 ?_
                  refine lv_iload_n hx hb dX2_findGroups_123 rfl (lv_at hl 3 rfl) ?_
                  refine bl_16 hx hb hK hU (by omega) (by omega) dX2_findGroups_124 ?_
                  refine W.eq (g2 := F0 mI 125 ls [.int (iI ((gIf (eff τ) i4 (gOf (eff τ) (nin N (τ 0 0 0)) i4) j7) i4))]) rfl ?_
                  refine lv_aload_n hx hb dX2_findGroups_125 rfl (lv_at hl 2 rfl) ?_
                  refine bg_X2_groups hx hb hts hinX2 hown hK hU (hts (.fieldLink RX2 35 "ClashBoxesModel" "groups" "[I") (by decide +kernel)) dX2_findGroups_126 ?_
                  refine lv_iload_n hx hb dX2_findGroups_129 rfl (lv_at hl 1 rfl) ?_
                  refine bl_16 hx hb hK hU (by omega) (by omega) dX2_findGroups_130 ?_
                  refine W.eq (g2 := F0 mI 131 ls [.int (iI ((gIf (eff τ) i4 (gOf (eff τ) (nin N (τ 0 0 0)) i4) j7) j7)), .int (iI ((gIf (eff τ) i4 (gOf (eff τ) (nin N (τ 0 0 0)) i4) j7) i4))]) rfl ?_
                  refine li_iadd hx hb dX2_findGroups_131 ?_
                  refine lv_iload_n hx hb dX2_findGroups_132 rfl (lv_at hl 0 rfl) ?_
                  refine li_isub hx hb dX2_findGroups_133 ?_
                  refine lv_istore (lv' := [(4, .int (iI ((((gIf (eff τ) i4 (gOf (eff τ) (nin N (τ 0 0 0)) i4) j7) i4) + ((gIf (eff τ) i4 (gOf (eff τ) (nin N (τ 0 0 0)) i4) j7) j7)) - (min (gIf (eff τ) i4 (gOf (eff τ) (nin N (τ 0 0 0)) i4) j7 i4) (gIf (eff τ) i4 (gOf (eff τ) (nin N (τ 0 0 0)) i4) j7 j7))))), (3, .int (iI (min (gIf (eff τ) i4 (gOf (eff τ) (nin N (τ 0 0 0)) i4) j7 i4) (gIf (eff τ) i4 (gOf (eff τ) (nin N (τ 0 0 0)) i4) j7 j7)))), (2, .int (iI j7)), (0, .ref (ad 7 0)), (1, .int (iI i4))]) hx hb dX2_findGroups_134 hl (by decide) rfl (fun ls hl => ?_)
                  refine li_iconst hx hb dX2_findGroups_136 ?_
                  refine lv_istore (lv' := [(5, .int (iI 0)), (4, .int (iI ((((gIf (eff τ) i4 (gOf (eff τ) (nin N (τ 0 0 0)) i4) j7) i4) + ((gIf (eff τ) i4 (gOf (eff τ) (nin N (τ 0 0 0)) i4) j7) j7)) - (min (gIf (eff τ) i4 (gOf (eff τ) (nin N (τ 0 0 0)) i4) j7 i4) (gIf (eff τ) i4 (gOf (eff τ) (nin N (τ 0 0 0)) i4) j7 j7))))), (3, .int (iI (min (gIf (eff τ) i4 (gOf (eff τ) (nin N (τ 0 0 0)) i4) j7 i4) (gIf (eff τ) i4 (gOf (eff τ) (nin N (τ 0 0 0)) i4) j7 j7)))), (2, .int (iI j7)), (0, .ref (ad 7 0)), (1, .int (iI i4))]) hx hb dX2_findGroups_137 hl (by decide) rfl (fun ls hl => ?_)
                  refine bl_loopW (V := Int) (nL := 6) (S := fun v => σ) (T := fun v => setF τ 10 (jnp (gIf (eff τ) i4 (gOf (eff τ) (nin N (τ 0 0 0)) i4) j7) v (min (gIf (eff τ) i4 (gOf (eff τ) (nin N (τ 0 0 0)) i4) j7 i4) (gIf (eff τ) i4 (gOf (eff τ) (nin N (τ 0 0 0)) i4) j7 j7)) ((((gIf (eff τ) i4 (gOf (eff τ) (nin N (τ 0 0 0)) i4) j7) i4) + ((gIf (eff τ) i4 (gOf (eff τ) (nin N (τ 0 0 0)) i4) j7) j7)) - (min (gIf (eff τ) i4 (gOf (eff τ) (nin N (τ 0 0 0)) i4) j7 i4) (gIf (eff τ) i4 (gOf (eff τ) (nin N (τ 0 0 0)) i4) j7 j7))))) (I := fun v => [(5, .int (iI v)), (0, .ref (ad 7 0)), (1, .int (iI i4)), (2, .int (iI j7)), (3, .int (iI (min (gIf (eff τ) i4 (gOf (eff τ) (nin N (τ 0 0 0)) i4) j7 i4) (gIf (eff τ) i4 (gOf (eff τ) (nin N (τ 0 0 0)) i4) j7 j7)))), (4, .int (iI ((((gIf (eff τ) i4 (gOf (eff τ) (nin N (τ 0 0 0)) i4) j7) i4) + ((gIf (eff τ) i4 (gOf (eff τ) (nin N (τ 0 0 0)) i4) j7) j7)) - (min (gIf (eff τ) i4 (gOf (eff τ) (nin N (τ 0 0 0)) i4) j7 i4) (gIf (eff τ) i4 (gOf (eff τ) (nin N (τ 0 0 0)) i4) j7 j7)))))]) (Inv := fun v => (0 ≤ v ∧ v ≤ τ 0 0 0)) (μ := fun v => 60 - v) ?_ (0) _ _ (show (0 ≤ 0 ∧ 0 ≤ τ 0 0 0) from (by omega)) (by show bx_U g ad σ (setF τ 10 (jnp (gIf (eff τ) i4 (gOf (eff τ) (nin N (τ 0 0 0)) i4) j7) 0 (min (gIf (eff τ) i4 (gOf (eff τ) (nin N (τ 0 0 0)) i4) j7 i4) (gIf (eff τ) i4 (gOf (eff τ) (nin N (τ 0 0 0)) i4) j7 j7)) ((((gIf (eff τ) i4 (gOf (eff τ) (nin N (τ 0 0 0)) i4) j7) i4) + ((gIf (eff τ) i4 (gOf (eff τ) (nin N (τ 0 0 0)) i4) j7) j7)) - (min (gIf (eff τ) i4 (gOf (eff τ) (nin N (τ 0 0 0)) i4) j7 i4) (gIf (eff τ) i4 (gOf (eff τ) (nin N (τ 0 0 0)) i4) j7 j7))))) w _; rw [jnp_0]; exact hU) hF hlc ls (lv_sub hl [0, 4, 5, 3, 2, 1] rfl)
                  intro t24 H locs hI hU hF hlc ih24 ls hl
                  have hI : (0 ≤ t24 ∧ t24 ≤ τ 0 0 0) := hI
                  have he24 := hI
                  have hl : lv_has ls 6 [(5, .int (iI t24)), (0, .ref (ad 7 0)), (1, .int (iI i4)), (2, .int (iI j7)), (3, .int (iI (min (gIf (eff τ) i4 (gOf (eff τ) (nin N (τ 0 0 0)) i4) j7 i4) (gIf (eff τ) i4 (gOf (eff τ) (nin N (τ 0 0 0)) i4) j7 j7)))), (4, .int (iI ((((gIf (eff τ) i4 (gOf (eff τ) (nin N (τ 0 0 0)) i4) j7) i4) + ((gIf (eff τ) i4 (gOf (eff τ) (nin N (τ 0 0 0)) i4) j7) j7)) - (min (gIf (eff τ) i4 (gOf (eff τ) (nin N (τ 0 0 0)) i4) j7 i4) (gIf (eff τ) i4 (gOf (eff τ) (nin N (τ 0 0 0)) i4) j7 j7)))))] := hl
                  have hU : bx_U g ad σ (setF τ 10 (jnp (gIf (eff τ) i4 (gOf (eff τ) (nin N (τ 0 0 0)) i4) j7) t24 (min (gIf (eff τ) i4 (gOf (eff τ) (nin N (τ 0 0 0)) i4) j7 i4) (gIf (eff τ) i4 (gOf (eff τ) (nin N (τ 0 0 0)) i4) j7 j7)) ((((gIf (eff τ) i4 (gOf (eff τ) (nin N (τ 0 0 0)) i4) j7) i4) + ((gIf (eff τ) i4 (gOf (eff τ) (nin N (τ 0 0 0)) i4) j7) j7)) - (min (gIf (eff τ) i4 (gOf (eff τ) (nin N (τ 0 0 0)) i4) j7 i4) (gIf (eff τ) i4 (gOf (eff τ) (nin N (τ 0 0 0)) i4) j7 j7))))) w H := hU
                  have hm0 := bB0 hBt
                  have hj9 := jnp_at (gIf (eff τ) i4 (gOf (eff τ) (nin N (τ 0 0 0)) i4) j7) (min (gIf (eff τ) i4 (gOf (eff τ) (nin N (τ 0 0 0)) i4) j7 i4) (gIf (eff τ) i4 (gOf (eff τ) (nin N (τ 0 0 0)) i4) j7 j7)) ((((gIf (eff τ) i4 (gOf (eff τ) (nin N (τ 0 0 0)) i4) j7) i4) + ((gIf (eff τ) i4 (gOf (eff τ) (nin N (τ 0 0 0)) i4) j7) j7)) - (min (gIf (eff τ) i4 (gOf (eff τ) (nin N (τ 0 0 0)) i4) j7 i4) (gIf (eff τ) i4 (gOf (eff τ) (nin N (τ 0 0 0)) i4) j7 j7))) t24
                  refine lv_iload hx hb dX2_findGroups_139 (lv_at hl 0 rfl) ?_
                  refine lv_aload_n hx hb dX2_findGroups_141 rfl (lv_at hl 1 rfl) ?_
                  refine bg_X2_made hx hb hts hinX2 hown hK hU (hts (.fieldLink RX2 49 "ClashBoxesModel" "made" "I") (by decide +kernel)) dX2_findGroups_142 ?_
                  refine W.eq (g2 := F0 mI 145 ls [.int (iI (τ 0 0 0)), .int (iI t24)]) rfl ?_
                  have b25 := bB0 hBt
                  refine li_icmp_ge (tgt := 184) hx hb (by unfold iR; omega) (by unfold iR; omega) dX2_findGroups_145 (by decide) (fun h26 => ?_) (fun h26 => ?_)
                  · refine li_iinc (k0 := 3) (lv' := [(2, .int (iI (j7 + 1))), (5, .int (iI t24)), (0, .ref (ad 7 0)), (1, .int (iI i4)), (3, .int (iI (min (gIf (eff τ) i4 (gOf (eff τ) (nin N (τ 0 0 0)) i4) j7 i4) (gIf (eff τ) i4 (gOf (eff τ) (nin N (τ 0 0 0)) i4) j7 j7)))), (4, .int (iI ((((gIf (eff τ) i4 (gOf (eff τ) (nin N (τ 0 0 0)) i4) j7) i4) + ((gIf (eff τ) i4 (gOf (eff τ) (nin N (τ 0 0 0)) i4) j7) j7)) - (min (gIf (eff τ) i4 (gOf (eff τ) (nin N (τ 0 0 0)) i4) j7 i4) (gIf (eff τ) i4 (gOf (eff τ) (nin N (τ 0 0 0)) i4) j7 j7)))))]) hx hb dX2_findGroups_184 hl rfl (by decide) rfl (fun ls hl => ?_)
                    refine lv_goto (tgt := 37) hx hb dX2_findGroups_187 (by decide) ?_
                    exact ih7 (j7 + 1) _ _ (show (i4 + 1 ≤ (j7 + 1) ∧ (j7 + 1) ≤ τ 0 0 0) from (by omega)) (by show bx_U g ad σ (setF τ 10 (gIf (eff τ) i4 (gOf (eff τ) (nin N (τ 0 0 0)) i4) (j7 + 1))) w _; rw [gIf_s (eff τ) _ (show i4 + 1 ≤ j7 by omega)]; unfold gstep; rw [zA_t ⟨h16, h11, h13, h20⟩, show (eff τ) 0 0 0 = t24 by show τ 0 0 0 = t24; omega, show max (gIf (eff τ) i4 (gOf (eff τ) (nin N (τ 0 0 0)) i4) j7 i4) (gIf (eff τ) i4 (gOf (eff τ) (nin N (τ 0 0 0)) i4) j7 j7) = (((gIf (eff τ) i4 (gOf (eff τ) (nin N (τ 0 0 0)) i4) j7) i4) + ((gIf (eff τ) i4 (gOf (eff τ) (nin N (τ 0 0 0)) i4) j7) j7)) - (min (gIf (eff τ) i4 (gOf (eff τ) (nin N (τ 0 0 0)) i4) j7 i4) (gIf (eff τ) i4 (gOf (eff τ) (nin N (τ 0 0 0)) i4) j7 j7)) by omega]; exact hU) hF hlc (show 0 ≤ 60 - (j7 + 1) by omega) (show 60 - (j7 + 1) < 60 - j7 by omega) ls (lv_sub hl [0, 2, 3] rfl)
                  · have hbt : 0 ≤ gIf (eff τ) i4 (gOf (eff τ) (nin N (τ 0 0 0)) i4) j7 t24 ∧ gIf (eff τ) i4 (gOf (eff τ) (nin N (τ 0 0 0)) i4) j7 t24 < τ 0 0 0 := hnm t24 (by omega) (show t24 < τ 0 0 0 by omega)
                    refine lv_aload_n hx hb dX2_findGroups_148 rfl (lv_at hl 1 rfl) ?_
                    refine bg_X2_groups hx hb hts hinX2 hown hK hU (hts (.fieldLink RX2 35 "ClashBoxesModel" "groups" "[I") (by decide +kernel)) dX2_findGroups_149 ?_
                    refine lv_iload hx hb dX2_findGroups_152 (lv_at hl 0 rfl) ?_
                    refine lv_aload_n hx hb dX2_findGroups_154 rfl (lv_at hl 1 rfl) ?_
                    refine bg_X2_groups hx hb hts hinX2 hown hK hU (hts (.fieldLink RX2 35 "ClashBoxesModel" "groups" "[I") (by decide +kernel)) dX2_findGroups_155 ?_
                    refine lv_iload hx hb dX2_findGroups_158 (lv_at hl 0 rfl) ?_
                    refine bl_16 hx hb hK hU (by omega) (by omega) dX2_findGroups_160 ?_
                    refine W.eq (g2 := F0 mI 161 ls [.int (iI ((jnp (gIf (eff τ) i4 (gOf (eff τ) (nin N (τ 0 0 0)) i4) j7) t24 (min (gIf (eff τ) i4 (gOf (eff τ) (nin N (τ 0 0 0)) i4) j7 i4) (gIf (eff τ) i4 (gOf (eff τ) (nin N (τ 0 0 0)) i4) j7 j7)) ((((gIf (eff τ) i4 (gOf (eff τ) (nin N (τ 0 0 0)) i4) j7) i4) + ((gIf (eff τ) i4 (gOf (eff τ) (nin N (τ 0 0 0)) i4) j7) j7)) - (min (gIf (eff τ) i4 (gOf (eff τ) (nin N (τ 0 0 0)) i4) j7 i4) (gIf (eff τ) i4 (gOf (eff τ) (nin N (τ 0 0 0)) i4) j7 j7)))) t24)), .int (iI t24), .ref (ad 16 0)]) rfl ?_
                    refine lv_iload hx hb dX2_findGroups_161 (lv_at hl 5 rfl) ?_
                    refine li_icmp_ne (tgt := 170) hx hb (by unfold iR; omega) (by unfold iR; omega) dX2_findGroups_163 (by decide) (fun h28 => ?_) (fun h28 => ?_)
                    · refine lv_aload_n hx hb dX2_findGroups_170 rfl (lv_at hl 1 rfl) ?_
                      refine bg_X2_groups hx hb hts hinX2 hown hK hU (hts (.fieldLink RX2 35 "ClashBoxesModel" "groups" "[I") (by decide +kernel)) dX2_findGroups_171 ?_
                      refine lv_iload hx hb dX2_findGroups_174 (lv_at hl 0 rfl) ?_
                      refine bl_16 hx hb hK hU (by omega) (by omega) dX2_findGroups_176 ?_
                      refine W.eq (g2 := F0 mI 177 ls [.int (iI ((jnp (gIf (eff τ) i4 (gOf (eff τ) (nin N (τ 0 0 0)) i4) j7) t24 (min (gIf (eff τ) i4 (gOf (eff τ) (nin N (τ 0 0 0)) i4) j7 i4) (gIf (eff τ) i4 (gOf (eff τ) (nin N (τ 0 0 0)) i4) j7 j7)) ((((gIf (eff τ) i4 (gOf (eff τ) (nin N (τ 0 0 0)) i4) j7) i4) + ((gIf (eff τ) i4 (gOf (eff τ) (nin N (τ 0 0 0)) i4) j7) j7)) - (min (gIf (eff τ) i4 (gOf (eff τ) (nin N (τ 0 0 0)) i4) j7 i4) (gIf (eff τ) i4 (gOf (eff τ) (nin N (τ 0 0 0)) i4) j7 j7)))) t24)), .int (iI t24), .ref (ad 16 0)]) rfl ?_
                      refine bs_16 hx hb hK hU hlc (by omega) (by omega) dX2_findGroups_177 (fun H locs hU hF1 hlc => ?_)
                      have hF := hF.tr hF1
                      have hU : bx_U g ad σ (setF τ 10 (fun j => if j = t24 then (jnp (gIf (eff τ) i4 (gOf (eff τ) (nin N (τ 0 0 0)) i4) j7) t24 (min (gIf (eff τ) i4 (gOf (eff τ) (nin N (τ 0 0 0)) i4) j7 i4) (gIf (eff τ) i4 (gOf (eff τ) (nin N (τ 0 0 0)) i4) j7 j7)) ((((gIf (eff τ) i4 (gOf (eff τ) (nin N (τ 0 0 0)) i4) j7) i4) + ((gIf (eff τ) i4 (gOf (eff τ) (nin N (τ 0 0 0)) i4) j7) j7)) - (min (gIf (eff τ) i4 (gOf (eff τ) (nin N (τ 0 0 0)) i4) j7 i4) (gIf (eff τ) i4 (gOf (eff τ) (nin N (τ 0 0 0)) i4) j7 j7)))) t24 else (jnp (gIf (eff τ) i4 (gOf (eff τ) (nin N (τ 0 0 0)) i4) j7) t24 (min (gIf (eff τ) i4 (gOf (eff τ) (nin N (τ 0 0 0)) i4) j7 i4) (gIf (eff τ) i4 (gOf (eff τ) (nin N (τ 0 0 0)) i4) j7 j7)) ((((gIf (eff τ) i4 (gOf (eff τ) (nin N (τ 0 0 0)) i4) j7) i4) + ((gIf (eff τ) i4 (gOf (eff τ) (nin N (τ 0 0 0)) i4) j7) j7)) - (min (gIf (eff τ) i4 (gOf (eff τ) (nin N (τ 0 0 0)) i4) j7 i4) (gIf (eff τ) i4 (gOf (eff τ) (nin N (τ 0 0 0)) i4) j7 j7)))) j)) w H := by rw [← up3_setF]; exact hU
                      refine li_iinc (k0 := 0) (lv' := [(5, .int (iI (t24 + 1))), (0, .ref (ad 7 0)), (1, .int (iI i4)), (2, .int (iI j7)), (3, .int (iI (min (gIf (eff τ) i4 (gOf (eff τ) (nin N (τ 0 0 0)) i4) j7 i4) (gIf (eff τ) i4 (gOf (eff τ) (nin N (τ 0 0 0)) i4) j7 j7)))), (4, .int (iI ((((gIf (eff τ) i4 (gOf (eff τ) (nin N (τ 0 0 0)) i4) j7) i4) + ((gIf (eff τ) i4 (gOf (eff τ) (nin N (τ 0 0 0)) i4) j7) j7)) - (min (gIf (eff τ) i4 (gOf (eff τ) (nin N (τ 0 0 0)) i4) j7 i4) (gIf (eff τ) i4 (gOf (eff τ) (nin N (τ 0 0 0)) i4) j7 j7)))))]) hx hb dX2_findGroups_178 hl rfl (by decide) rfl (fun ls hl => ?_)
                      refine lv_goto (tgt := 139) hx hb dX2_findGroups_181 (by decide) ?_
                      exact ih24 (t24 + 1) _ _ (show (0 ≤ (t24 + 1) ∧ (t24 + 1) ≤ τ 0 0 0) from (by omega)) (by show bx_U g ad σ (setF τ 10 (jnp (gIf (eff τ) i4 (gOf (eff τ) (nin N (τ 0 0 0)) i4) j7) (t24 + 1) (min (gIf (eff τ) i4 (gOf (eff τ) (nin N (τ 0 0 0)) i4) j7 i4) (gIf (eff τ) i4 (gOf (eff τ) (nin N (τ 0 0 0)) i4) j7 j7)) ((((gIf (eff τ) i4 (gOf (eff τ) (nin N (τ 0 0 0)) i4) j7) i4) + ((gIf (eff τ) i4 (gOf (eff τ) (nin N (τ 0 0 0)) i4) j7) j7)) - (min (gIf (eff τ) i4 (gOf (eff τ) (nin N (τ 0 0 0)) i4) j7 i4) (gIf (eff τ) i4 (gOf (eff τ) (nin N (τ 0 0 0)) i4) j7 j7))))) w _; rw [← jnp_ns (show gIf (eff τ) i4 (gOf (eff τ) (nin N (τ 0 0 0)) i4) j7 t24 ≠ ((((gIf (eff τ) i4 (gOf (eff τ) (nin N (τ 0 0 0)) i4) j7) i4) + ((gIf (eff τ) i4 (gOf (eff τ) (nin N (τ 0 0 0)) i4) j7) j7)) - (min (gIf (eff τ) i4 (gOf (eff τ) (nin N (τ 0 0 0)) i4) j7 i4) (gIf (eff τ) i4 (gOf (eff τ) (nin N (τ 0 0 0)) i4) j7 j7))) by omega), ← up_same (jnp (gIf (eff τ) i4 (gOf (eff τ) (nin N (τ 0 0 0)) i4) j7) t24 (min (gIf (eff τ) i4 (gOf (eff τ) (nin N (τ 0 0 0)) i4) j7 i4) (gIf (eff τ) i4 (gOf (eff τ) (nin N (τ 0 0 0)) i4) j7 j7)) ((((gIf (eff τ) i4 (gOf (eff τ) (nin N (τ 0 0 0)) i4) j7) i4) + ((gIf (eff τ) i4 (gOf (eff τ) (nin N (τ 0 0 0)) i4) j7) j7)) - (min (gIf (eff τ) i4 (gOf (eff τ) (nin N (τ 0 0 0)) i4) j7 i4) (gIf (eff τ) i4 (gOf (eff τ) (nin N (τ 0 0 0)) i4) j7 j7)))) t24]; exact hU) hF hlc (show 0 ≤ 60 - (t24 + 1) by omega) (show 60 - (t24 + 1) < 60 - t24 by omega) ls (lv_sub hl [0, 1, 2, 3, 4, 5] rfl)
                    · refine lv_iload_n hx hb dX2_findGroups_166 rfl (lv_at hl 4 rfl) ?_
                      refine lv_goto (tgt := 177) hx hb dX2_findGroups_167 (by decide) ?_
                      refine bs_16 hx hb hK hU hlc (by omega) (by omega) dX2_findGroups_177 (fun H locs hU hF1 hlc => ?_)
                      have hF := hF.tr hF1
                      have hU : bx_U g ad σ (setF τ 10 (fun j => if j = t24 then min (gIf (eff τ) i4 (gOf (eff τ) (nin N (τ 0 0 0)) i4) j7 i4) (gIf (eff τ) i4 (gOf (eff τ) (nin N (τ 0 0 0)) i4) j7 j7) else (jnp (gIf (eff τ) i4 (gOf (eff τ) (nin N (τ 0 0 0)) i4) j7) t24 (min (gIf (eff τ) i4 (gOf (eff τ) (nin N (τ 0 0 0)) i4) j7 i4) (gIf (eff τ) i4 (gOf (eff τ) (nin N (τ 0 0 0)) i4) j7 j7)) ((((gIf (eff τ) i4 (gOf (eff τ) (nin N (τ 0 0 0)) i4) j7) i4) + ((gIf (eff τ) i4 (gOf (eff τ) (nin N (τ 0 0 0)) i4) j7) j7)) - (min (gIf (eff τ) i4 (gOf (eff τ) (nin N (τ 0 0 0)) i4) j7 i4) (gIf (eff τ) i4 (gOf (eff τ) (nin N (τ 0 0 0)) i4) j7 j7)))) j)) w H := by rw [← up3_setF]; exact hU
                      refine li_iinc (k0 := 0) (lv' := [(5, .int (iI (t24 + 1))), (0, .ref (ad 7 0)), (1, .int (iI i4)), (2, .int (iI j7)), (3, .int (iI (min (gIf (eff τ) i4 (gOf (eff τ) (nin N (τ 0 0 0)) i4) j7 i4) (gIf (eff τ) i4 (gOf (eff τ) (nin N (τ 0 0 0)) i4) j7 j7)))), (4, .int (iI ((((gIf (eff τ) i4 (gOf (eff τ) (nin N (τ 0 0 0)) i4) j7) i4) + ((gIf (eff τ) i4 (gOf (eff τ) (nin N (τ 0 0 0)) i4) j7) j7)) - (min (gIf (eff τ) i4 (gOf (eff τ) (nin N (τ 0 0 0)) i4) j7 i4) (gIf (eff τ) i4 (gOf (eff τ) (nin N (τ 0 0 0)) i4) j7 j7)))))]) hx hb dX2_findGroups_178 hl rfl (by decide) rfl (fun ls hl => ?_)
                      refine lv_goto (tgt := 139) hx hb dX2_findGroups_181 (by decide) ?_
                      exact ih24 (t24 + 1) _ _ (show (0 ≤ (t24 + 1) ∧ (t24 + 1) ≤ τ 0 0 0) from (by omega)) (by show bx_U g ad σ (setF τ 10 (jnp (gIf (eff τ) i4 (gOf (eff τ) (nin N (τ 0 0 0)) i4) j7) (t24 + 1) (min (gIf (eff τ) i4 (gOf (eff τ) (nin N (τ 0 0 0)) i4) j7 i4) (gIf (eff τ) i4 (gOf (eff τ) (nin N (τ 0 0 0)) i4) j7 j7)) ((((gIf (eff τ) i4 (gOf (eff τ) (nin N (τ 0 0 0)) i4) j7) i4) + ((gIf (eff τ) i4 (gOf (eff τ) (nin N (τ 0 0 0)) i4) j7) j7)) - (min (gIf (eff τ) i4 (gOf (eff τ) (nin N (τ 0 0 0)) i4) j7 i4) (gIf (eff τ) i4 (gOf (eff τ) (nin N (τ 0 0 0)) i4) j7 j7))))) w _; rw [← jnp_st (show 0 ≤ t24 by omega) (show gIf (eff τ) i4 (gOf (eff τ) (nin N (τ 0 0 0)) i4) j7 t24 = ((((gIf (eff τ) i4 (gOf (eff τ) (nin N (τ 0 0 0)) i4) j7) i4) + ((gIf (eff τ) i4 (gOf (eff τ) (nin N (τ 0 0 0)) i4) j7) j7)) - (min (gIf (eff τ) i4 (gOf (eff τ) (nin N (τ 0 0 0)) i4) j7 i4) (gIf (eff τ) i4 (gOf (eff τ) (nin N (τ 0 0 0)) i4) j7 j7))) by omega)]; exact hU) hF hlc (show 0 ≤ 60 - (t24 + 1) by omega) (show 60 - (t24 + 1) < 60 - t24 by omega) ls (lv_sub hl [0, 1, 2, 3, 4, 5] rfl)
                · refine lv_aload_n hx hb dX2_findGroups_88 rfl (lv_at hl 1 rfl) ?_
                  refine bg_X2_groups hx hb hts hinX2 hown hK hU (hts (.fieldLink RX2 35 "ClashBoxesModel" "groups" "[I") (by decide +kernel)) dX2_findGroups_89 ?_
                  refine lv_iload_n hx hb dX2_findGroups_92 rfl (lv_at hl 2 rfl) ?_
                  refine bl_16 hx hb hK hU (by omega) (by omega) dX2_findGroups_93 ?_
                  refine W.eq (g2 := F0 mI 94 ls [.int (iI ((gIf (eff τ) i4 (gOf (eff τ) (nin N (τ 0 0 0)) i4) j7) i4))]) rfl ?_
                  refine lv_aload_n hx hb dX2_findGroups_94 rfl (lv_at hl 1 rfl) ?_
                  refine bg_X2_groups hx hb hts hinX2 hown hK hU (hts (.fieldLink RX2 35 "ClashBoxesModel" "groups" "[I") (by decide +kernel)) dX2_findGroups_95 ?_
                  refine lv_iload_n hx hb dX2_findGroups_98 rfl (lv_at hl 0 rfl) ?_
                  refine bl_16 hx hb hK hU (by omega) (by omega) dX2_findGroups_99 ?_
                  refine W.eq (g2 := F0 mI 100 ls [.int (iI ((gIf (eff τ) i4 (gOf (eff τ) (nin N (τ 0 0 0)) i4) j7) j7)), .int (iI ((gIf (eff τ) i4 (gOf (eff τ) (nin N (τ 0 0 0)) i4) j7) i4))]) rfl ?_
                  refine li_icmp_ge (tgt := 112) hx hb (by unfold iR; omega) (by unfold iR; omega) dX2_findGroups_100 (by decide) (fun h32 => ?_) (fun h32 => ?_)
                  · refine lv_aload_n hx hb dX2_findGroups_112 rfl (lv_at hl 1 rfl) ?_
                    refine bg_X2_groups hx hb hts hinX2 hown hK hU (hts (.fieldLink RX2 35 "ClashBoxesModel" "groups" "[I") (by decide +kernel)) dX2_findGroups_113 ?_
                    refine lv_iload_n hx hb dX2_findGroups_116 rfl (lv_at hl 0 rfl) ?_
                    refine bl_16 hx hb hK hU (by omega) (by omega) dX2_findGroups_117 ?_
                    refine W.eq (g2 := F0 mI 118 ls [.int (iI ((gIf (eff τ) i4 (gOf (eff τ) (nin N (τ 0 0 0)) i4) j7) j7))]) rfl ?_
                    exact W.eq (by rw [show min (gIf (eff τ) i4 (gOf (eff τ) (nin N (τ 0 0 0)) i4) j7 i4) (gIf (eff τ) i4 (gOf (eff τ) (nin N (τ 0 0 0)) i4) j7 j7) = (gIf (eff τ) i4 (gOf (eff τ) (nin N (τ 0 0 0)) i4) j7) j7 by omega]) key21
                  · refine lv_aload_n hx hb dX2_findGroups_103 rfl (lv_at hl 1 rfl) ?_
                    refine bg_X2_groups hx hb hts hinX2 hown hK hU (hts (.fieldLink RX2 35 "ClashBoxesModel" "groups" "[I") (by decide +kernel)) dX2_findGroups_104 ?_
                    refine lv_iload_n hx hb dX2_findGroups_107 rfl (lv_at hl 2 rfl) ?_
                    refine bl_16 hx hb hK hU (by omega) (by omega) dX2_findGroups_108 ?_
                    refine W.eq (g2 := F0 mI 109 ls [.int (iI ((gIf (eff τ) i4 (gOf (eff τ) (nin N (τ 0 0 0)) i4) j7) i4))]) rfl ?_
                    refine lv_goto (tgt := 118) hx hb dX2_findGroups_109 (by decide) ?_
                    exact W.eq (by rw [show min (gIf (eff τ) i4 (gOf (eff τ) (nin N (τ 0 0 0)) i4) j7 i4) (gIf (eff τ) i4 (gOf (eff τ) (nin N (τ 0 0 0)) i4) j7 j7) = (gIf (eff τ) i4 (gOf (eff τ) (nin N (τ 0 0 0)) i4) j7) i4 by omega]) key21
  · refine lv_aload_n hx hb dX2_findGroups_10 rfl (lv_at hl 1 rfl) ?_
    refine bg_X2_groups hx hb hts hinX2 hown hK hU (hts (.fieldLink RX2 35 "ClashBoxesModel" "groups" "[I") (by decide +kernel)) dX2_findGroups_11 ?_
    refine lv_iload_n hx hb dX2_findGroups_14 rfl (lv_at hl 0 rfl) ?_
    refine lv_iload_n hx hb dX2_findGroups_15 rfl (lv_at hl 0 rfl) ?_
    refine bs_16 hx hb hK hU hlc (by omega) (by omega) dX2_findGroups_16 (fun H locs hU hF1 hlc => ?_)
    have hF := hF.tr hF1
    have hU : bx_U g ad σ (setF τ 10 (fun j => if j = i1 then i1 else (nin N i1) j)) w H := by rw [← up3_setF]; exact hU
    refine li_iinc (k0 := 0) (lv' := [(1, .int (iI (i1 + 1))), (0, .ref (ad 7 0))]) hx hb dX2_findGroups_17 hl rfl (by decide) rfl (fun ls hl => ?_)
    refine lv_goto (tgt := 2) hx hb dX2_findGroups_20 (by decide) ?_
    exact ih1 (i1 + 1) _ _ (show (0 ≤ (i1 + 1) ∧ (i1 + 1) ≤ τ 0 0 0) from (by omega)) (by show bx_U g ad σ (setF τ 10 (nin N (i1 + 1))) w _; rw [← nin_s N (show 0 ≤ i1 by omega)]; exact hU) hF hlc (show 0 ≤ 60 - (i1 + 1) by omega) (show 60 - (i1 + 1) < 60 - i1 by omega) ls (lv_sub hl [0, 1] rfl)
