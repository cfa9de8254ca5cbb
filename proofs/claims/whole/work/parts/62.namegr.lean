set_option maxHeartbeats 4000000 in
set_option maxRecDepth 100000 in
theorem c_X1_nameGroups (l : Launch) (g : bxG) (ad : bxA) (σ τ : bxS) (w : bxW) (N : Int → Int) (hB : bx_B σ) : Met l yX1_nameGroups wsX1_nameGroups ({ frames := 6, cells := 0, slots := 0, locals := 144 }) (va_Pc [.ref (ad 0 0)] (fun U => bx_I g ad (setF σ 10 N) τ w U)) (bq_W none g ad (setF σ 10 (gnm σ N)) τ w) 0 0 (bq_fr g) := by
  refine Met.ofW (cc := cX1_nameGroups) (maxL := 3) (ret := none) (by decide) rfl ?_
  intro Pg Ev s mI args below meth cd s₁ B hml hv
  obtain ⟨rfl, hU, hK⟩ := hv
  have hx := B.exec
  have hb := B.bytes
  have hr := B.returns
  have hts := atoms_spec (ws := wsX1_nameGroups) B.pre
  have hown : s.vm.findClass RX1 = some mI.cls := findClass_of_methodNamed B.named
  have hlocks := B.notSynchronized
  have hF : bx_F g s.heap s.heap := bx_F.rf
  have hlc : bx_Lc g [] := bx_Lc.nil
  have hl := lv_entry ([.ref (ad 0 0)]) (n := 3) (Nat.le_of_ble_eq_true rfl)
  rw [lg_entry_eq]
  generalize (lg_sl ([.ref (ad 0 0)]) ++ List.replicate (3 - (lg_sl ([.ref (ad 0 0)])).length) Slot.unset).toArray = ls at hl ⊢
  have hl : lv_has ls 3 [(0, .ref (ad 0 0))] := hl
  have hinX1 : ∀ w ∈ wsX10, w ∈ wsX1_nameGroups := by decide +kernel
  have hm0 := bB0 hB
  refine li_iconst hx hb dX1_nameGroups_0 ?_
  refine lv_istore_n (lv' := [(1, .int (iI 0)), (0, .ref (ad 0 0))]) hx hb dX1_nameGroups_1 rfl hl (by decide) rfl (fun ls hl => ?_)
  refine bl_loopW (V := Int) (nL := 3) (S := fun v => setF σ 10 (nin N v)) (T := fun v => τ) (I := fun v => [(1, .int (iI v)), (0, .ref (ad 0 0))]) (Inv := fun v => (0 ≤ v ∧ v ≤ σ 0 0 0)) (μ := fun v => 60 - v) ?_ (0) _ _ (show (0 ≤ 0 ∧ 0 ≤ σ 0 0 0) from (by omega)) (by show bx_U g ad (setF σ 10 (nin N 0)) τ w _; rw [nin_0]; exact hU) hF hlc ls (lv_sub hl [0, 1] rfl)
  intro i1 H locs hI hU hF hlc ih1 ls hl
  have hI : (0 ≤ i1 ∧ i1 ≤ σ 0 0 0) := hI
  have ha1 := hI
  have hl : lv_has ls 3 [(1, .int (iI i1)), (0, .ref (ad 0 0))] := hl
  have hU : bx_U g ad (setF σ 10 (nin N i1)) τ w H := hU
  have hm0 := bB0 hB
  refine lv_iload_n hx hb dX1_nameGroups_2 rfl (lv_at hl 0 rfl) ?_
  refine lv_aload_n hx hb dX1_nameGroups_3 rfl (lv_at hl 1 rfl) ?_
  refine bg_X1_made hx hb hts hinX1 hown hK hU (hts (.fieldLink RX1 19 "ClashBoxes" "made" "I") (by decide +kernel)) dX1_nameGroups_4 ?_
  refine W.eq (g2 := F0 mI 7 ls [.int (iI (σ 0 0 0)), .int (iI i1)]) rfl ?_
  refine li_icmp_ge (tgt := 23) hx hb (by unfold iR; omega) (by unfold iR; omega) dX1_nameGroups_7 (by decide) (fun h2 => ?_) (fun h2 => ?_)
  · refine li_iconst hx hb dX1_nameGroups_23 ?_
    refine lv_istore_n (lv' := [(1, .int (iI 0)), (0, .ref (ad 0 0))]) hx hb dX1_nameGroups_24 rfl hl (by decide) rfl (fun ls hl => ?_)
    refine bl_loopW (V := Int) (nL := 3) (S := fun v => setF σ 10 (gOf σ (nin N (σ 0 0 0)) v)) (T := fun v => τ) (I := fun v => [(1, .int (iI v)), (0, .ref (ad 0 0))]) (Inv := fun v => (0 ≤ v ∧ v ≤ σ 0 0 0)) (μ := fun v => 60 - v) ?_ (0) _ _ (show (0 ≤ 0 ∧ 0 ≤ σ 0 0 0) from (by omega)) (by show bx_U g ad (setF σ 10 (gOf σ (nin N (σ 0 0 0)) 0)) τ w _; rw [gOf_0, show σ 0 0 0 = i1 by omega]; exact hU) hF hlc ls (lv_sub hl [0, 1] rfl)
    intro i3 H locs hI hU hF hlc ih3 ls hl
    have hI : (0 ≤ i3 ∧ i3 ≤ σ 0 0 0) := hI
    have hb3 := hI
    have hl : lv_has ls 3 [(1, .int (iI i3)), (0, .ref (ad 0 0))] := hl
    have hU : bx_U g ad (setF σ 10 (gOf σ (nin N (σ 0 0 0)) i3)) τ w H := hU
    have hm0 := bB0 hB
    refine lv_iload_n hx hb dX1_nameGroups_25 rfl (lv_at hl 0 rfl) ?_
    refine lv_aload_n hx hb dX1_nameGroups_26 rfl (lv_at hl 1 rfl) ?_
    refine bg_X1_made hx hb hts hinX1 hown hK hU (hts (.fieldLink RX1 19 "ClashBoxes" "made" "I") (by decide +kernel)) dX1_nameGroups_27 ?_
    refine W.eq (g2 := F0 mI 30 ls [.int (iI (σ 0 0 0)), .int (iI i3)]) rfl ?_
    refine li_icmp_ge (tgt := 116) hx hb (by unfold iR; omega) (by unfold iR; omega) dX1_nameGroups_30 (by decide) (fun h4 => ?_) (fun h4 => ?_)
    · exact bw_n hx hb hr hlocks (by show bx_U g ad (setF σ 10 (gOf σ (nin N (σ 0 0 0)) (σ 0 0 0))) τ w _; (have e9 : i3 = σ 0 0 0 := by omega); rw [e9] at hU; exact hU) hF hlc dX1_nameGroups_116
    · refine lv_iload_n hx hb dX1_nameGroups_33 rfl (lv_at hl 0 rfl) ?_
      refine li_iconst hx hb dX1_nameGroups_34 ?_
      refine li_iadd hx hb dX1_nameGroups_35 ?_
      refine lv_istore_n (lv' := [(2, .int (iI (i3 + 1))), (1, .int (iI i3)), (0, .ref (ad 0 0))]) hx hb dX1_nameGroups_36 rfl hl (by decide) rfl (fun ls hl => ?_)
      refine bl_loopW (V := Int) (nL := 3) (S := fun v => setF σ 10 (gIf σ i3 (gOf σ (nin N (σ 0 0 0)) i3) v)) (T := fun v => τ) (I := fun v => [(2, .int (iI v)), (0, .ref (ad 0 0)), (1, .int (iI i3))]) (Inv := fun v => (i3 + 1 ≤ v ∧ v ≤ σ 0 0 0)) (μ := fun v => 60 - v) ?_ (i3 + 1) _ _ (show (i3 + 1 ≤ (i3 + 1) ∧ (i3 + 1) ≤ σ 0 0 0) from (by omega)) (by show bx_U g ad (setF σ 10 (gIf σ i3 (gOf σ (nin N (σ 0 0 0)) i3) (i3 + 1))) τ w _; rw [gIf_0]; exact hU) hF hlc ls (lv_sub hl [0, 2, 1] rfl)
      intro j5 H locs hI hU hF hlc ih5 ls hl
      have hI : (i3 + 1 ≤ j5 ∧ j5 ≤ σ 0 0 0) := hI
      have hd5 := hI
      have hl : lv_has ls 3 [(2, .int (iI j5)), (0, .ref (ad 0 0)), (1, .int (iI i3))] := hl
      have hU : bx_U g ad (setF σ 10 (gIf σ i3 (gOf σ (nin N (σ 0 0 0)) i3) j5)) τ w H := hU
      have hm0 := bB0 hB
      have hnm : nmB σ (gIf σ i3 (gOf σ (nin N (σ 0 0 0)) i3) j5) := nmB_gIf (nmB_gOf (nmB_nin σ N) (by omega)) (by omega) (by omega)
      have hbi := hnm i3 (by omega) (by omega)
      refine lv_iload_n hx hb dX1_nameGroups_37 rfl (lv_at hl 0 rfl) ?_
      refine lv_aload_n hx hb dX1_nameGroups_38 rfl (lv_at hl 1 rfl) ?_
      refine bg_X1_made hx hb hts hinX1 hown hK hU (hts (.fieldLink RX1 19 "ClashBoxes" "made" "I") (by decide +kernel)) dX1_nameGroups_39 ?_
      refine W.eq (g2 := F0 mI 42 ls [.int (iI (σ 0 0 0)), .int (iI j5)]) rfl ?_
      refine li_icmp_ge (tgt := 110) hx hb (by unfold iR; omega) (by unfold iR; omega) dX1_nameGroups_42 (by decide) (fun h6 => ?_) (fun h6 => ?_)
      · refine li_iinc (k0 := 2) (lv' := [(1, .int (iI (i3 + 1))), (2, .int (iI j5)), (0, .ref (ad 0 0))]) hx hb dX1_nameGroups_110 hl rfl (by decide) rfl (fun ls hl => ?_)
        refine lv_goto (tgt := 25) hx hb dX1_nameGroups_113 (by decide) ?_
        exact ih3 (i3 + 1) _ _ (show (0 ≤ (i3 + 1) ∧ (i3 + 1) ≤ σ 0 0 0) from (by omega)) (by show bx_U g ad (setF σ 10 (gOf σ (nin N (σ 0 0 0)) (i3 + 1))) τ w _; rw [gOf_s σ _ (show 0 ≤ i3 by omega)]; (have e9 : j5 = σ 0 0 0 := by omega); rw [e9] at hU; exact hU) hF hlc (show 0 ≤ 60 - (i3 + 1) by omega) (show 60 - (i3 + 1) < 60 - i3 by omega) ls (lv_sub hl [0, 2] rfl)
      · have hbj := hnm j5 (by omega) (by omega)
        refine lv_aload_n hx hb dX1_nameGroups_45 rfl (lv_at hl 1 rfl) ?_
        refine bg_X1_names hx hb hts hinX1 hown hK hU (hts (.fieldLink RX1 26 "ClashBoxes" "names" "[I") (by decide +kernel)) dX1_nameGroups_46 ?_
        refine lv_iload_n hx hb dX1_nameGroups_49 rfl (lv_at hl 2 rfl) ?_
        refine bl_3 hx hb hK hU (by omega) (by omega) dX1_nameGroups_50 ?_
        refine W.eq (g2 := F0 mI 51 ls [.int (iI ((gIf σ i3 (gOf σ (nin N (σ 0 0 0)) i3) j5) i3))]) rfl ?_
        refine lv_aload_n hx hb dX1_nameGroups_51 rfl (lv_at hl 1 rfl) ?_
        refine bg_X1_names hx hb hts hinX1 hown hK hU (hts (.fieldLink RX1 26 "ClashBoxes" "names" "[I") (by decide +kernel)) dX1_nameGroups_52 ?_
        refine lv_iload_n hx hb dX1_nameGroups_55 rfl (lv_at hl 0 rfl) ?_
        refine bl_3 hx hb hK hU (by omega) (by omega) dX1_nameGroups_56 ?_
        refine W.eq (g2 := F0 mI 57 ls [.int (iI ((gIf σ i3 (gOf σ (nin N (σ 0 0 0)) i3) j5) j5)), .int (iI ((gIf σ i3 (gOf σ (nin N (σ 0 0 0)) i3) j5) i3))]) rfl ?_
        refine li_icmp_eq (tgt := 104) hx hb (by unfold iR; omega) (by unfold iR; omega) dX1_nameGroups_57 (by decide) (fun h7 => ?_) (fun h7 => ?_)
        · refine li_iinc (k0 := 0) (lv' := [(2, .int (iI (j5 + 1))), (0, .ref (ad 0 0)), (1, .int (iI i3))]) hx hb dX1_nameGroups_104 hl rfl (by decide) rfl (fun ls hl => ?_)
          refine lv_goto (tgt := 37) hx hb dX1_nameGroups_107 (by decide) ?_
          exact ih5 (j5 + 1) _ _ (show (i3 + 1 ≤ (j5 + 1) ∧ (j5 + 1) ≤ σ 0 0 0) from (by omega)) (by show bx_U g ad (setF σ 10 (gIf σ i3 (gOf σ (nin N (σ 0 0 0)) i3) (j5 + 1))) τ w _; rw [gIf_s σ _ (show i3 + 1 ≤ j5 by omega)]; unfold gstep; rw [zA_f (fun q => q.1 h7)]; exact hU) hF hlc (show 0 ≤ 60 - (j5 + 1) by omega) (show 60 - (j5 + 1) < 60 - j5 by omega) ls (lv_sub hl [0, 1, 2] rfl)
        · refine lv_aload_n hx hb dX1_nameGroups_60 rfl (lv_at hl 1 rfl) ?_
          refine li_iconst hx hb dX1_nameGroups_61 ?_
          refine lv_iload_n hx hb dX1_nameGroups_62 rfl (lv_at hl 2 rfl) ?_
          refine lv_iload_n hx hb dX1_nameGroups_63 rfl (lv_at hl 0 rfl) ?_
          refine bc_VB (As := [.int (iI 2), .int (iI i3), .int (iI j5)]) (rest := []) (kd := 0) (k := 0) (ci := 1) ⟨hx, hb, hml, hown, hts⟩ (c_X1_isPair_N l g ad σ τ w (gIf σ i3 (gOf σ (nin N (σ 0 0 0)) i3) j5) 2 i3 j5 (by unfold iR; omega) (by omega) (by omega) hB) (cwV 3 hts gX1_nameGroups_X1_isPair rfl rfl rfl (by decide +kernel) ⟨Nat.le_of_ble_eq_true rfl, Nat.le_of_ble_eq_true rfl⟩) hK hU (bx_L0 (by omega)) rfl rfl rfl hl.1 rfl (Nat.le_of_ble_eq_true rfl) dX1_nameGroups_64 ⟨Nat.le_of_ble_eq_true rfl, Nat.le_of_ble_eq_true rfl⟩ (fun h8 => ?_) (fun h8 => ?_)
          · refine li_if_eq (tgt := 104) hx hb (by unfold iR; omega) dX1_nameGroups_67 (by decide) (fun h => absurd h (by decide)) (fun _ => ?_)
            refine lv_aload_n hx hb dX1_nameGroups_70 rfl (lv_at hl 1 rfl) ?_
            refine lv_aload_n hx hb dX1_nameGroups_71 rfl (lv_at hl 1 rfl) ?_
            refine bg_X1_names hx hb hts hinX1 hown hK hU (hts (.fieldLink RX1 26 "ClashBoxes" "names" "[I") (by decide +kernel)) dX1_nameGroups_72 ?_
            refine lv_iload_n hx hb dX1_nameGroups_75 rfl (lv_at hl 2 rfl) ?_
            refine bl_3 hx hb hK hU (by omega) (by omega) dX1_nameGroups_76 ?_
            refine W.eq (g2 := F0 mI 77 ls [.int (iI ((gIf σ i3 (gOf σ (nin N (σ 0 0 0)) i3) j5) i3)), .ref (ad 0 0)]) rfl ?_
            refine lv_aload_n hx hb dX1_nameGroups_77 rfl (lv_at hl 1 rfl) ?_
            refine bg_X1_names hx hb hts hinX1 hown hK hU (hts (.fieldLink RX1 26 "ClashBoxes" "names" "[I") (by decide +kernel)) dX1_nameGroups_78 ?_
            refine lv_iload_n hx hb dX1_nameGroups_81 rfl (lv_at hl 0 rfl) ?_
            refine bl_3 hx hb hK hU (by omega) (by omega) dX1_nameGroups_82 ?_
            refine W.eq (g2 := F0 mI 83 ls [.int (iI ((gIf σ i3 (gOf σ (nin N (σ 0 0 0)) i3) j5) j5)), .int (iI ((gIf σ i3 (gOf σ (nin N (σ 0 0 0)) i3) j5) i3)), .ref (ad 0 0)]) rfl ?_
            refine li_mmin hx hb (hml.trans hl.1.symm) hown (hts (.methodLink RX1 120 Lib.Math.min.name) (by decide +kernel)) (hts (.static Lib.Math.min.name) (by decide +kernel)) (hts (.initialized "java/lang/Math") (by decide +kernel)) (hts _ (by exact by decide +kernel)) (Nat.le_of_ble_eq_true rfl) (Nat.le_of_ble_eq_true rfl) (Nat.zero_le _) (Nat.zero_le _) (by unfold iR; omega) (by unfold iR; omega) dX1_nameGroups_83 ?_
            refine lv_aload_n hx hb dX1_nameGroups_86 rfl (lv_at hl 1 rfl) ?_
            refine bg_X1_names hx hb hts hinX1 hown hK hU (hts (.fieldLink RX1 26 "ClashBoxes" "names" "[I") (by decide +kernel)) dX1_nameGroups_87 ?_
            refine lv_iload_n hx hb dX1_nameGroups_90 rfl (lv_at hl 2 rfl) ?_
            refine bl_3 hx hb hK hU (by omega) (by omega) dX1_nameGroups_91 ?_
            refine W.eq (g2 := F0 mI 92 ls [.int (iI ((gIf σ i3 (gOf σ (nin N (σ 0 0 0)) i3) j5) i3)), .int (iI (min ((gIf σ i3 (gOf σ (nin N (σ 0 0 0)) i3) j5) i3) ((gIf σ i3 (gOf σ (nin N (σ 0 0 0)) i3) j5) j5))), .ref (ad 0 0)]) rfl ?_
            refine lv_aload_n hx hb dX1_nameGroups_92 rfl (lv_at hl 1 rfl) ?_
            refine bg_X1_names hx hb hts hinX1 hown hK hU (hts (.fieldLink RX1 26 "ClashBoxes" "names" "[I") (by decide +kernel)) dX1_nameGroups_93 ?_
            refine lv_iload_n hx hb dX1_nameGroups_96 rfl (lv_at hl 0 rfl) ?_
            refine bl_3 hx hb hK hU (by omega) (by omega) dX1_nameGroups_97 ?_
            refine W.eq (g2 := F0 mI 98 ls [.int (iI ((gIf σ i3 (gOf σ (nin N (σ 0 0 0)) i3) j5) j5)), .int (iI ((gIf σ i3 (gOf σ (nin N (σ 0 0 0)) i3) j5) i3)), .int (iI (min ((gIf σ i3 (gOf σ (nin N (σ 0 0 0)) i3) j5) i3) ((gIf σ i3 (gOf σ (nin N (σ 0 0 0)) i3) j5) j5))), .ref (ad 0 0)]) rfl ?_
            refine li_mmax hx hb (hml.trans hl.1.symm) hown (hts (.methodLink RX1 112 Lib.Math.max.name) (by decide +kernel)) (hts (.static Lib.Math.max.name) (by decide +kernel)) (hts (.initialized "java/lang/Math") (by decide +kernel)) (hts _ (by exact by decide +kernel)) (Nat.le_of_ble_eq_true rfl) (Nat.le_of_ble_eq_true rfl) (Nat.zero_le _) (Nat.zero_le _) (by unfold iR; omega) (by unfold iR; omega) dX1_nameGroups_98 ?_
            refine bc_VW (As := [.int (iI (min ((gIf σ i3 (gOf σ (nin N (σ 0 0 0)) i3) j5) i3) ((gIf σ i3 (gOf σ (nin N (σ 0 0 0)) i3) j5) j5))), .int (iI (max ((gIf σ i3 (gOf σ (nin N (σ 0 0 0)) i3) j5) i3) ((gIf σ i3 (gOf σ (nin N (σ 0 0 0)) i3) j5) j5)))]) (rest := []) (kd := 0) (k := 0) (ci := 1) ⟨hx, hb, hml, hown, hts⟩ (c_X1_joinNames l g ad σ τ w (gIf σ i3 (gOf σ (nin N (σ 0 0 0)) i3) j5) (min ((gIf σ i3 (gOf σ (nin N (σ 0 0 0)) i3) j5) i3) ((gIf σ i3 (gOf σ (nin N (σ 0 0 0)) i3) j5) j5)) (max ((gIf σ i3 (gOf σ (nin N (σ 0 0 0)) i3) j5) i3) ((gIf σ i3 (gOf σ (nin N (σ 0 0 0)) i3) j5) j5)) (by omega) (by omega) hB hnm) (cwV 2 hts gX1_nameGroups_X1_joinNames rfl rfl rfl (by decide +kernel) ⟨Nat.le_of_ble_eq_true rfl, Nat.le_of_ble_eq_true rfl⟩) hK hU hlc (bx_L0 (by omega)) rfl rfl rfl hl.1 rfl (Nat.le_of_ble_eq_true rfl) dX1_nameGroups_101 ⟨Nat.le_of_ble_eq_true rfl, Nat.le_of_ble_eq_true rfl⟩ (fun H locs hU hF1 hlc => ?_)
            have hF := hF.tr hF1
            refine li_iinc (k0 := 0) (lv' := [(2, .int (iI (j5 + 1))), (0, .ref (ad 0 0)), (1, .int (iI i3))]) hx hb dX1_nameGroups_104 hl rfl (by decide) rfl (fun ls hl => ?_)
            refine lv_goto (tgt := 37) hx hb dX1_nameGroups_107 (by decide) ?_
            exact ih5 (j5 + 1) _ _ (show (i3 + 1 ≤ (j5 + 1) ∧ (j5 + 1) ≤ σ 0 0 0) from (by omega)) (by show bx_U g ad (setF σ 10 (gIf σ i3 (gOf σ (nin N (σ 0 0 0)) i3) (j5 + 1))) τ w _; rw [gIf_s σ _ (show i3 + 1 ≤ j5 by omega)]; unfold gstep; rw [zA_t ⟨h7, h8⟩]; exact hU) hF hlc (show 0 ≤ 60 - (j5 + 1) by omega) (show 60 - (j5 + 1) < 60 - j5 by omega) ls (lv_sub hl [0, 1, 2] rfl)
          · refine li_if_eq (tgt := 104) hx hb (by unfold iR; omega) dX1_nameGroups_67 (by decide) (fun _ => ?_) (fun h => absurd (by decide) h)
            refine li_iinc (k0 := 0) (lv' := [(2, .int (iI (j5 + 1))), (0, .ref (ad 0 0)), (1, .int (iI i3))]) hx hb dX1_nameGroups_104 hl rfl (by decide) rfl (fun ls hl => ?_)
            refine lv_goto (tgt := 37) hx hb dX1_nameGroups_107 (by decide) ?_
            exact ih5 (j5 + 1) _ _ (show (i3 + 1 ≤ (j5 + 1) ∧ (j5 + 1) ≤ σ 0 0 0) from (by omega)) (by show bx_U g ad (setF σ 10 (gIf σ i3 (gOf σ (nin N (σ 0 0 0)) i3) (j5 + 1))) τ w _; rw [gIf_s σ _ (show i3 + 1 ≤ j5 by omega)]; unfold gstep; rw [zA_f (fun q => h8 q.2)]; exact hU) hF hlc (show 0 ≤ 60 - (j5 + 1) by omega) (show 60 - (j5 + 1) < 60 - j5 by omega) ls (lv_sub hl [0, 1, 2] rfl)
  · refine lv_aload_n hx hb dX1_nameGroups_10 rfl (lv_at hl 1 rfl) ?_
    refine bg_X1_names hx hb hts hinX1 hown hK hU (hts (.fieldLink RX1 26 "ClashBoxes" "names" "[I") (by decide +kernel)) dX1_nameGroups_11 ?_
    refine lv_iload_n hx hb dX1_nameGroups_14 rfl (lv_at hl 0 rfl) ?_
    refine lv_iload_n hx hb dX1_nameGroups_15 rfl (lv_at hl 0 rfl) ?_
    refine bs_3 hx hb hK hU hlc (by omega) (by omega) dX1_nameGroups_16 (fun H locs hU hF1 hlc => ?_)
    have hF := hF.tr hF1
    have hU : bx_U g ad (setF σ 10 (fun j => if j = i1 then i1 else (nin N i1) j)) τ w H := by rw [← up3_setF]; exact hU
    refine li_iinc (k0 := 0) (lv' := [(1, .int (iI (i1 + 1))), (0, .ref (ad 0 0))]) hx hb dX1_nameGroups_17 hl rfl (by decide) rfl (fun ls hl => ?_)
    refine lv_goto (tgt := 2) hx hb dX1_nameGroups_20 (by decide) ?_
    exact ih1 (i1 + 1) _ _ (show (0 ≤ (i1 + 1) ∧ (i1 + 1) ≤ σ 0 0 0) from (by omega)) (by show bx_U g ad (setF σ 10 (nin N (i1 + 1))) τ w _; rw [← nin_s N (show 0 ≤ i1 by omega)]; exact hU) hF hlc (show 0 ≤ 60 - (i1 + 1) by omega) (show 60 - (i1 + 1) < 60 - i1 by omega) ls (lv_sub hl [0, 1] rfl)
