set_option maxHeartbeats 4000000 in
set_option maxRecDepth 100000 in
theorem c_X2_isFreeAt (l : Launch) (g : bxG) (ad : bxA) (σ τ : bxS) (w : bxW) (p a d : Int) (hqp : 0 ≤ p ∧ p < 60 ∧ τ 2 p 0 ≠ 0) (hBt : bx_B τ) (hxa : 0 ≤ a ∧ a < 3) (hd : -1000 ≤ d ∧ d ≤ 1000) : Met l yX2_isFreeAt wsX2_isFreeAt ({ frames := 4, cells := 0, slots := 0, locals := 105 }) (va_Pc [.ref (ad 7 0), .int (iI p), .int (iI a), .int (iI d)] (fun U => bx_I g ad σ τ w U)) (bq_W (some (.int (iI (zB (frA τ p a d))))) g ad σ (zA (stS τ p a d) (mv3 τ (-1) a d) τ) w) 0 0 (bq_fr g) := by
  refine Met.ofW (cc := cX2_isFreeAt) (maxL := 6) (ret := (some .boolean)) (by decide) rfl ?_
  intro Pg Ev s mI args below meth cd s₁ B hml hv
  obtain ⟨rfl, hU, hK⟩ := hv
  have hx := B.exec
  have hb := B.bytes
  have hr := B.returns
  have hts := atoms_spec (ws := wsX2_isFreeAt) B.pre
  have hown : s.vm.findClass RX2 = some mI.cls := findClass_of_methodNamed B.named
  have hlocks := B.notSynchronized
  have hF : bx_F g s.heap s.heap := bx_F.rf
  have hlc : bx_Lc g [] := bx_Lc.nil
  have hl := lv_entry ([.ref (ad 7 0), .int (iI p), .int (iI a), .int (iI d)]) (n := 6) (Nat.le_of_ble_eq_true rfl)
  rw [lg_entry_eq]
  generalize (lg_sl ([.ref (ad 7 0), .int (iI p), .int (iI a), .int (iI d)]) ++ List.replicate (6 - (lg_sl ([.ref (ad 7 0), .int (iI p), .int (iI a), .int (iI d)])).length) Slot.unset).toArray = ls at hl ⊢
  have hl : lv_has ls 6 [(0, .ref (ad 7 0)), (1, .int (iI p)), (2, .int (iI a)), (3, .int (iI d))] := hl
  have hinX2 : ∀ w ∈ wsX20, w ∈ wsX2_isFreeAt := by decide +kernel
  have hm0 := bB0 hBt
  refine lv_aload_n hx hb dX2_isFreeAt_0 rfl (lv_at hl 0 rfl) ?_
  refine lv_iload_n hx hb dX2_isFreeAt_1 rfl (lv_at hl 1 rfl) ?_
  refine lv_iload_n hx hb dX2_isFreeAt_2 rfl (lv_at hl 2 rfl) ?_
  refine lv_iload_n hx hb dX2_isFreeAt_3 rfl (lv_at hl 3 rfl) ?_
  refine bc_VB (As := [.int (iI p), .int (iI a), .int (iI d)]) (rest := []) (kd := 7) (k := 0) (ci := 2) ⟨hx, hb, hml, hown, hts⟩ (c_X2_mayMove l g ad σ τ w p a d hqp hBt (by omega) (by omega)) (cwV 3 hts gX2_isFreeAt_X2_mayMove rfl rfl rfl (by decide +kernel) ⟨Nat.le_of_ble_eq_true rfl, Nat.le_of_ble_eq_true rfl⟩) hK hU (bx_L0 (by omega)) rfl rfl rfl hl.1 rfl (Nat.le_of_ble_eq_true rfl) dX2_isFreeAt_4 ⟨Nat.le_of_ble_eq_true rfl, Nat.le_of_ble_eq_true rfl⟩ (fun h1 => ?_) (fun h1 => ?_)
  · refine li_if_ne (tgt := 12) hx hb (by unfold iR; omega) dX2_isFreeAt_7 (by decide) (fun _ => ?_) (fun h => absurd h (by decide))
    refine lv_aload_n hx hb dX2_isFreeAt_12 rfl (lv_at hl 0 rfl) ?_
    refine lv_iload_n hx hb dX2_isFreeAt_13 rfl (lv_at hl 1 rfl) ?_
    refine bp_X2_movedPart hx hb hts hinX2 hown hK hU hlc (hts (.fieldLink RX2 38 "ClashBoxesModel" "movedPart" "I") (by decide +kernel)) dX2_isFreeAt_14 (fun H locs hU hF1 hlc => ?_)
    have hF := hF.tr hF1
    refine lv_aload_n hx hb dX2_isFreeAt_17 rfl (lv_at hl 0 rfl) ?_
    refine lv_iload_n hx hb dX2_isFreeAt_18 rfl (lv_at hl 2 rfl) ?_
    refine bp_X2_movedAxis hx hb hts hinX2 hown hK hU hlc (hts (.fieldLink RX2 80 "ClashBoxesModel" "movedAxis" "I") (by decide +kernel)) dX2_isFreeAt_19 (fun H locs hU hF1 hlc => ?_)
    have hF := hF.tr hF1
    refine lv_aload_n hx hb dX2_isFreeAt_22 rfl (lv_at hl 0 rfl) ?_
    refine lv_iload_n hx hb dX2_isFreeAt_23 rfl (lv_at hl 3 rfl) ?_
    refine bp_X2_movedBy hx hb hts hinX2 hown hK hU hlc (hts (.fieldLink RX2 83 "ClashBoxesModel" "movedBy" "I") (by decide +kernel)) dX2_isFreeAt_24 (fun H locs hU hF1 hlc => ?_)
    have hF := hF.tr hF1
    have hU : bx_U g ad σ (mv3 τ p a d) w H := hU
    have hBm : bx_B (mv3 τ p a d) := bx_B.ag (ag_mv3 τ p a d) hBt
    have hMm : bx_M (mv3 τ p a d) := bx_M_mv3 τ (by omega) (by omega) (by have h7 := bB7 hBt hqp (a := a) (by omega) (by omega); omega)
    refine li_iconst hx hb dX2_isFreeAt_27 ?_
    refine lv_istore (lv' := [(4, .int (iI 1)), (0, .ref (ad 7 0)), (1, .int (iI p)), (2, .int (iI a)), (3, .int (iI d))]) hx hb dX2_isFreeAt_28 hl (by decide) rfl (fun ls hl => ?_)
    refine li_iconst hx hb dX2_isFreeAt_30 ?_
    refine lv_istore (lv' := [(5, .int (iI 0)), (4, .int (iI 1)), (0, .ref (ad 7 0)), (1, .int (iI p)), (2, .int (iI a)), (3, .int (iI d))]) hx hb dX2_isFreeAt_31 hl (by decide) rfl (fun ls hl => ?_)
    refine bl_loop (V := Int × Int) (nL := 6) (I := fun v => [(5, .int (iI v.1)), (4, .int (iI v.2)), (0, .ref (ad 7 0)), (1, .int (iI p)), (2, .int (iI a)), (3, .int (iI d))]) (Inv := fun v => (0 ≤ v.1 ∧ v.1 ≤ τ 0 0 0) ∧ (v.2 = 0 ∨ v.2 = 1) ∧ (v.2 = zB (allN (blkM τ p a d) v.1))) (μ := fun v => 60 - v.1) ?_ (0, 1) (show (0 ≤ 0 ∧ 0 ≤ τ 0 0 0) ∧ (1 = 0 ∨ 1 = 1) ∧ (1 = zB (allN (blkM τ p a d) 0)) from ⟨by omega, by omega, by rw [alln_0]⟩) ls (lv_sub hl [0, 1, 2, 3, 4, 5] rfl)
    rintro ⟨q2, g02⟩ hI ih2 ls hl
    have hI : (0 ≤ q2 ∧ q2 ≤ τ 0 0 0) ∧ (g02 = 0 ∨ g02 = 1) ∧ (g02 = zB (allN (blkM τ p a d) q2)) := hI
    obtain ⟨ha2, hz2, hc2⟩ := hI
    have hl : lv_has ls 6 [(5, .int (iI q2)), (4, .int (iI g02)), (0, .ref (ad 7 0)), (1, .int (iI p)), (2, .int (iI a)), (3, .int (iI d))] := hl
    have hm0 := bB0 hBt
    refine lv_iload hx hb dX2_isFreeAt_33 (lv_at hl 0 rfl) ?_
    refine lv_aload_n hx hb dX2_isFreeAt_35 rfl (lv_at hl 2 rfl) ?_
    refine bg_X2_made hx hb hts hinX2 hown hK hU (hts (.fieldLink RX2 49 "ClashBoxesModel" "made" "I") (by decide +kernel)) dX2_isFreeAt_36 ?_
    refine W.eq (g2 := F0 mI 39 ls [.int (iI (τ 0 0 0)), .int (iI q2)]) rfl ?_
    have b3 := bB0 hBt
    refine li_icmp_ge (tgt := 112) hx hb (by unfold iR; omega) (by unfold iR; omega) dX2_isFreeAt_39 (by decide) (fun h4 => ?_) (fun h4 => ?_)
    · refine lv_aload_n hx hb dX2_isFreeAt_112 rfl (lv_at hl 2 rfl) ?_
      refine li_iconst hx hb dX2_isFreeAt_113 ?_
      refine bp_X2_movedPart hx hb hts hinX2 hown hK hU hlc (hts (.fieldLink RX2 38 "ClashBoxesModel" "movedPart" "I") (by decide +kernel)) dX2_isFreeAt_114 (fun H locs hU hF1 hlc => ?_)
      have hF := hF.tr hF1
      refine lv_iload hx hb dX2_isFreeAt_117 (lv_at hl 1 rfl) ?_
      refine bw_z hx hb hr hlocks (by rw [zA_t (show stS τ p a d from h1), ← mv3_15 τ p a d]; exact hU) hF hlc (by omega) ?_ dX2_isFreeAt_119
      rw [hc2, show q2 = τ 0 0 0 by omega]; exact zB_iff ⟨fun z => ⟨h1, z⟩, fun z => z.2⟩
    · refine lv_iload hx hb dX2_isFreeAt_42 (lv_at hl 1 rfl) ?_
      refine li_if_eq (tgt := 112) hx hb (by unfold iR; omega) dX2_isFreeAt_44 (by decide) (fun h5 => ?_) (fun h5 => ?_)
      · refine lv_aload_n hx hb dX2_isFreeAt_112 rfl (lv_at hl 2 rfl) ?_
        refine li_iconst hx hb dX2_isFreeAt_113 ?_
        refine bp_X2_movedPart hx hb hts hinX2 hown hK hU hlc (hts (.fieldLink RX2 38 "ClashBoxesModel" "movedPart" "I") (by decide +kernel)) dX2_isFreeAt_114 (fun H locs hU hF1 hlc => ?_)
        have hF := hF.tr hF1
        refine lv_iload hx hb dX2_isFreeAt_117 (lv_at hl 1 rfl) ?_
        refine bw_z hx hb hr hlocks (by rw [zA_t (show stS τ p a d from h1), ← mv3_15 τ p a d]; exact hU) hF hlc (by omega) ?_ dX2_isFreeAt_119
        rw [zB_f (fun z : frA τ p a d => by have z2 := zB_t (alln_mono z.2 (show q2 ≤ τ 0 0 0 by omega)); omega)]; omega
      · refine lv_iload hx hb dX2_isFreeAt_47 (lv_at hl 0 rfl) ?_
        refine lv_iload_n hx hb dX2_isFreeAt_49 rfl (lv_at hl 3 rfl) ?_
        refine li_icmp_eq (tgt := 99) hx hb (by unfold iR; omega) (by unfold iR; omega) dX2_isFreeAt_50 (by decide) (fun h6 => ?_) (fun h6 => ?_)
        · refine li_iconst hx hb dX2_isFreeAt_99 ?_
          refine lv_goto (tgt := 104) hx hb dX2_isFreeAt_100 (by decide) ?_
          refine lv_istore (lv' := [(4, .int (iI 1)), (5, .int (iI q2)), (0, .ref (ad 7 0)), (1, .int (iI p)), (2, .int (iI a)), (3, .int (iI d))]) hx hb dX2_isFreeAt_104 hl (by decide) rfl (fun ls hl => ?_)
          refine li_iinc (k0 := 1) (lv' := [(5, .int (iI (q2 + 1))), (4, .int (iI 1)), (0, .ref (ad 7 0)), (1, .int (iI p)), (2, .int (iI a)), (3, .int (iI d))]) hx hb dX2_isFreeAt_106 hl rfl (by decide) rfl (fun ls hl => ?_)
          refine lv_goto (tgt := 33) hx hb dX2_isFreeAt_109 (by decide) ?_
          exact ih2 (q2 + 1, 1) (show (0 ≤ (q2 + 1) ∧ (q2 + 1) ≤ τ 0 0 0) ∧ (1 = 0 ∨ 1 = 1) ∧ (1 = zB (allN (blkM τ p a d) (q2 + 1))) from ⟨by omega, by omega, by rw [alln_t (P := blkM τ p a d) (zB_of (by rw [← hc2]; exact h5)) (fun z => z.1 (show q2 = p by omega))]⟩) (show 0 ≤ 60 - (q2 + 1) by omega) (show 60 - (q2 + 1) < 60 - q2 by omega) ls (lv_sub hl [0, 1, 2, 3, 4, 5] rfl)
        · refine lv_aload_n hx hb dX2_isFreeAt_53 rfl (lv_at hl 2 rfl) ?_
          refine bg_X2_isThere hx hb hts hinX2 hown hK hU (hts (.fieldLink RX2 7 "ClashBoxesModel" "isThere" "[Z") (by decide +kernel)) dX2_isFreeAt_54 ?_
          refine lv_iload hx hb dX2_isFreeAt_57 (lv_at hl 0 rfl) ?_
          refine bl_8 hx hb hK hU (by omega) (by omega) dX2_isFreeAt_59 ?_
          refine W.eq (g2 := F0 mI 60 ls [.int (iI (τ 2 q2 0))]) rfl ?_
          have b7 := bB2 hBt (k := q2) (by omega) (by omega)
          refine li_if_eq (tgt := 99) hx hb (by unfold iR; omega) dX2_isFreeAt_60 (by decide) (fun h8 => ?_) (fun h8 => ?_)
          · refine li_iconst hx hb dX2_isFreeAt_99 ?_
            refine lv_goto (tgt := 104) hx hb dX2_isFreeAt_100 (by decide) ?_
            refine lv_istore (lv' := [(4, .int (iI 1)), (5, .int (iI q2)), (0, .ref (ad 7 0)), (1, .int (iI p)), (2, .int (iI a)), (3, .int (iI d))]) hx hb dX2_isFreeAt_104 hl (by decide) rfl (fun ls hl => ?_)
            refine li_iinc (k0 := 1) (lv' := [(5, .int (iI (q2 + 1))), (4, .int (iI 1)), (0, .ref (ad 7 0)), (1, .int (iI p)), (2, .int (iI a)), (3, .int (iI d))]) hx hb dX2_isFreeAt_106 hl rfl (by decide) rfl (fun ls hl => ?_)
            refine lv_goto (tgt := 33) hx hb dX2_isFreeAt_109 (by decide) ?_
            exact ih2 (q2 + 1, 1) (show (0 ≤ (q2 + 1) ∧ (q2 + 1) ≤ τ 0 0 0) ∧ (1 = 0 ∨ 1 = 1) ∧ (1 = zB (allN (blkM τ p a d) (q2 + 1))) from ⟨by omega, by omega, by rw [alln_t (P := blkM τ p a d) (zB_of (by rw [← hc2]; exact h5)) (fun z => z.2.1 (show τ 2 q2 0 = 0 by omega))]⟩) (show 0 ≤ 60 - (q2 + 1) by omega) (show 60 - (q2 + 1) < 60 - q2 by omega) ls (lv_sub hl [0, 1, 2, 3, 4, 5] rfl)
          · have hz9 : 0 ≤ q2 ∧ q2 < 60 ∧ τ 2 q2 0 ≠ 0 := ⟨by omega, by omega, by omega⟩
            refine lv_aload_n hx hb dX2_isFreeAt_63 rfl (lv_at hl 2 rfl) ?_
            refine bg_X2_areFree hx hb hts hinX2 hown hK hU (hts (.fieldLink RX2 32 "ClashBoxesModel" "areFree" "[Z") (by decide +kernel)) dX2_isFreeAt_64 ?_
            refine li_bipush hx hb dX2_isFreeAt_67 (by decide) ?_
            refine lv_aload_n hx hb dX2_isFreeAt_69 rfl (lv_at hl 2 rfl) ?_
            refine bg_X2_kinds hx hb hts hinX2 hown hK hU (hts (.fieldLink RX2 13 "ClashBoxesModel" "kinds" "[I") (by decide +kernel)) dX2_isFreeAt_70 ?_
            refine lv_iload_n hx hb dX2_isFreeAt_73 rfl (lv_at hl 3 rfl) ?_
            refine bl_9 hx hb hK hU (by omega) (by omega) dX2_isFreeAt_74 ?_
            refine W.eq (g2 := F0 mI 75 ls [.int (iI (τ 3 p 0)), .int (iI 8), .ref (ad 15 0)]) rfl ?_
            have b10 := bB3 hBt hqp
            refine li_imul hx hb dX2_isFreeAt_75 ?_
            refine lv_aload_n hx hb dX2_isFreeAt_76 rfl (lv_at hl 2 rfl) ?_
            refine bg_X2_kinds hx hb hts hinX2 hown hK hU (hts (.fieldLink RX2 13 "ClashBoxesModel" "kinds" "[I") (by decide +kernel)) dX2_isFreeAt_77 ?_
            refine lv_iload hx hb dX2_isFreeAt_80 (lv_at hl 0 rfl) ?_
            refine bl_9 hx hb hK hU (by omega) (by omega) dX2_isFreeAt_82 ?_
            refine W.eq (g2 := F0 mI 83 ls [.int (iI (τ 3 q2 0)), .int (iI (8 * (τ 3 p 0))), .ref (ad 15 0)]) rfl ?_
            have b11 := bB3 hBt hz9
            refine li_iadd hx hb dX2_isFreeAt_83 ?_
            refine bl_15 hx hb hK hU (by omega) (by omega) dX2_isFreeAt_84 ?_
            refine W.eq (g2 := F0 mI 85 ls [.int (iI (τ 9 ((8 * (τ 3 p 0)) + (τ 3 q2 0)) 0))]) rfl ?_
            have b12 := bB9 hBt (k := (8 * (τ 3 p 0)) + (τ 3 q2 0)) (by omega) (by omega)
            refine li_if_ne (tgt := 99) hx hb (by unfold iR; omega) dX2_isFreeAt_85 (by decide) (fun h13 => ?_) (fun h13 => ?_)
            · refine li_iconst hx hb dX2_isFreeAt_99 ?_
              refine lv_goto (tgt := 104) hx hb dX2_isFreeAt_100 (by decide) ?_
              refine lv_istore (lv' := [(4, .int (iI 1)), (5, .int (iI q2)), (0, .ref (ad 7 0)), (1, .int (iI p)), (2, .int (iI a)), (3, .int (iI d))]) hx hb dX2_isFreeAt_104 hl (by decide) rfl (fun ls hl => ?_)
              refine li_iinc (k0 := 1) (lv' := [(5, .int (iI (q2 + 1))), (4, .int (iI 1)), (0, .ref (ad 7 0)), (1, .int (iI p)), (2, .int (iI a)), (3, .int (iI d))]) hx hb dX2_isFreeAt_106 hl rfl (by decide) rfl (fun ls hl => ?_)
              refine lv_goto (tgt := 33) hx hb dX2_isFreeAt_109 (by decide) ?_
              exact ih2 (q2 + 1, 1) (show (0 ≤ (q2 + 1) ∧ (q2 + 1) ≤ τ 0 0 0) ∧ (1 = 0 ∨ 1 = 1) ∧ (1 = zB (allN (blkM τ p a d) (q2 + 1))) from ⟨by omega, by omega, by rw [alln_t (P := blkM τ p a d) (zB_of (by rw [← hc2]; exact h5)) (fun z => h13 z.2.2.1)]⟩) (show 0 ≤ 60 - (q2 + 1) by omega) (show 60 - (q2 + 1) < 60 - q2 by omega) ls (lv_sub hl [0, 1, 2, 3, 4, 5] rfl)
            · refine lv_aload_n hx hb dX2_isFreeAt_88 rfl (lv_at hl 2 rfl) ?_
              refine lv_iload_n hx hb dX2_isFreeAt_89 rfl (lv_at hl 3 rfl) ?_
              refine li_iconst hx hb dX2_isFreeAt_90 ?_
              refine lv_iload hx hb dX2_isFreeAt_91 (lv_at hl 0 rfl) ?_
              refine bc_VB (As := [.int (iI p), .int (iI 0), .int (iI q2)]) (rest := []) (kd := 7) (k := 0) (ci := 2) ⟨hx, hb, hml, hown, hts⟩ (c_X2_meets l g ad σ (mv3 τ p a d) w p 0 q2 hqp hz9 hBm hMm (by omega)) (cwV 3 hts gX2_isFreeAt_X2_meets rfl rfl rfl (by decide +kernel) ⟨Nat.le_of_ble_eq_true rfl, Nat.le_of_ble_eq_true rfl⟩) hK hU (bx_L0 (by omega)) rfl rfl rfl hl.1 rfl (Nat.le_of_ble_eq_true rfl) dX2_isFreeAt_93 ⟨Nat.le_of_ble_eq_true rfl, Nat.le_of_ble_eq_true rfl⟩ (fun h14 => ?_) (fun h14 => ?_)
              · refine li_if_ne (tgt := 103) hx hb (by unfold iR; omega) dX2_isFreeAt_96 (by decide) (fun _ => ?_) (fun h => absurd h (by decide))
                refine li_iconst hx hb dX2_isFreeAt_103 ?_
                refine lv_istore (lv' := [(4, .int (iI 0)), (5, .int (iI q2)), (0, .ref (ad 7 0)), (1, .int (iI p)), (2, .int (iI a)), (3, .int (iI d))]) hx hb dX2_isFreeAt_104 hl (by decide) rfl (fun ls hl => ?_)
                refine li_iinc (k0 := 1) (lv' := [(5, .int (iI (q2 + 1))), (4, .int (iI 0)), (0, .ref (ad 7 0)), (1, .int (iI p)), (2, .int (iI a)), (3, .int (iI d))]) hx hb dX2_isFreeAt_106 hl rfl (by decide) rfl (fun ls hl => ?_)
                refine lv_goto (tgt := 33) hx hb dX2_isFreeAt_109 (by decide) ?_
                exact ih2 (q2 + 1, 0) (show (0 ≤ (q2 + 1) ∧ (q2 + 1) ≤ τ 0 0 0) ∧ (0 = 0 ∨ 0 = 1) ∧ (0 = zB (allN (blkM τ p a d) (q2 + 1))) from ⟨by omega, by omega, by rw [alln_f (P := blkM τ p a d) (by omega) ⟨(show q2 ≠ p by omega), (show τ 2 q2 0 ≠ 0 by omega), (show τ 9 (8 * τ 3 p 0 + τ 3 q2 0) 0 = 0 by omega), h14⟩]⟩) (show 0 ≤ 60 - (q2 + 1) by omega) (show 60 - (q2 + 1) < 60 - q2 by omega) ls (lv_sub hl [0, 1, 2, 3, 4, 5] rfl)
              · refine li_if_ne (tgt := 103) hx hb (by unfold iR; omega) dX2_isFreeAt_96 (by decide) (fun h => absurd (by decide) h) (fun _ => ?_)
                refine li_iconst hx hb dX2_isFreeAt_99 ?_
                refine lv_goto (tgt := 104) hx hb dX2_isFreeAt_100 (by decide) ?_
                refine lv_istore (lv' := [(4, .int (iI 1)), (5, .int (iI q2)), (0, .ref (ad 7 0)), (1, .int (iI p)), (2, .int (iI a)), (3, .int (iI d))]) hx hb dX2_isFreeAt_104 hl (by decide) rfl (fun ls hl => ?_)
                refine li_iinc (k0 := 1) (lv' := [(5, .int (iI (q2 + 1))), (4, .int (iI 1)), (0, .ref (ad 7 0)), (1, .int (iI p)), (2, .int (iI a)), (3, .int (iI d))]) hx hb dX2_isFreeAt_106 hl rfl (by decide) rfl (fun ls hl => ?_)
                refine lv_goto (tgt := 33) hx hb dX2_isFreeAt_109 (by decide) ?_
                exact ih2 (q2 + 1, 1) (show (0 ≤ (q2 + 1) ∧ (q2 + 1) ≤ τ 0 0 0) ∧ (1 = 0 ∨ 1 = 1) ∧ (1 = zB (allN (blkM τ p a d) (q2 + 1))) from ⟨by omega, by omega, by rw [alln_t (P := blkM τ p a d) (zB_of (by rw [← hc2]; exact h5)) (fun z => h14 z.2.2.2)]⟩) (show 0 ≤ 60 - (q2 + 1) by omega) (show 60 - (q2 + 1) < 60 - q2 by omega) ls (lv_sub hl [0, 1, 2, 3, 4, 5] rfl)
  · refine li_if_ne (tgt := 12) hx hb (by unfold iR; omega) dX2_isFreeAt_7 (by decide) (fun h => absurd (by decide) h) (fun _ => ?_)
    refine li_iconst hx hb dX2_isFreeAt_10 ?_
    refine bw_z hx hb hr hlocks (by rw [zA_f (show ¬ stS τ p a d from h1)]; exact hU) hF hlc (by omega) ?_ dX2_isFreeAt_11
    rw [zB_f (fun z : frA τ p a d => h1 z.1)]

theorem mt_mv {τ : bxS} (P A D p a d : Int) : frA (mv3 τ P A D) p a d = frA τ p a d := by
  have e : blkM (mv3 τ P A D) p a d = blkM τ p a d := by
    funext q
    unfold blkM
    rw [mv3_mv3]
    rfl
  unfold frA
  rw [e]
  rfl
theorem zA_mv (τ : bxS) (A D p a d : Int) : zA (stS (mv3 τ (-1) A D) p a d) (mv3 (mv3 τ (-1) A D) (-1) a d) (mv3 τ (-1) A D) = mv3 τ (-1) (zI (stS τ p a d) a A) (zI (stS τ p a d) d D) := by
  have e : stS (mv3 τ (-1) A D) p a d = stS τ p a d := rfl
  rw [e, mv3_mv3]
  by_cases h : stS τ p a d
  · rw [zA_t h, zI_t h, zI_t h]
  · rw [zA_f h, zI_f h, zI_f h]
theorem c_X2_isFreeAt_m (l : Launch) (g : bxG) (ad : bxA) (σ τ : bxS) (w : bxW) (A D p a d : Int) (hqp : 0 ≤ p ∧ p < 60 ∧ τ 2 p 0 ≠ 0) (hBt : bx_B τ) (hxa : 0 ≤ a ∧ a < 3) (hd : -1000 ≤ d ∧ d ≤ 1000) : Met l yX2_isFreeAt wsX2_isFreeAt ({ frames := 4, cells := 0, slots := 0, locals := 105 }) (va_Pc [.ref (ad 7 0), .int (iI p), .int (iI a), .int (iI d)] (fun U => bx_I g ad σ (mv3 τ (-1) A D) w U)) (bq_W (some (.int (iI (zB (frA τ p a d))))) g ad σ (mv3 τ (-1) (zI (stS τ p a d) a A) (zI (stS τ p a d) d D)) w) 0 0 (bq_fr g) := by
  have h := c_X2_isFreeAt l g ad σ (mv3 τ (-1) A D) w p a d hqp (bx_B.ag (ag_mv3 τ (-1) A D) hBt) hxa hd
  rw [mt_mv, zA_mv] at h
  exact h

set_option maxHeartbeats 4000000 in
set_option maxRecDepth 100000 in
theorem c_X2_shift_t (l : Launch) (g : bxG) (ad : bxA) (σ τ : bxS) (w : bxW) (p a mo : Int) (hRp : iR p) (hRa : iR a) (hRmo : iR mo) (hBt : bx_B τ) (hM : bx_M τ) (h15 : τ 15 0 0 = -1) (hg : (0 ≤ p ∧ p < 60 ∧ τ 2 p 0 ≠ 0) ∧ (0 ≤ a ∧ a ≤ 2) ∧ 0 ≤ mo ∧ mo ≤ 1000) : Met l yX2_shift wsX2_shift ({ frames := 5, cells := 0, slots := 0, locals := 130 }) (va_Pc [.ref (ad 7 0), .int (iI p), .int (iI a), .int (iI mo)] (fun U => bx_I g ad σ τ w U)) (bq_H (some (.int (iI (msh (frA τ p a) mo 0)))) g (fun H => ∃ t, mvq τ t ∧ bx_U g ad σ t (w.1, 0) H)) 0 0 (bq_fr g) := by
  refine Met.ofW (cc := cX2_shift) (maxL := 5) (ret := (some .int)) (by decide) rfl ?_
  intro Pg Ev s mI args below meth cd s₁ B hml hv
  obtain ⟨rfl, hU, hK⟩ := hv
  have hx := B.exec
  have hb := B.bytes
  have hr := B.returns
  have hts := atoms_spec (ws := wsX2_shift) B.pre
  have hown : s.vm.findClass RX2 = some mI.cls := findClass_of_methodNamed B.named
  have hlocks := B.notSynchronized
  have hF : bx_F g s.heap s.heap := bx_F.rf
  have hlc : bx_Lc g [] := bx_Lc.nil
  have hl := lv_entry ([.ref (ad 7 0), .int (iI p), .int (iI a), .int (iI mo)]) (n := 5) (Nat.le_of_ble_eq_true rfl)
  rw [lg_entry_eq]
  generalize (lg_sl ([.ref (ad 7 0), .int (iI p), .int (iI a), .int (iI mo)]) ++ List.replicate (5 - (lg_sl ([.ref (ad 7 0), .int (iI p), .int (iI a), .int (iI mo)])).length) Slot.unset).toArray = ls at hl ⊢
  have hl : lv_has ls 5 [(0, .ref (ad 7 0)), (1, .int (iI p)), (2, .int (iI a)), (3, .int (iI mo))] := hl
  have hinX2 : ∀ w ∈ wsX20, w ∈ wsX2_shift := by decide +kernel
  have hRp0 : -2147483648 ≤ p ∧ p < 2147483648 := hRp
  have hRa0 : -2147483648 ≤ a ∧ a < 2147483648 := hRa
  have hRmo0 : -2147483648 ≤ mo ∧ mo < 2147483648 := hRmo
  have hm0 := bB0 hBt
  refine lv_aload_n hx hb dX2_shift_0 rfl (lv_at hl 0 rfl) ?_
  refine lv_aload_n hx hb dX2_shift_1 rfl (lv_at hl 0 rfl) ?_
  refine lv_iload_n hx hb dX2_shift_2 rfl (lv_at hl 1 rfl) ?_
  refine bc_VB (As := [.int (iI p)]) (rest := [.ref (ad 7 0)]) (kd := 7) (k := 0) (ci := 2) ⟨hx, hb, hml, hown, hts⟩ (c_X2_isPart l g ad σ τ w p (by unfold iR; omega) hBt) (cwV 1 hts gX2_shift_X2_isPart rfl rfl rfl (by decide +kernel) ⟨Nat.le_of_ble_eq_true rfl, Nat.le_of_ble_eq_true rfl⟩) hK hU (bx_L0 (by omega)) rfl rfl rfl hl.1 rfl (Nat.le_of_ble_eq_true rfl) dX2_shift_3 ⟨Nat.le_of_ble_eq_true rfl, Nat.le_of_ble_eq_true rfl⟩ (fun h1 => ?_) (fun h1 => ?_)
  · refine li_if_eq (tgt := 27) hx hb (by unfold iR; omega) dX2_shift_6 (by decide) (fun h => absurd h (by decide)) (fun _ => ?_)
    refine lv_iload_n hx hb dX2_shift_9 rfl (lv_at hl 2 rfl) ?_
    refine bc_SB (As := [.int (iI a)]) (rest := [.ref (ad 7 0)]) ⟨hx, hb, hml, hown, hts⟩ (c_X2_isAxis l g ad σ τ w a (by unfold iR; omega)) (va_cwS 1 hts gX2_shift_X2_isAxis rfl rfl rfl (by decide +kernel) ⟨Nat.le_of_ble_eq_true rfl, Nat.le_of_ble_eq_true rfl⟩) hK hU  rfl hl.1 rfl (Nat.le_of_ble_eq_true rfl) dX2_shift_10 ⟨Nat.le_of_ble_eq_true rfl, Nat.le_of_ble_eq_true rfl⟩ (fun h2 => ?_) (fun h2 => ?_)
    · refine li_if_eq (tgt := 27) hx hb (by unfold iR; omega) dX2_shift_13 (by decide) (fun h => absurd h (by decide)) (fun _ => ?_)
      refine lv_iload_n hx hb dX2_shift_16 rfl (lv_at hl 3 rfl) ?_
      refine li_iconst hx hb dX2_shift_17 ?_
      refine li_sipush hx hb dX2_shift_18 (by decide) ?_
      refine bc_SB (As := [.int (iI mo), .int (iI 0), .int (iI 1000)]) (rest := [.ref (ad 7 0)]) ⟨hx, hb, hml, hown, hts⟩ (c_X2_isIn l g ad σ τ w mo 0 1000 (by unfold iR; omega) (by unfold iR; omega) (by unfold iR; omega)) (va_cwS 3 hts gX2_shift_X2_isIn rfl rfl rfl (by decide +kernel) ⟨Nat.le_of_ble_eq_true rfl, Nat.le_of_ble_eq_true rfl⟩) hK hU  rfl hl.1 rfl (Nat.le_of_ble_eq_true rfl) dX2_shift_21 ⟨Nat.le_of_ble_eq_true rfl, Nat.le_of_ble_eq_true rfl⟩ (fun h3 => ?_) (fun h3 => ?_)
      · refine li_if_ne (tgt := 31) hx hb (by unfold iR; omega) dX2_shift_24 (by decide) (fun _ => ?_) (fun h => absurd h (by decide))
        refine li_iconst hx hb dX2_shift_31 ?_
        refine bp_X2_code hx hb hts hinX2 hown hK hU hlc (hts (.fieldLink RX2 42 "ClashBoxesModel" "code" "I") (by decide +kernel)) dX2_shift_32 (fun H locs hU hF1 hlc => ?_)
        have hF := hF.tr hF1
        have hU : bx_U g ad σ τ (w.1, 0) H := hU
        refine lv_aload_n hx hb dX2_shift_35 rfl (lv_at hl 0 rfl) ?_
        refine bg_X2_code hx hb hts hinX2 hown hK hU (hts (.fieldLink RX2 42 "ClashBoxesModel" "code" "I") (by decide +kernel)) dX2_shift_36 ?_
        refine W.eq (g2 := F0 mI 39 ls [.int (iI 0)]) rfl ?_
        refine li_if_le (tgt := 44) hx hb (by unfold iR; omega) dX2_shift_39 (by decide) (fun _ => ?_) (fun h => absurd (by decide) h)
        refine li_iconst hx hb dX2_shift_44 ?_
        refine lv_istore (lv' := [(4, .int (iI 0)), (0, .ref (ad 7 0)), (1, .int (iI p)), (2, .int (iI a)), (3, .int (iI mo))]) hx hb dX2_shift_45 hl (by decide) rfl (fun ls hl => ?_)
        refine bl_loopW (V := Int × bxS) (nL := 5) (S := fun v => σ) (T := fun v => v.2) (I := fun v => [(4, .int (iI v.1)), (0, .ref (ad 7 0)), (1, .int (iI p)), (2, .int (iI a)), (3, .int (iI mo))]) (Inv := fun v => (0 ≤ v.1 ∧ v.1 ≤ 1001) ∧ (msh (frA τ p a) mo v.1 = msh (frA τ p a) mo 0) ∧ (mvq τ v.2)) (μ := fun v => 1001 - v.1) ?_ (0, τ) _ _ (show (0 ≤ 0 ∧ 0 ≤ 1001) ∧ (msh (frA τ p a) mo 0 = msh (frA τ p a) mo 0) ∧ (mvq τ τ) from ⟨by omega, rfl, mvq_0 (by omega) hM⟩) hU hF hlc ls (lv_sub hl [0, 1, 2, 3, 4] rfl)
        rintro ⟨b4, t4⟩ H locs hI hU hF hlc ih4 ls hl
        have hI : (0 ≤ b4 ∧ b4 ≤ 1001) ∧ (msh (frA τ p a) mo b4 = msh (frA τ p a) mo 0) ∧ (mvq τ t4) := hI
        obtain ⟨ha4, hc4, hq4⟩ := hI
        have hl : lv_has ls 5 [(4, .int (iI b4)), (0, .ref (ad 7 0)), (1, .int (iI p)), (2, .int (iI a)), (3, .int (iI mo))] := hl
        have hU : bx_U g ad σ t4 (w.1, 0) H := hU
        obtain ⟨A4, D4, e4, hAD⟩ := hq4
        subst e4
        refine lv_iload hx hb dX2_shift_47 (lv_at hl 0 rfl) ?_
        refine lv_iload_n hx hb dX2_shift_49 rfl (lv_at hl 4 rfl) ?_
        refine li_icmp_gt (tgt := 89) hx hb (by unfold iR; omega) (by unfold iR; omega) dX2_shift_50 (by decide) (fun h5 => ?_) (fun h5 => ?_)
        · refine li_sipush hx hb dX2_shift_89 (by decide) ?_
          refine bh_i hx hb hr hlocks ⟨_, ⟨_, _, rfl, hAD⟩, hU⟩ hF hlc ?_ dX2_shift_92
          rw [← hc4, msh_end _ (by omega)]
        · refine lv_aload_n hx hb dX2_shift_53 rfl (lv_at hl 1 rfl) ?_
          refine lv_iload_n hx hb dX2_shift_54 rfl (lv_at hl 2 rfl) ?_
          refine lv_iload_n hx hb dX2_shift_55 rfl (lv_at hl 3 rfl) ?_
          refine lv_iload hx hb dX2_shift_56 (lv_at hl 0 rfl) ?_
          refine bc_VW (As := [.int (iI p), .int (iI a), .int (iI b4)]) (rest := []) (kd := 7) (k := 0) (ci := 2) ⟨hx, hb, hml, hown, hts⟩ (c_X2_isFreeAt_m l g ad σ τ (w.1, 0) A4 D4 p a b4 (by omega) hBt (by omega) (by omega)) (cwV 3 hts gX2_shift_X2_isFreeAt rfl rfl rfl (by decide +kernel) ⟨Nat.le_of_ble_eq_true rfl, Nat.le_of_ble_eq_true rfl⟩) hK hU hlc (bx_L0 (by omega)) rfl rfl rfl hl.1 rfl (Nat.le_of_ble_eq_true rfl) dX2_shift_58 ⟨Nat.le_of_ble_eq_true rfl, Nat.le_of_ble_eq_true rfl⟩ (fun H locs hU hF1 hlc => ?_)
          have hF := hF.tr hF1
          have hAD := adB_z (P := stS τ p a b4) (a := a) (d := b4) hAD (by omega) (by omega)
          have h6 := zB_01 (frA τ p a b4)
          refine li_if_eq (tgt := 67) hx hb (by unfold iR; omega) dX2_shift_61 (by decide) (fun h7 => ?_) (fun h7 => ?_)
          · refine lv_aload_n hx hb dX2_shift_67 rfl (lv_at hl 1 rfl) ?_
            refine lv_iload_n hx hb dX2_shift_68 rfl (lv_at hl 2 rfl) ?_
            refine lv_iload_n hx hb dX2_shift_69 rfl (lv_at hl 3 rfl) ?_
            refine lv_iload hx hb dX2_shift_70 (lv_at hl 0 rfl) ?_
            refine li_ineg hx hb dX2_shift_72 ?_
            refine bc_VW (As := [.int (iI p), .int (iI a), .int (iI (-b4))]) (rest := []) (kd := 7) (k := 0) (ci := 2) ⟨hx, hb, hml, hown, hts⟩ (c_X2_isFreeAt_m l g ad σ τ (w.1, 0) (zI (stS τ p a b4) a A4) (zI (stS τ p a b4) b4 D4) p a (-b4) (by omega) hBt (by omega) (by omega)) (cwV 3 hts gX2_shift_X2_isFreeAt rfl rfl rfl (by decide +kernel) ⟨Nat.le_of_ble_eq_true rfl, Nat.le_of_ble_eq_true rfl⟩) hK hU hlc (bx_L0 (by omega)) rfl rfl rfl hl.1 rfl (Nat.le_of_ble_eq_true rfl) dX2_shift_73 ⟨Nat.le_of_ble_eq_true rfl, Nat.le_of_ble_eq_true rfl⟩ (fun H locs hU hF1 hlc => ?_)
            have hF := hF.tr hF1
            have hAD := adB_z (P := stS τ p a (-b4)) (a := a) (d := (-b4)) hAD (by omega) (by omega)
            have h8 := zB_01 (frA τ p a (-b4))
            refine li_if_eq (tgt := 83) hx hb (by unfold iR; omega) dX2_shift_76 (by decide) (fun h9 => ?_) (fun h9 => ?_)
            · refine li_iinc (k0 := 0) (lv' := [(4, .int (iI (b4 + 1))), (0, .ref (ad 7 0)), (1, .int (iI p)), (2, .int (iI a)), (3, .int (iI mo))]) hx hb dX2_shift_83 hl rfl (by decide) rfl (fun ls hl => ?_)
              refine lv_goto (tgt := 47) hx hb dX2_shift_86 (by decide) ?_
              exact ih4 (b4 + 1, (mv3 τ (-1) (zI (stS τ p a (-b4)) a (zI (stS τ p a b4) a A4)) (zI (stS τ p a (-b4)) (-b4) (zI (stS τ p a b4) b4 D4)))) _ _ (show (0 ≤ (b4 + 1) ∧ (b4 + 1) ≤ 1001) ∧ (msh (frA τ p a) mo (b4 + 1) = msh (frA τ p a) mo 0) ∧ (mvq τ (mv3 τ (-1) (zI (stS τ p a (-b4)) a (zI (stS τ p a b4) a A4)) (zI (stS τ p a (-b4)) (-b4) (zI (stS τ p a b4) b4 D4)))) from ⟨by omega, by rw [← hc4, msh_s (frA τ p a) (b := b4) (by omega), zI_f (zB_nof h7), zI_f (zB_nof h9)], ⟨_, _, rfl, hAD⟩⟩) hU hF hlc (show 0 ≤ 1001 - (b4 + 1) by omega) (show 1001 - (b4 + 1) < 1001 - b4 by omega) ls (lv_sub hl [0, 1, 2, 3, 4] rfl)
            · refine lv_iload hx hb dX2_shift_79 (lv_at hl 0 rfl) ?_
              refine li_ineg hx hb dX2_shift_81 ?_
              refine bh_i hx hb hr hlocks ⟨_, ⟨_, _, rfl, hAD⟩, hU⟩ hF hlc ?_ dX2_shift_82
              rw [← hc4, msh_s (frA τ p a) (b := b4) (by omega), zI_f (zB_nof h7), zI_t (zB_of h9)]
          · refine lv_iload hx hb dX2_shift_64 (lv_at hl 0 rfl) ?_
            refine bh_i hx hb hr hlocks ⟨_, ⟨_, _, rfl, hAD⟩, hU⟩ hF hlc ?_ dX2_shift_66
            rw [← hc4, msh_s (frA τ p a) (b := b4) (by omega), zI_t (zB_of h7)]
      · refine li_if_ne (tgt := 31) hx hb (by unfold iR; omega) dX2_shift_24 (by decide) (fun h => absurd (by decide) h) (fun _ => ?_)
        refine li_iconst hx hb dX2_shift_27 ?_
        refine lv_goto (tgt := 32) hx hb dX2_shift_28 (by decide) ?_
        exfalso
        omega
    · refine li_if_eq (tgt := 27) hx hb (by unfold iR; omega) dX2_shift_13 (by decide) (fun _ => ?_) (fun h => absurd (by decide) h)
      refine li_iconst hx hb dX2_shift_27 ?_
      refine lv_goto (tgt := 32) hx hb dX2_shift_28 (by decide) ?_
      exfalso
      omega
  · refine li_if_eq (tgt := 27) hx hb (by unfold iR; omega) dX2_shift_6 (by decide) (fun _ => ?_) (fun h => absurd (by decide) h)
    refine li_iconst hx hb dX2_shift_27 ?_
    refine lv_goto (tgt := 32) hx hb dX2_shift_28 (by decide) ?_
    exfalso
    omega

set_option maxHeartbeats 4000000 in
set_option maxRecDepth 100000 in
theorem c_X2_shift_f (l : Launch) (g : bxG) (ad : bxA) (σ τ : bxS) (w : bxW) (p a mo : Int) (hRp : iR p) (hRa : iR a) (hRmo : iR mo) (hBt : bx_B τ) (hg : ¬ ((0 ≤ p ∧ p < 60 ∧ τ 2 p 0 ≠ 0) ∧ (0 ≤ a ∧ a ≤ 2) ∧ 0 ≤ mo ∧ mo ≤ 1000)) : Met l yX2_shift wsX2_shift ({ frames := 5, cells := 0, slots := 0, locals := 130 }) (va_Pc [.ref (ad 7 0), .int (iI p), .int (iI a), .int (iI mo)] (fun U => bx_I g ad σ τ w U)) (bq_W (some (.int (iI 0))) g ad σ τ (w.1, 1)) 0 0 (bq_fr g) := by
  refine Met.ofW (cc := cX2_shift) (maxL := 5) (ret := (some .int)) (by decide) rfl ?_
  intro Pg Ev s mI args below meth cd s₁ B hml hv
  obtain ⟨rfl, hU, hK⟩ := hv
  have hx := B.exec
  have hb := B.bytes
  have hr := B.returns
  have hts := atoms_spec (ws := wsX2_shift) B.pre
  have hown : s.vm.findClass RX2 = some mI.cls := findClass_of_methodNamed B.named
  have hlocks := B.notSynchronized
  have hF : bx_F g s.heap s.heap := bx_F.rf
  have hlc : bx_Lc g [] := bx_Lc.nil
  have hl := lv_entry ([.ref (ad 7 0), .int (iI p), .int (iI a), .int (iI mo)]) (n := 5) (Nat.le_of_ble_eq_true rfl)
  rw [lg_entry_eq]
  generalize (lg_sl ([.ref (ad 7 0), .int (iI p), .int (iI a), .int (iI mo)]) ++ List.replicate (5 - (lg_sl ([.ref (ad 7 0), .int (iI p), .int (iI a), .int (iI mo)])).length) Slot.unset).toArray = ls at hl ⊢
  have hl : lv_has ls 5 [(0, .ref (ad 7 0)), (1, .int (iI p)), (2, .int (iI a)), (3, .int (iI mo))] := hl
  have hinX2 : ∀ w ∈ wsX20, w ∈ wsX2_shift := by decide +kernel
  have hRp0 : -2147483648 ≤ p ∧ p < 2147483648 := hRp
  have hRa0 : -2147483648 ≤ a ∧ a < 2147483648 := hRa
  have hRmo0 : -2147483648 ≤ mo ∧ mo < 2147483648 := hRmo
  refine lv_aload_n hx hb dX2_shift_0 rfl (lv_at hl 0 rfl) ?_
  refine lv_aload_n hx hb dX2_shift_1 rfl (lv_at hl 0 rfl) ?_
  refine lv_iload_n hx hb dX2_shift_2 rfl (lv_at hl 1 rfl) ?_
  refine bc_VB (As := [.int (iI p)]) (rest := [.ref (ad 7 0)]) (kd := 7) (k := 0) (ci := 2) ⟨hx, hb, hml, hown, hts⟩ (c_X2_isPart l g ad σ τ w p (by unfold iR; omega) hBt) (cwV 1 hts gX2_shift_X2_isPart rfl rfl rfl (by decide +kernel) ⟨Nat.le_of_ble_eq_true rfl, Nat.le_of_ble_eq_true rfl⟩) hK hU (bx_L0 (by omega)) rfl rfl rfl hl.1 rfl (Nat.le_of_ble_eq_true rfl) dX2_shift_3 ⟨Nat.le_of_ble_eq_true rfl, Nat.le_of_ble_eq_true rfl⟩ (fun h1 => ?_) (fun h1 => ?_)
  · refine li_if_eq (tgt := 27) hx hb (by unfold iR; omega) dX2_shift_6 (by decide) (fun h => absurd h (by decide)) (fun _ => ?_)
    refine lv_iload_n hx hb dX2_shift_9 rfl (lv_at hl 2 rfl) ?_
    refine bc_SB (As := [.int (iI a)]) (rest := [.ref (ad 7 0)]) ⟨hx, hb, hml, hown, hts⟩ (c_X2_isAxis l g ad σ τ w a (by unfold iR; omega)) (va_cwS 1 hts gX2_shift_X2_isAxis rfl rfl rfl (by decide +kernel) ⟨Nat.le_of_ble_eq_true rfl, Nat.le_of_ble_eq_true rfl⟩) hK hU  rfl hl.1 rfl (Nat.le_of_ble_eq_true rfl) dX2_shift_10 ⟨Nat.le_of_ble_eq_true rfl, Nat.le_of_ble_eq_true rfl⟩ (fun h2 => ?_) (fun h2 => ?_)
    · refine li_if_eq (tgt := 27) hx hb (by unfold iR; omega) dX2_shift_13 (by decide) (fun h => absurd h (by decide)) (fun _ => ?_)
      refine lv_iload_n hx hb dX2_shift_16 rfl (lv_at hl 3 rfl) ?_
      refine li_iconst hx hb dX2_shift_17 ?_
      refine li_sipush hx hb dX2_shift_18 (by decide) ?_
      refine bc_SB (As := [.int (iI mo), .int (iI 0), .int (iI 1000)]) (rest := [.ref (ad 7 0)]) ⟨hx, hb, hml, hown, hts⟩ (c_X2_isIn l g ad σ τ w mo 0 1000 (by unfold iR; omega) (by unfold iR; omega) (by unfold iR; omega)) (va_cwS 3 hts gX2_shift_X2_isIn rfl rfl rfl (by decide +kernel) ⟨Nat.le_of_ble_eq_true rfl, Nat.le_of_ble_eq_true rfl⟩) hK hU  rfl hl.1 rfl (Nat.le_of_ble_eq_true rfl) dX2_shift_21 ⟨Nat.le_of_ble_eq_true rfl, Nat.le_of_ble_eq_true rfl⟩ (fun h3 => ?_) (fun h3 => ?_)
      · refine li_if_ne (tgt := 31) hx hb (by unfold iR; omega) dX2_shift_24 (by decide) (fun _ => ?_) (fun h => absurd h (by decide))
        refine li_iconst hx hb dX2_shift_31 ?_
        exfalso
        omega
      · refine li_if_ne (tgt := 31) hx hb (by unfold iR; omega) dX2_shift_24 (by decide) (fun h => absurd (by decide) h) (fun _ => ?_)
        refine li_iconst hx hb dX2_shift_27 ?_
        refine lv_goto (tgt := 32) hx hb dX2_shift_28 (by decide) ?_
        refine bp_X2_code hx hb hts hinX2 hown hK hU hlc (hts (.fieldLink RX2 42 "ClashBoxesModel" "code" "I") (by decide +kernel)) dX2_shift_32 (fun H locs hU hF1 hlc => ?_)
        have hF := hF.tr hF1
        have hU : bx_U g ad σ τ (w.1, 1) H := hU
        refine lv_aload_n hx hb dX2_shift_35 rfl (lv_at hl 0 rfl) ?_
        refine bg_X2_code hx hb hts hinX2 hown hK hU (hts (.fieldLink RX2 42 "ClashBoxesModel" "code" "I") (by decide +kernel)) dX2_shift_36 ?_
        refine W.eq (g2 := F0 mI 39 ls [.int (iI 1)]) rfl ?_
        refine li_if_le (tgt := 44) hx hb (by unfold iR; omega) dX2_shift_39 (by decide) (fun h => absurd h (by decide)) (fun _ => ?_)
        refine li_iconst hx hb dX2_shift_42 ?_
        refine bw_i hx hb hr hlocks (by first | exact hU | simpa using hU) hF hlc ?_ dX2_shift_43
        rfl
    · refine li_if_eq (tgt := 27) hx hb (by unfold iR; omega) dX2_shift_13 (by decide) (fun _ => ?_) (fun h => absurd (by decide) h)
      refine li_iconst hx hb dX2_shift_27 ?_
      refine lv_goto (tgt := 32) hx hb dX2_shift_28 (by decide) ?_
      refine bp_X2_code hx hb hts hinX2 hown hK hU hlc (hts (.fieldLink RX2 42 "ClashBoxesModel" "code" "I") (by decide +kernel)) dX2_shift_32 (fun H locs hU hF1 hlc => ?_)
      have hF := hF.tr hF1
      have hU : bx_U g ad σ τ (w.1, 1) H := hU
      refine lv_aload_n hx hb dX2_shift_35 rfl (lv_at hl 0 rfl) ?_
      refine bg_X2_code hx hb hts hinX2 hown hK hU (hts (.fieldLink RX2 42 "ClashBoxesModel" "code" "I") (by decide +kernel)) dX2_shift_36 ?_
      refine W.eq (g2 := F0 mI 39 ls [.int (iI 1)]) rfl ?_
      refine li_if_le (tgt := 44) hx hb (by unfold iR; omega) dX2_shift_39 (by decide) (fun h => absurd h (by decide)) (fun _ => ?_)
      refine li_iconst hx hb dX2_shift_42 ?_
      refine bw_i hx hb hr hlocks (by first | exact hU | simpa using hU) hF hlc ?_ dX2_shift_43
      rfl
  · refine li_if_eq (tgt := 27) hx hb (by unfold iR; omega) dX2_shift_6 (by decide) (fun _ => ?_) (fun h => absurd (by decide) h)
    refine li_iconst hx hb dX2_shift_27 ?_
    refine lv_goto (tgt := 32) hx hb dX2_shift_28 (by decide) ?_
    refine bp_X2_code hx hb hts hinX2 hown hK hU hlc (hts (.fieldLink RX2 42 "ClashBoxesModel" "code" "I") (by decide +kernel)) dX2_shift_32 (fun H locs hU hF1 hlc => ?_)
    have hF := hF.tr hF1
    have hU : bx_U g ad σ τ (w.1, 1) H := hU
    refine lv_aload_n hx hb dX2_shift_35 rfl (lv_at hl 0 rfl) ?_
    refine bg_X2_code hx hb hts hinX2 hown hK hU (hts (.fieldLink RX2 42 "ClashBoxesModel" "code" "I") (by decide +kernel)) dX2_shift_36 ?_
    refine W.eq (g2 := F0 mI 39 ls [.int (iI 1)]) rfl ?_
    refine li_if_le (tgt := 44) hx hb (by unfold iR; omega) dX2_shift_39 (by decide) (fun h => absurd h (by decide)) (fun _ => ?_)
    refine li_iconst hx hb dX2_shift_42 ?_
    refine bw_i hx hb hr hlocks (by first | exact hU | simpa using hU) hF hlc ?_ dX2_shift_43
    rfl
