set_option maxHeartbeats 4000000 in
set_option maxRecDepth 100000 in
theorem c_X1_noteBlock (l : Launch) (g : bxG) (ad : bxA) (σ τ : bxS) (w : bxW) (L : Int → Int) (G : Int → Int) (p q a pl : Int) (hpp : 0 ≤ p ∧ p < 60 ∧ σ 2 p 0 ≠ 0) (hpq : 0 ≤ q ∧ q < 60 ∧ σ 2 q 0 ≠ 0) (hB : bx_B σ) (hxa : 0 ≤ a ∧ a < 3) (h6pl : 0 ≤ pl ∧ pl < 60) : Met l yX1_noteBlock wsX1_noteBlock ({ frames := 3, cells := 0, slots := 0, locals := 73 }) (va_Pc [.ref (ad 0 0), .ref (ad 20 p), .ref (ad 20 q), .int (iI a), .int (iI pl)] (fun U => bx_I g ad (setF (setF σ 12 L) 13 G) τ w U)) (bq_W (some (.int (iI (zB (bOk σ p q a))))) g ad (setF (setF σ 12 (fun j => if j = pl then bLo σ p q a else L j)) 13 (fun j => if j = pl then bHi σ p q a else G j)) τ w) 0 0 (bq_fr g) := by
  refine Met.ofW (cc := cX1_noteBlock) (maxL := 7) (ret := (some .boolean)) (by decide) rfl ?_
  intro Pg Ev s mI args below meth cd s₁ B hml hv
  obtain ⟨rfl, hU, hK⟩ := hv
  have hx := B.exec
  have hb := B.bytes
  have hr := B.returns
  have hts := atoms_spec (ws := wsX1_noteBlock) B.pre
  have hown : s.vm.findClass RX1 = some mI.cls := findClass_of_methodNamed B.named
  have hlocks := B.notSynchronized
  have hF : bx_F g s.heap s.heap := bx_F.rf
  have hlc : bx_Lc g [] := bx_Lc.nil
  have hl := lv_entry ([.ref (ad 0 0), .ref (ad 20 p), .ref (ad 20 q), .int (iI a), .int (iI pl)]) (n := 7) (Nat.le_of_ble_eq_true rfl)
  rw [lg_entry_eq]
  generalize (lg_sl ([.ref (ad 0 0), .ref (ad 20 p), .ref (ad 20 q), .int (iI a), .int (iI pl)]) ++ List.replicate (7 - (lg_sl ([.ref (ad 0 0), .ref (ad 20 p), .ref (ad 20 q), .int (iI a), .int (iI pl)])).length) Slot.unset).toArray = ls at hl ⊢
  have hl : lv_has ls 7 [(0, .ref (ad 0 0)), (1, .ref (ad 20 p)), (2, .ref (ad 20 q)), (3, .int (iI a)), (4, .int (iI pl))] := hl
  have hinX0 : ∀ w ∈ wsX00, w ∈ wsX1_noteBlock := by decide +kernel
  have hinX1 : ∀ w ∈ wsX10, w ∈ wsX1_noteBlock := by decide +kernel
  refine lv_aload_n hx hb dX1_noteBlock_0 rfl (lv_at hl 1 rfl) ?_
  refine lv_aload_n hx hb dX1_noteBlock_1 rfl (lv_at hl 2 rfl) ?_
  refine bc_S (As := [.ref (ad 20 p), .ref (ad 20 q)]) (rest := []) ⟨hx, hb, hml, hown, hts⟩ (c_X1_roundAxis_B l g ad σ τ w L G p q hpp hpq hB) (va_cwS 2 hts gX1_noteBlock_X1_roundAxis rfl rfl rfl (by decide +kernel) ⟨Nat.le_of_ble_eq_true rfl, Nat.le_of_ble_eq_true rfl⟩) hK hU  rfl hl.1 rfl (Nat.le_of_ble_eq_true rfl) dX1_noteBlock_2 ⟨Nat.le_of_ble_eq_true rfl, Nat.le_of_ble_eq_true rfl⟩ ?_
  have h1 := rAx_bd hB hpp hpq
  refine lv_istore (lv' := [(5, .int (iI (rAx σ p q))), (0, .ref (ad 0 0)), (1, .ref (ad 20 p)), (2, .ref (ad 20 q)), (3, .int (iI a)), (4, .int (iI pl))]) hx hb dX1_noteBlock_5 hl (by decide) rfl (fun ls hl => ?_)
  refine lv_iload hx hb dX1_noteBlock_7 (lv_at hl 0 rfl) ?_
  refine li_iconst hx hb dX1_noteBlock_9 ?_
  refine li_icmp_eq (tgt := 19) hx hb (by unfold iR; omega) (by unfold iR; omega) dX1_noteBlock_10 (by decide) (fun h2 => ?_) (fun h2 => ?_)
  · refine lv_aload_n hx hb dX1_noteBlock_19 rfl (lv_at hl 1 rfl) ?_
    refine bg_X1_blockLeast hx hb hts hinX1 hown hK hU (hts (.fieldLink RX1 33 "ClashBoxes" "blockLeast" "[I") (by decide +kernel)) dX1_noteBlock_20 ?_
    refine lv_iload hx hb dX1_noteBlock_23 (lv_at hl 5 rfl) ?_
    refine lv_aload_n hx hb dX1_noteBlock_25 rfl (lv_at hl 3 rfl) ?_
    refine lv_iload_n hx hb dX1_noteBlock_26 rfl (lv_at hl 4 rfl) ?_
    refine bc_V (As := [.int (iI a)]) (rest := [.int (iI pl), .ref (ad 5 0)]) (kd := 20) (k := q) (ci := 0) ⟨hx, hb, hml, hown, hts⟩ (c_X0_hullLeast_B l g ad σ τ w L G q a hpq hB (by omega)) (cwV 1 hts gX1_noteBlock_X0_hullLeast rfl rfl rfl (by decide +kernel) ⟨Nat.le_of_ble_eq_true rfl, Nat.le_of_ble_eq_true rfl⟩) hK hU (bx_Lp (by omega) (by omega) hpq) rfl rfl rfl hl.1 rfl (Nat.le_of_ble_eq_true rfl) dX1_noteBlock_27 ⟨Nat.le_of_ble_eq_true rfl, Nat.le_of_ble_eq_true rfl⟩ ?_
    have h3 := hLo_bd hB hpq (a := a) (by omega) (by omega)
    refine lv_aload_n hx hb dX1_noteBlock_30 rfl (lv_at hl 2 rfl) ?_
    refine lv_iload_n hx hb dX1_noteBlock_31 rfl (lv_at hl 4 rfl) ?_
    refine bc_V (As := [.int (iI a)]) (rest := [.int (iI (hLo σ q a)), .int (iI pl), .ref (ad 5 0)]) (kd := 20) (k := p) (ci := 0) ⟨hx, hb, hml, hown, hts⟩ (c_X0_hullGreatest_B l g ad σ τ w L G p a hpp hB (by omega)) (cwV 1 hts gX1_noteBlock_X0_hullGreatest rfl rfl rfl (by decide +kernel) ⟨Nat.le_of_ble_eq_true rfl, Nat.le_of_ble_eq_true rfl⟩) hK hU (bx_Lp (by omega) (by omega) hpp) rfl rfl rfl hl.1 rfl (Nat.le_of_ble_eq_true rfl) dX1_noteBlock_32 ⟨Nat.le_of_ble_eq_true rfl, Nat.le_of_ble_eq_true rfl⟩ ?_
    have h4 := hHi_bd hB hpp (a := a) (by omega) (by omega)
    refine li_isub hx hb dX1_noteBlock_35 ?_
    refine li_iconst hx hb dX1_noteBlock_36 ?_
    refine li_iadd hx hb dX1_noteBlock_37 ?_
    refine bs_5 hx hb hK hU hlc (by omega) (by omega) dX1_noteBlock_38 (fun H locs hU hF1 hlc => ?_)
    have hF := hF.tr hF1
    have hU : bx_U g ad (setF (setF σ 12 (fun j => if j = pl then ((hLo σ q a) - (hHi σ p a)) + 1 else L j)) 13 G) τ w H := by rw [← up3_setF2 _ (by omega)]; exact hU
    refine lv_aload_n hx hb dX1_noteBlock_39 rfl (lv_at hl 1 rfl) ?_
    refine bg_X1_blockGreatest hx hb hts hinX1 hown hK hU (hts (.fieldLink RX1 36 "ClashBoxes" "blockGreatest" "[I") (by decide +kernel)) dX1_noteBlock_40 ?_
    refine lv_iload hx hb dX1_noteBlock_43 (lv_at hl 5 rfl) ?_
    refine lv_aload_n hx hb dX1_noteBlock_45 rfl (lv_at hl 3 rfl) ?_
    refine lv_iload_n hx hb dX1_noteBlock_46 rfl (lv_at hl 4 rfl) ?_
    refine bc_V (As := [.int (iI a)]) (rest := [.int (iI pl), .ref (ad 6 0)]) (kd := 20) (k := q) (ci := 0) ⟨hx, hb, hml, hown, hts⟩ (c_X0_hullGreatest_B l g ad σ τ w (fun j => if j = pl then ((hLo σ q a) - (hHi σ p a)) + 1 else L j) G q a hpq hB (by omega)) (cwV 1 hts gX1_noteBlock_X0_hullGreatest rfl rfl rfl (by decide +kernel) ⟨Nat.le_of_ble_eq_true rfl, Nat.le_of_ble_eq_true rfl⟩) hK hU (bx_Lp (by omega) (by omega) hpq) rfl rfl rfl hl.1 rfl (Nat.le_of_ble_eq_true rfl) dX1_noteBlock_47 ⟨Nat.le_of_ble_eq_true rfl, Nat.le_of_ble_eq_true rfl⟩ ?_
    have h5 := hHi_bd hB hpq (a := a) (by omega) (by omega)
    refine lv_aload_n hx hb dX1_noteBlock_50 rfl (lv_at hl 2 rfl) ?_
    refine lv_iload_n hx hb dX1_noteBlock_51 rfl (lv_at hl 4 rfl) ?_
    refine bc_V (As := [.int (iI a)]) (rest := [.int (iI (hHi σ q a)), .int (iI pl), .ref (ad 6 0)]) (kd := 20) (k := p) (ci := 0) ⟨hx, hb, hml, hown, hts⟩ (c_X0_hullLeast_B l g ad σ τ w (fun j => if j = pl then ((hLo σ q a) - (hHi σ p a)) + 1 else L j) G p a hpp hB (by omega)) (cwV 1 hts gX1_noteBlock_X0_hullLeast rfl rfl rfl (by decide +kernel) ⟨Nat.le_of_ble_eq_true rfl, Nat.le_of_ble_eq_true rfl⟩) hK hU (bx_Lp (by omega) (by omega) hpp) rfl rfl rfl hl.1 rfl (Nat.le_of_ble_eq_true rfl) dX1_noteBlock_52 ⟨Nat.le_of_ble_eq_true rfl, Nat.le_of_ble_eq_true rfl⟩ ?_
    have h6 := hLo_bd hB hpp (a := a) (by omega) (by omega)
    refine li_isub hx hb dX1_noteBlock_55 ?_
    refine li_iconst hx hb dX1_noteBlock_56 ?_
    refine li_isub hx hb dX1_noteBlock_57 ?_
    refine bs_6 hx hb hK hU hlc (by omega) (by omega) dX1_noteBlock_58 (fun H locs hU hF1 hlc => ?_)
    have hF := hF.tr hF1
    have hU : bx_U g ad (setF (setF σ 12 (fun j => if j = pl then ((hLo σ q a) - (hHi σ p a)) + 1 else L j)) 13 (fun j => if j = pl then ((hHi σ q a) - (hLo σ p a)) - 1 else G j)) τ w H := by rw [← up3_setF]; exact hU
    refine lv_iload hx hb dX1_noteBlock_59 (lv_at hl 0 rfl) ?_
    refine li_iconst hx hb dX1_noteBlock_61 ?_
    refine li_icmp_ne (tgt := 74) hx hb (by unfold iR; omega) (by unfold iR; omega) dX1_noteBlock_62 (by decide) (fun h7 => absurd h7 (by omega)) (fun h7 => ?_)
    refine lv_aload_n hx hb dX1_noteBlock_65 rfl (lv_at hl 2 rfl) ?_
    refine lv_aload_n hx hb dX1_noteBlock_66 rfl (lv_at hl 3 rfl) ?_
    refine lv_iload_n hx hb dX1_noteBlock_67 rfl (lv_at hl 4 rfl) ?_
    refine bc_SB (As := [.ref (ad 20 p), .ref (ad 20 q), .int (iI a)]) (rest := []) ⟨hx, hb, hml, hown, hts⟩ (c_X1_overlapAcross_B l g ad σ τ w (fun j => if j = pl then ((hLo σ q a) - (hHi σ p a)) + 1 else L j) (fun j => if j = pl then ((hHi σ q a) - (hLo σ p a)) - 1 else G j) p q a hpp hpq hB (by omega)) (va_cwS 3 hts gX1_noteBlock_X1_overlapAcross rfl rfl rfl (by decide +kernel) ⟨Nat.le_of_ble_eq_true rfl, Nat.le_of_ble_eq_true rfl⟩) hK hU  rfl hl.1 rfl (Nat.le_of_ble_eq_true rfl) dX1_noteBlock_68 ⟨Nat.le_of_ble_eq_true rfl, Nat.le_of_ble_eq_true rfl⟩ (fun h8 => ?_) (fun h8 => ?_)
    · refine lv_goto (tgt := 81) hx hb dX1_noteBlock_71 (by decide) ?_
      refine bw_z hx hb hr hlocks (by rw [show bLo σ p q a = _ from if_pos (Or.inl h2), show bHi σ p q a = _ from if_pos (Or.inl h2)]; exact hU) hF hlc (by omega) ?_ dX1_noteBlock_81
      rw [zB_t (show bOk σ p q a from Or.inl ⟨h2, h8⟩)]
    · refine lv_goto (tgt := 81) hx hb dX1_noteBlock_71 (by decide) ?_
      refine bw_z hx hb hr hlocks (by rw [show bLo σ p q a = _ from if_pos (Or.inl h2), show bHi σ p q a = _ from if_pos (Or.inl h2)]; exact hU) hF hlc (by omega) ?_ dX1_noteBlock_81
      rw [zB_f (show ¬ bOk σ p q a from fun q9 => Or.elim q9 (fun z => h8 z.2) (fun z => z.elim (fun z => z.1 h2) (fun z => z.1 h2)))]
  · refine lv_iload hx hb dX1_noteBlock_13 (lv_at hl 0 rfl) ?_
    refine lv_iload_n hx hb dX1_noteBlock_15 rfl (lv_at hl 4 rfl) ?_
    refine li_icmp_ne (tgt := 82) hx hb (by unfold iR; omega) (by unfold iR; omega) dX1_noteBlock_16 (by decide) (fun h9 => ?_) (fun h9 => ?_)
    · refine lv_aload_n hx hb dX1_noteBlock_82 rfl (lv_at hl 2 rfl) ?_
      refine lv_aload_n hx hb dX1_noteBlock_83 rfl (lv_at hl 3 rfl) ?_
      refine lv_iload_n hx hb dX1_noteBlock_84 rfl (lv_at hl 4 rfl) ?_
      refine lv_iload hx hb dX1_noteBlock_85 (lv_at hl 0 rfl) ?_
      refine bc_S (As := [.int (iI a), .int (iI (rAx σ p q))]) (rest := [.ref (ad 20 q), .ref (ad 20 p)]) ⟨hx, hb, hml, hown, hts⟩ (c_X1_thirdAxis l g ad (setF (setF σ 12 L) 13 G) τ w a (rAx σ p q) (by unfold iR; omega) (by unfold iR; omega)) (va_cwS 2 hts gX1_noteBlock_X1_thirdAxis rfl rfl rfl (by decide +kernel) ⟨Nat.le_of_ble_eq_true rfl, Nat.le_of_ble_eq_true rfl⟩) hK hU  rfl hl.1 rfl (Nat.le_of_ble_eq_true rfl) dX1_noteBlock_87 ⟨Nat.le_of_ble_eq_true rfl, Nat.le_of_ble_eq_true rfl⟩ ?_
      refine bc_S (As := [.ref (ad 20 p), .ref (ad 20 q), .int (iI (3 - a - (rAx σ p q)))]) (rest := []) ⟨hx, hb, hml, hown, hts⟩ (c_X1_roundWidth_B l g ad σ τ w L G p q (3 - a - (rAx σ p q)) hpp hpq hB (by omega)) (va_cwS 3 hts gX1_noteBlock_X1_roundWidth rfl rfl rfl (by decide +kernel) ⟨Nat.le_of_ble_eq_true rfl, Nat.le_of_ble_eq_true rfl⟩) hK hU  rfl hl.1 rfl (Nat.le_of_ble_eq_true rfl) dX1_noteBlock_90 ⟨Nat.le_of_ble_eq_true rfl, Nat.le_of_ble_eq_true rfl⟩ ?_
      have h10 := rwd_bd hB hpp hpq (3 - a - (rAx σ p q))
      refine lv_istore (lv' := [(6, .int (iI (rwd σ p q (3 - a - (rAx σ p q))))), (5, .int (iI (rAx σ p q))), (0, .ref (ad 0 0)), (1, .ref (ad 20 p)), (2, .ref (ad 20 q)), (3, .int (iI a)), (4, .int (iI pl))]) hx hb dX1_noteBlock_93 hl (by decide) rfl (fun ls hl => ?_)
      refine lv_aload_n hx hb dX1_noteBlock_95 rfl (lv_at hl 2 rfl) ?_
      refine bg_X1_blockLeast hx hb hts hinX1 hown hK hU (hts (.fieldLink RX1 33 "ClashBoxes" "blockLeast" "[I") (by decide +kernel)) dX1_noteBlock_96 ?_
      refine lv_iload hx hb dX1_noteBlock_99 (lv_at hl 6 rfl) ?_
      refine lv_aload_n hx hb dX1_noteBlock_101 rfl (lv_at hl 4 rfl) ?_
      refine bg_X0_least hx hb hts hinX0 hown hK hU hpq (hts (.fieldLink RX1 84 "ClashBoxes$Part" "least" "[I") (by decide +kernel)) dX1_noteBlock_102 ?_
      refine lv_iload_n hx hb dX1_noteBlock_105 rfl (lv_at hl 5 rfl) ?_
      refine bl_21 hx hb hK hU hpq (by omega) (by omega) dX1_noteBlock_106 ?_
      refine W.eq (g2 := F0 mI 107 ls [.int (iI (σ 7 q a)), .int (iI pl), .ref (ad 5 0)]) rfl ?_
      have b11 := bB7 hB hpq (a := a) (by omega) (by omega)
      refine lv_aload_n hx hb dX1_noteBlock_107 rfl (lv_at hl 3 rfl) ?_
      refine bg_X0_greatest hx hb hts hinX0 hown hK hU hpp (hts (.fieldLink RX1 87 "ClashBoxes$Part" "greatest" "[I") (by decide +kernel)) dX1_noteBlock_108 ?_
      refine lv_iload_n hx hb dX1_noteBlock_111 rfl (lv_at hl 5 rfl) ?_
      refine bl_22 hx hb hK hU hpp (by omega) (by omega) dX1_noteBlock_112 ?_
      refine W.eq (g2 := F0 mI 113 ls [.int (iI (σ 8 p a)), .int (iI (σ 7 q a)), .int (iI pl), .ref (ad 5 0)]) rfl ?_
      have b12 := bB7 hB hpp (a := a) (by omega) (by omega)
      refine li_isub hx hb dX1_noteBlock_113 ?_
      refine lv_iload hx hb dX1_noteBlock_114 (lv_at hl 0 rfl) ?_
      refine li_isub hx hb dX1_noteBlock_116 ?_
      refine bs_5 hx hb hK hU hlc (by omega) (by omega) dX1_noteBlock_117 (fun H locs hU hF1 hlc => ?_)
      have hF := hF.tr hF1
      have hU : bx_U g ad (setF (setF σ 12 (fun j => if j = pl then ((σ 7 q a) - (σ 8 p a)) - (rwd σ p q (3 - a - (rAx σ p q))) else L j)) 13 G) τ w H := by rw [← up3_setF2 _ (by omega)]; exact hU
      refine lv_aload_n hx hb dX1_noteBlock_118 rfl (lv_at hl 2 rfl) ?_
      refine bg_X1_blockGreatest hx hb hts hinX1 hown hK hU (hts (.fieldLink RX1 36 "ClashBoxes" "blockGreatest" "[I") (by decide +kernel)) dX1_noteBlock_119 ?_
      refine lv_iload hx hb dX1_noteBlock_122 (lv_at hl 6 rfl) ?_
      refine lv_aload_n hx hb dX1_noteBlock_124 rfl (lv_at hl 4 rfl) ?_
      refine bg_X0_greatest hx hb hts hinX0 hown hK hU hpq (hts (.fieldLink RX1 87 "ClashBoxes$Part" "greatest" "[I") (by decide +kernel)) dX1_noteBlock_125 ?_
      refine lv_iload_n hx hb dX1_noteBlock_128 rfl (lv_at hl 5 rfl) ?_
      refine bl_22 hx hb hK hU hpq (by omega) (by omega) dX1_noteBlock_129 ?_
      refine W.eq (g2 := F0 mI 130 ls [.int (iI (σ 8 q a)), .int (iI pl), .ref (ad 6 0)]) rfl ?_
      have b13 := bB7 hB hpq (a := a) (by omega) (by omega)
      refine lv_aload_n hx hb dX1_noteBlock_130 rfl (lv_at hl 3 rfl) ?_
      refine bg_X0_least hx hb hts hinX0 hown hK hU hpp (hts (.fieldLink RX1 84 "ClashBoxes$Part" "least" "[I") (by decide +kernel)) dX1_noteBlock_131 ?_
      refine lv_iload_n hx hb dX1_noteBlock_134 rfl (lv_at hl 5 rfl) ?_
      refine bl_21 hx hb hK hU hpp (by omega) (by omega) dX1_noteBlock_135 ?_
      refine W.eq (g2 := F0 mI 136 ls [.int (iI (σ 7 p a)), .int (iI (σ 8 q a)), .int (iI pl), .ref (ad 6 0)]) rfl ?_
      have b14 := bB7 hB hpp (a := a) (by omega) (by omega)
      refine li_isub hx hb dX1_noteBlock_136 ?_
      refine lv_iload hx hb dX1_noteBlock_137 (lv_at hl 0 rfl) ?_
      refine li_iadd hx hb dX1_noteBlock_139 ?_
      refine bs_6 hx hb hK hU hlc (by omega) (by omega) dX1_noteBlock_140 (fun H locs hU hF1 hlc => ?_)
      have hF := hF.tr hF1
      have hU : bx_U g ad (setF (setF σ 12 (fun j => if j = pl then ((σ 7 q a) - (σ 8 p a)) - (rwd σ p q (3 - a - (rAx σ p q))) else L j)) 13 (fun j => if j = pl then ((σ 8 q a) - (σ 7 p a)) + (rwd σ p q (3 - a - (rAx σ p q))) else G j)) τ w H := by rw [← up3_setF]; exact hU
      refine lv_iload hx hb dX1_noteBlock_141 (lv_at hl 0 rfl) ?_
      refine li_iconst hx hb dX1_noteBlock_143 ?_
      refine li_icmp_eq (tgt := 162) hx hb (by unfold iR; omega) (by unfold iR; omega) dX1_noteBlock_144 (by decide) (fun h15 => ?_) (fun h15 => ?_)
      · refine li_iconst hx hb dX1_noteBlock_162 ?_
        refine bw_z hx hb hr hlocks (by rw [show bLo σ p q a = _ from if_neg (fun q9 => q9.elim h2 h9), show bHi σ p q a = _ from if_neg (fun q9 => q9.elim h2 h9)]; exact hU) hF hlc (by omega) ?_ dX1_noteBlock_163
        rw [zB_f (show ¬ bOk σ p q a from fun q9 => Or.elim q9 (fun z => h2 z.1) (fun z => z.elim (fun z => h9 z.2.1) (fun z => z.2.2.1 h15)))]
      · refine lv_aload_n hx hb dX1_noteBlock_147 rfl (lv_at hl 3 rfl) ?_
        refine li_iconst hx hb dX1_noteBlock_148 ?_
        refine lv_aload_n hx hb dX1_noteBlock_149 rfl (lv_at hl 4 rfl) ?_
        refine lv_iload hx hb dX1_noteBlock_150 (lv_at hl 1 rfl) ?_
        refine bc_SB (As := [.ref (ad 20 p), .int (iI 0), .ref (ad 20 q), .int (iI (rAx σ p q))]) (rest := []) ⟨hx, hb, hml, hown, hts⟩ (c_X1_overlap_B l g ad σ τ w (fun j => if j = pl then ((σ 7 q a) - (σ 8 p a)) - (rwd σ p q (3 - a - (rAx σ p q))) else L j) (fun j => if j = pl then ((σ 8 q a) - (σ 7 p a)) + (rwd σ p q (3 - a - (rAx σ p q))) else G j) p 0 q (rAx σ p q) hpp hpq hB (by omega) (by omega)) (va_cwS 4 hts gX1_noteBlock_X1_overlap rfl rfl rfl (by decide +kernel) ⟨Nat.le_of_ble_eq_true rfl, Nat.le_of_ble_eq_true rfl⟩) hK hU  rfl hl.1 rfl (Nat.le_of_ble_eq_true rfl) dX1_noteBlock_152 ⟨Nat.le_of_ble_eq_true rfl, Nat.le_of_ble_eq_true rfl⟩ (fun h16 => ?_) (fun h16 => ?_)
        · refine li_if_eq (tgt := 162) hx hb (by unfold iR; omega) dX1_noteBlock_155 (by decide) (fun h => absurd h (by decide)) (fun _ => ?_)
          refine li_iconst hx hb dX1_noteBlock_158 ?_
          refine lv_goto (tgt := 163) hx hb dX1_noteBlock_159 (by decide) ?_
          refine bw_z hx hb hr hlocks (by rw [show bLo σ p q a = _ from if_neg (fun q9 => q9.elim h2 h9), show bHi σ p q a = _ from if_neg (fun q9 => q9.elim h2 h9)]; exact hU) hF hlc (by omega) ?_ dX1_noteBlock_163
          rw [zB_t (show bOk σ p q a from Or.inr (Or.inr ⟨h2, h9, h15, h16⟩))]
        · refine li_if_eq (tgt := 162) hx hb (by unfold iR; omega) dX1_noteBlock_155 (by decide) (fun _ => ?_) (fun h => absurd (by decide) h)
          refine li_iconst hx hb dX1_noteBlock_162 ?_
          refine bw_z hx hb hr hlocks (by rw [show bLo σ p q a = _ from if_neg (fun q9 => q9.elim h2 h9), show bHi σ p q a = _ from if_neg (fun q9 => q9.elim h2 h9)]; exact hU) hF hlc (by omega) ?_ dX1_noteBlock_163
          rw [zB_f (show ¬ bOk σ p q a from fun q9 => Or.elim q9 (fun z => h2 z.1) (fun z => z.elim (fun z => h9 z.2.1) (fun z => h16 z.2.2.2)))]
    · refine lv_aload_n hx hb dX1_noteBlock_19 rfl (lv_at hl 1 rfl) ?_
      refine bg_X1_blockLeast hx hb hts hinX1 hown hK hU (hts (.fieldLink RX1 33 "ClashBoxes" "blockLeast" "[I") (by decide +kernel)) dX1_noteBlock_20 ?_
      refine lv_iload hx hb dX1_noteBlock_23 (lv_at hl 5 rfl) ?_
      refine lv_aload_n hx hb dX1_noteBlock_25 rfl (lv_at hl 3 rfl) ?_
      refine lv_iload_n hx hb dX1_noteBlock_26 rfl (lv_at hl 4 rfl) ?_
      refine bc_V (As := [.int (iI a)]) (rest := [.int (iI pl), .ref (ad 5 0)]) (kd := 20) (k := q) (ci := 0) ⟨hx, hb, hml, hown, hts⟩ (c_X0_hullLeast_B l g ad σ τ w L G q a hpq hB (by omega)) (cwV 1 hts gX1_noteBlock_X0_hullLeast rfl rfl rfl (by decide +kernel) ⟨Nat.le_of_ble_eq_true rfl, Nat.le_of_ble_eq_true rfl⟩) hK hU (bx_Lp (by omega) (by omega) hpq) rfl rfl rfl hl.1 rfl (Nat.le_of_ble_eq_true rfl) dX1_noteBlock_27 ⟨Nat.le_of_ble_eq_true rfl, Nat.le_of_ble_eq_true rfl⟩ ?_
      have h17 := hLo_bd hB hpq (a := a) (by omega) (by omega)
      refine lv_aload_n hx hb dX1_noteBlock_30 rfl (lv_at hl 2 rfl) ?_
      refine lv_iload_n hx hb dX1_noteBlock_31 rfl (lv_at hl 4 rfl) ?_
      refine bc_V (As := [.int (iI a)]) (rest := [.int (iI (hLo σ q a)), .int (iI pl), .ref (ad 5 0)]) (kd := 20) (k := p) (ci := 0) ⟨hx, hb, hml, hown, hts⟩ (c_X0_hullGreatest_B l g ad σ τ w L G p a hpp hB (by omega)) (cwV 1 hts gX1_noteBlock_X0_hullGreatest rfl rfl rfl (by decide +kernel) ⟨Nat.le_of_ble_eq_true rfl, Nat.le_of_ble_eq_true rfl⟩) hK hU (bx_Lp (by omega) (by omega) hpp) rfl rfl rfl hl.1 rfl (Nat.le_of_ble_eq_true rfl) dX1_noteBlock_32 ⟨Nat.le_of_ble_eq_true rfl, Nat.le_of_ble_eq_true rfl⟩ ?_
      have h18 := hHi_bd hB hpp (a := a) (by omega) (by omega)
      refine li_isub hx hb dX1_noteBlock_35 ?_
      refine li_iconst hx hb dX1_noteBlock_36 ?_
      refine li_iadd hx hb dX1_noteBlock_37 ?_
      refine bs_5 hx hb hK hU hlc (by omega) (by omega) dX1_noteBlock_38 (fun H locs hU hF1 hlc => ?_)
      have hF := hF.tr hF1
      have hU : bx_U g ad (setF (setF σ 12 (fun j => if j = pl then ((hLo σ q a) - (hHi σ p a)) + 1 else L j)) 13 G) τ w H := by rw [← up3_setF2 _ (by omega)]; exact hU
      refine lv_aload_n hx hb dX1_noteBlock_39 rfl (lv_at hl 1 rfl) ?_
      refine bg_X1_blockGreatest hx hb hts hinX1 hown hK hU (hts (.fieldLink RX1 36 "ClashBoxes" "blockGreatest" "[I") (by decide +kernel)) dX1_noteBlock_40 ?_
      refine lv_iload hx hb dX1_noteBlock_43 (lv_at hl 5 rfl) ?_
      refine lv_aload_n hx hb dX1_noteBlock_45 rfl (lv_at hl 3 rfl) ?_
      refine lv_iload_n hx hb dX1_noteBlock_46 rfl (lv_at hl 4 rfl) ?_
      refine bc_V (As := [.int (iI a)]) (rest := [.int (iI pl), .ref (ad 6 0)]) (kd := 20) (k := q) (ci := 0) ⟨hx, hb, hml, hown, hts⟩ (c_X0_hullGreatest_B l g ad σ τ w (fun j => if j = pl then ((hLo σ q a) - (hHi σ p a)) + 1 else L j) G q a hpq hB (by omega)) (cwV 1 hts gX1_noteBlock_X0_hullGreatest rfl rfl rfl (by decide +kernel) ⟨Nat.le_of_ble_eq_true rfl, Nat.le_of_ble_eq_true rfl⟩) hK hU (bx_Lp (by omega) (by omega) hpq) rfl rfl rfl hl.1 rfl (Nat.le_of_ble_eq_true rfl) dX1_noteBlock_47 ⟨Nat.le_of_ble_eq_true rfl, Nat.le_of_ble_eq_true rfl⟩ ?_
      have h19 := hHi_bd hB hpq (a := a) (by omega) (by omega)
      refine lv_aload_n hx hb dX1_noteBlock_50 rfl (lv_at hl 2 rfl) ?_
      refine lv_iload_n hx hb dX1_noteBlock_51 rfl (lv_at hl 4 rfl) ?_
      refine bc_V (As := [.int (iI a)]) (rest := [.int (iI (hHi σ q a)), .int (iI pl), .ref (ad 6 0)]) (kd := 20) (k := p) (ci := 0) ⟨hx, hb, hml, hown, hts⟩ (c_X0_hullLeast_B l g ad σ τ w (fun j => if j = pl then ((hLo σ q a) - (hHi σ p a)) + 1 else L j) G p a hpp hB (by omega)) (cwV 1 hts gX1_noteBlock_X0_hullLeast rfl rfl rfl (by decide +kernel) ⟨Nat.le_of_ble_eq_true rfl, Nat.le_of_ble_eq_true rfl⟩) hK hU (bx_Lp (by omega) (by omega) hpp) rfl rfl rfl hl.1 rfl (Nat.le_of_ble_eq_true rfl) dX1_noteBlock_52 ⟨Nat.le_of_ble_eq_true rfl, Nat.le_of_ble_eq_true rfl⟩ ?_
      have h20 := hLo_bd hB hpp (a := a) (by omega) (by omega)
      refine li_isub hx hb dX1_noteBlock_55 ?_
      refine li_iconst hx hb dX1_noteBlock_56 ?_
      refine li_isub hx hb dX1_noteBlock_57 ?_
      refine bs_6 hx hb hK hU hlc (by omega) (by omega) dX1_noteBlock_58 (fun H locs hU hF1 hlc => ?_)
      have hF := hF.tr hF1
      have hU : bx_U g ad (setF (setF σ 12 (fun j => if j = pl then ((hLo σ q a) - (hHi σ p a)) + 1 else L j)) 13 (fun j => if j = pl then ((hHi σ q a) - (hLo σ p a)) - 1 else G j)) τ w H := by rw [← up3_setF]; exact hU
      refine lv_iload hx hb dX1_noteBlock_59 (lv_at hl 0 rfl) ?_
      refine li_iconst hx hb dX1_noteBlock_61 ?_
      refine li_icmp_ne (tgt := 74) hx hb (by unfold iR; omega) (by unfold iR; omega) dX1_noteBlock_62 (by decide) (fun h21 => ?_) (fun h21 => absurd h21 (by omega))
      refine lv_aload_n hx hb dX1_noteBlock_74 rfl (lv_at hl 2 rfl) ?_
      refine li_iconst hx hb dX1_noteBlock_75 ?_
      refine lv_aload_n hx hb dX1_noteBlock_76 rfl (lv_at hl 3 rfl) ?_
      refine lv_iload_n hx hb dX1_noteBlock_77 rfl (lv_at hl 4 rfl) ?_
      refine bc_SB (As := [.ref (ad 20 p), .int (iI 0), .ref (ad 20 q), .int (iI a)]) (rest := []) ⟨hx, hb, hml, hown, hts⟩ (c_X1_isNear_B l g ad σ τ w (fun j => if j = pl then ((hLo σ q a) - (hHi σ p a)) + 1 else L j) (fun j => if j = pl then ((hHi σ q a) - (hLo σ p a)) - 1 else G j) p 0 q a hpp hpq hB (by omega) (by omega)) (va_cwS 4 hts gX1_noteBlock_X1_isNear rfl rfl rfl (by decide +kernel) ⟨Nat.le_of_ble_eq_true rfl, Nat.le_of_ble_eq_true rfl⟩) hK hU  rfl hl.1 rfl (Nat.le_of_ble_eq_true rfl) dX1_noteBlock_78 ⟨Nat.le_of_ble_eq_true rfl, Nat.le_of_ble_eq_true rfl⟩ (fun h22 => ?_) (fun h22 => ?_)
      · refine bw_z hx hb hr hlocks (by rw [show bLo σ p q a = _ from if_pos (Or.inr h9), show bHi σ p q a = _ from if_pos (Or.inr h9)]; exact hU) hF hlc (by omega) ?_ dX1_noteBlock_81
        rw [zB_t (show bOk σ p q a from Or.inr (Or.inl ⟨h2, h9, h22⟩))]
      · refine bw_z hx hb hr hlocks (by rw [show bLo σ p q a = _ from if_pos (Or.inr h9), show bHi σ p q a = _ from if_pos (Or.inr h9)]; exact hU) hF hlc (by omega) ?_ dX1_noteBlock_81
        rw [zB_f (show ¬ bOk σ p q a from fun q9 => Or.elim q9 (fun z => h2 z.1) (fun z => z.elim (fun z => h22 z.2.2) (fun z => z.2.1 h9)))]

set_option maxHeartbeats 4000000 in
set_option maxRecDepth 100000 in
theorem c_X1_findBlocks (l : Launch) (g : bxG) (ad : bxA) (σ τ : bxS) (w : bxW) (L : Int → Int) (G : Int → Int) (p n a : Int) (hpp : 0 ≤ p ∧ p < 60 ∧ σ 2 p 0 ≠ 0) (hB : bx_B σ) (hxa : 0 ≤ a ∧ a < 3) (hn : n = p) : Met l yX1_findBlocks wsX1_findBlocks ({ frames := 4, cells := 0, slots := 0, locals := 99 }) (va_Pc [.ref (ad 0 0), .ref (ad 20 p), .int (iI n), .int (iI a)] (fun U => bx_I g ad (setF (setF σ 12 L) 13 G) τ w U)) (bq_W (some (.int (iI (cnt (blkP σ p a) 0 (σ 0 0 0))))) g ad (setF (setF σ 12 (fb σ p a (fun i => bLo σ p i a) L (σ 0 0 0))) 13 (fb σ p a (fun i => bHi σ p i a) G (σ 0 0 0))) τ w) 0 0 (bq_fr g) := by
  refine Met.ofW (cc := cX1_findBlocks) (maxL := 7) (ret := (some .int)) (by decide) rfl ?_
  intro Pg Ev s mI args below meth cd s₁ B hml hv
  obtain ⟨rfl, hU, hK⟩ := hv
  have hx := B.exec
  have hb := B.bytes
  have hr := B.returns
  have hts := atoms_spec (ws := wsX1_findBlocks) B.pre
  have hown : s.vm.findClass RX1 = some mI.cls := findClass_of_methodNamed B.named
  have hlocks := B.notSynchronized
  have hF : bx_F g s.heap s.heap := bx_F.rf
  have hlc : bx_Lc g [] := bx_Lc.nil
  have hl := lv_entry ([.ref (ad 0 0), .ref (ad 20 p), .int (iI n), .int (iI a)]) (n := 7) (Nat.le_of_ble_eq_true rfl)
  rw [lg_entry_eq]
  generalize (lg_sl ([.ref (ad 0 0), .ref (ad 20 p), .int (iI n), .int (iI a)]) ++ List.replicate (7 - (lg_sl ([.ref (ad 0 0), .ref (ad 20 p), .int (iI n), .int (iI a)])).length) Slot.unset).toArray = ls at hl ⊢
  have hl : lv_has ls 7 [(0, .ref (ad 0 0)), (1, .ref (ad 20 p)), (2, .int (iI n)), (3, .int (iI a))] := hl
  have hinX0 : ∀ w ∈ wsX00, w ∈ wsX1_findBlocks := by decide +kernel
  have hinX1 : ∀ w ∈ wsX10, w ∈ wsX1_findBlocks := by decide +kernel
  have hm0 := bB0 hB
  refine li_iconst hx hb dX1_findBlocks_0 ?_
  refine lv_istore (lv' := [(4, .int (iI 0)), (0, .ref (ad 0 0)), (1, .ref (ad 20 p)), (2, .int (iI n)), (3, .int (iI a))]) hx hb dX1_findBlocks_1 hl (by decide) rfl (fun ls hl => ?_)
  refine li_iconst hx hb dX1_findBlocks_3 ?_
  refine lv_istore (lv' := [(5, .int (iI 0)), (4, .int (iI 0)), (0, .ref (ad 0 0)), (1, .ref (ad 20 p)), (2, .int (iI n)), (3, .int (iI a))]) hx hb dX1_findBlocks_4 hl (by decide) rfl (fun ls hl => ?_)
  refine bl_loopW (V := Int × Int) (nL := 7) (S := fun v => setF (setF σ 12 (fb σ p a (fun i => bLo σ p i a) L v.1)) 13 (fb σ p a (fun i => bHi σ p i a) G v.1)) (T := fun v => τ) (I := fun v => [(5, .int (iI v.1)), (4, .int (iI v.2)), (0, .ref (ad 0 0)), (1, .ref (ad 20 p)), (2, .int (iI n)), (3, .int (iI a))]) (Inv := fun v => (0 ≤ v.1 ∧ v.1 ≤ σ 0 0 0) ∧ (v.2 = cnt (blkP σ p a) 0 v.1)) (μ := fun v => 60 - v.1) ?_ (0, 0) _ _ (show (0 ≤ 0 ∧ 0 ≤ σ 0 0 0) ∧ (0 = cnt (blkP σ p a) 0 0) from ⟨by omega, by rw [cnt_0 _ (by omega)]⟩) (by show bx_U g ad (setF (setF σ 12 (fb σ p a (fun i => bLo σ p i a) L 0)) 13 (fb σ p a (fun i => bHi σ p i a) G 0)) τ w _; rw [fb_0, fb_0]; exact hU) hF hlc ls (lv_sub hl [0, 1, 2, 3, 4, 5] rfl)
  rintro ⟨i1, b1⟩ H locs hI hU hF hlc ih1 ls hl
  have hI : (0 ≤ i1 ∧ i1 ≤ σ 0 0 0) ∧ (b1 = cnt (blkP σ p a) 0 i1) := hI
  obtain ⟨ha1, hc1⟩ := hI
  have hl : lv_has ls 7 [(5, .int (iI i1)), (4, .int (iI b1)), (0, .ref (ad 0 0)), (1, .ref (ad 20 p)), (2, .int (iI n)), (3, .int (iI a))] := hl
  have hU : bx_U g ad (setF (setF σ 12 (fb σ p a (fun i => bLo σ p i a) L i1)) 13 (fb σ p a (fun i => bHi σ p i a) G i1)) τ w H := hU
  have hm0 := bB0 hB
  have hcb := cnt_bd (blkP σ p a) 0 i1
  refine lv_iload hx hb dX1_findBlocks_6 (lv_at hl 0 rfl) ?_
  refine lv_aload_n hx hb dX1_findBlocks_8 rfl (lv_at hl 2 rfl) ?_
  refine bg_X1_made hx hb hts hinX1 hown hK hU (hts (.fieldLink RX1 19 "ClashBoxes" "made" "I") (by decide +kernel)) dX1_findBlocks_9 ?_
  refine W.eq (g2 := F0 mI 12 ls [.int (iI (σ 0 0 0)), .int (iI i1)]) rfl ?_
  have b2 := bB0 hB
  refine li_icmp_ge (tgt := 73) hx hb (by unfold iR; omega) (by unfold iR; omega) dX1_findBlocks_12 (by decide) (fun h3 => ?_) (fun h3 => ?_)
  · refine lv_iload hx hb dX1_findBlocks_73 (lv_at hl 1 rfl) ?_
    refine bw_i hx hb hr hlocks (by (have e9 : i1 = σ 0 0 0 := by omega); rw [e9] at hU; exact hU) hF hlc ?_ dX1_findBlocks_75
    rw [hc1, show i1 = σ 0 0 0 by omega]
  · refine lv_aload_n hx hb dX1_findBlocks_15 rfl (lv_at hl 2 rfl) ?_
    refine bg_X1_row hx hb hts hinX1 hown hK hU (hts (.fieldLink RX1 11 "ClashBoxes" "row" "[LClashBoxes$Part;") (by decide +kernel)) dX1_findBlocks_16 ?_
    refine lv_iload hx hb dX1_findBlocks_19 (lv_at hl 0 rfl) ?_
    refine bx_row hx hb hK hU (by omega) (by omega) dX1_findBlocks_21 (fun h4 => ?_) (fun h4 => ?_)
    · refine lv_astoreN (lv' := [(6, .null), (5, .int (iI i1)), (4, .int (iI b1)), (0, .ref (ad 0 0)), (1, .ref (ad 20 p)), (2, .int (iI n)), (3, .int (iI a))]) hx hb dX1_findBlocks_22 hl (by decide) rfl (fun ls hl => ?_)
      refine lv_aloadN hx hb dX1_findBlocks_24 (lv_at hl 0 rfl) ?_
      refine lv_ifnullN (tgt := 67) hx hb dX1_findBlocks_26 (by decide) ?_
      refine li_iinc (k0 := 1) (lv' := [(5, .int (iI (i1 + 1))), (6, .null), (4, .int (iI b1)), (0, .ref (ad 0 0)), (1, .ref (ad 20 p)), (2, .int (iI n)), (3, .int (iI a))]) hx hb dX1_findBlocks_67 hl rfl (by decide) rfl (fun ls hl => ?_)
      refine lv_goto (tgt := 6) hx hb dX1_findBlocks_70 (by decide) ?_
      exact ih1 (i1 + 1, b1) _ _ (show (0 ≤ (i1 + 1) ∧ (i1 + 1) ≤ σ 0 0 0) ∧ (b1 = cnt (blkP σ p a) 0 (i1 + 1)) from ⟨by omega, by rw [cnt_s _ (by omega), zB_f (fun q : blkP σ p a i1 => (fun q => q.1 h4) q.1)]; omega⟩) (by show bx_U g ad (setF (setF σ 12 (fb σ p a (fun i => bLo σ p i a) L (i1 + 1))) 13 (fb σ p a (fun i => bHi σ p i a) G (i1 + 1))) τ w _; rw [fb_f (σ := σ) (p := p) a _ _ (by omega) (fun q => q.1 h4), fb_f (σ := σ) (p := p) a _ _ (by omega) (fun q => q.1 h4)]; exact hU) hF hlc (show 0 ≤ 60 - (i1 + 1) by omega) (show 60 - (i1 + 1) < 60 - i1 by omega) ls (lv_sub hl [0, 2, 3, 4, 5, 6] rfl)
    · have hp5 : 0 ≤ i1 ∧ i1 < 60 ∧ (setF (setF σ 12 (fb σ p a (fun i => bLo σ p i a) L i1)) 13 (fb σ p a (fun i => bHi σ p i a) G i1)) 2 i1 0 ≠ 0 := ⟨by omega, by omega, h4⟩
      refine lv_astore (lv' := [(6, .ref (ad 20 i1)), (5, .int (iI i1)), (4, .int (iI b1)), (0, .ref (ad 0 0)), (1, .ref (ad 20 p)), (2, .int (iI n)), (3, .int (iI a))]) hx hb dX1_findBlocks_22 hl (by decide) rfl (fun ls hl => ?_)
      refine lv_aload hx hb dX1_findBlocks_24 (lv_at hl 0 rfl) ?_
      refine lv_ifnull hx hb dX1_findBlocks_26 ?_
      refine lv_iload hx hb dX1_findBlocks_29 (lv_at hl 1 rfl) ?_
      refine lv_iload_n hx hb dX1_findBlocks_31 rfl (lv_at hl 5 rfl) ?_
      refine li_icmp_eq (tgt := 67) hx hb (by unfold iR; omega) (by unfold iR; omega) dX1_findBlocks_32 (by decide) (fun h6 => ?_) (fun h6 => ?_)
      · refine li_iinc (k0 := 1) (lv' := [(5, .int (iI (i1 + 1))), (6, .ref (ad 20 i1)), (4, .int (iI b1)), (0, .ref (ad 0 0)), (1, .ref (ad 20 p)), (2, .int (iI n)), (3, .int (iI a))]) hx hb dX1_findBlocks_67 hl rfl (by decide) rfl (fun ls hl => ?_)
        refine lv_goto (tgt := 6) hx hb dX1_findBlocks_70 (by decide) ?_
        exact ih1 (i1 + 1, b1) _ _ (show (0 ≤ (i1 + 1) ∧ (i1 + 1) ≤ σ 0 0 0) ∧ (b1 = cnt (blkP σ p a) 0 (i1 + 1)) from ⟨by omega, by rw [cnt_s _ (by omega), zB_f (fun q : blkP σ p a i1 => (fun q => q.2.1 (show i1 = p by omega)) q.1)]; omega⟩) (by show bx_U g ad (setF (setF σ 12 (fb σ p a (fun i => bLo σ p i a) L (i1 + 1))) 13 (fb σ p a (fun i => bHi σ p i a) G (i1 + 1))) τ w _; rw [fb_f (σ := σ) (p := p) a _ _ (by omega) (fun q => q.2.1 (show i1 = p by omega)), fb_f (σ := σ) (p := p) a _ _ (by omega) (fun q => q.2.1 (show i1 = p by omega))]; exact hU) hF hlc (show 0 ≤ 60 - (i1 + 1) by omega) (show 60 - (i1 + 1) < 60 - i1 by omega) ls (lv_sub hl [0, 2, 3, 4, 5, 6] rfl)
      · refine lv_aload_n hx hb dX1_findBlocks_35 rfl (lv_at hl 3 rfl) ?_
        refine lv_aload_n hx hb dX1_findBlocks_36 rfl (lv_at hl 4 rfl) ?_
        refine bg_X0_kind hx hb hts hinX0 hown hK hU hpp (hts (.fieldLink RX1 152 "ClashBoxes$Part" "kind" "I") (by decide +kernel)) dX1_findBlocks_37 ?_
        refine W.eq (g2 := F0 mI 40 ls [.int (iI (σ 3 p 0)), .ref (ad 0 0)]) rfl ?_
        have b7 := bB3 hB hpp
        refine lv_aload hx hb dX1_findBlocks_40 (lv_at hl 0 rfl) ?_
        refine bg_X0_kind hx hb hts hinX0 hown hK hU hp5 (hts (.fieldLink RX1 152 "ClashBoxes$Part" "kind" "I") (by decide +kernel)) dX1_findBlocks_42 ?_
        refine W.eq (g2 := F0 mI 45 ls [.int (iI (σ 3 i1 0)), .int (iI (σ 3 p 0)), .ref (ad 0 0)]) rfl ?_
        have b8 := bB3 hB hp5
        refine bc_VB (As := [.int (iI (σ 3 p 0)), .int (iI (σ 3 i1 0))]) (rest := []) (kd := 0) (k := 0) (ci := 1) ⟨hx, hb, hml, hown, hts⟩ (c_X1_areFree_B l g ad σ τ w (fb σ p a (fun i => bLo σ p i a) L i1) (fb σ p a (fun i => bHi σ p i a) G i1) (σ 3 p 0) (σ 3 i1 0) (by omega) (by omega) hB) (cwV 2 hts gX1_findBlocks_X1_areFree rfl rfl rfl (by decide +kernel) ⟨Nat.le_of_ble_eq_true rfl, Nat.le_of_ble_eq_true rfl⟩) hK hU (bx_L0 (by omega)) rfl rfl rfl hl.1 rfl (Nat.le_of_ble_eq_true rfl) dX1_findBlocks_45 ⟨Nat.le_of_ble_eq_true rfl, Nat.le_of_ble_eq_true rfl⟩ (fun h9 => ?_) (fun h9 => ?_)
        · refine li_if_ne (tgt := 67) hx hb (by unfold iR; omega) dX1_findBlocks_48 (by decide) (fun _ => ?_) (fun h => absurd h (by decide))
          refine li_iinc (k0 := 1) (lv' := [(5, .int (iI (i1 + 1))), (6, .ref (ad 20 i1)), (4, .int (iI b1)), (0, .ref (ad 0 0)), (1, .ref (ad 20 p)), (2, .int (iI n)), (3, .int (iI a))]) hx hb dX1_findBlocks_67 hl rfl (by decide) rfl (fun ls hl => ?_)
          refine lv_goto (tgt := 6) hx hb dX1_findBlocks_70 (by decide) ?_
          exact ih1 (i1 + 1, b1) _ _ (show (0 ≤ (i1 + 1) ∧ (i1 + 1) ≤ σ 0 0 0) ∧ (b1 = cnt (blkP σ p a) 0 (i1 + 1)) from ⟨by omega, by rw [cnt_s _ (by omega), zB_f (fun q : blkP σ p a i1 => (fun q => h9 q.2.2) q.1)]; omega⟩) (by show bx_U g ad (setF (setF σ 12 (fb σ p a (fun i => bLo σ p i a) L (i1 + 1))) 13 (fb σ p a (fun i => bHi σ p i a) G (i1 + 1))) τ w _; rw [fb_f (σ := σ) (p := p) a _ _ (by omega) (fun q => h9 q.2.2), fb_f (σ := σ) (p := p) a _ _ (by omega) (fun q => h9 q.2.2)]; exact hU) hF hlc (show 0 ≤ 60 - (i1 + 1) by omega) (show 60 - (i1 + 1) < 60 - i1 by omega) ls (lv_sub hl [0, 2, 3, 4, 5, 6] rfl)
        · refine li_if_ne (tgt := 67) hx hb (by unfold iR; omega) dX1_findBlocks_48 (by decide) (fun h => absurd (by decide) h) (fun _ => ?_)
          refine lv_aload_n hx hb dX1_findBlocks_51 rfl (lv_at hl 3 rfl) ?_
          refine lv_aload_n hx hb dX1_findBlocks_52 rfl (lv_at hl 4 rfl) ?_
          refine lv_aload hx hb dX1_findBlocks_53 (lv_at hl 0 rfl) ?_
          refine lv_iload_n hx hb dX1_findBlocks_55 rfl (lv_at hl 6 rfl) ?_
          refine lv_iload hx hb dX1_findBlocks_56 (lv_at hl 2 rfl) ?_
          refine bc_VW (As := [.ref (ad 20 p), .ref (ad 20 i1), .int (iI a), .int (iI b1)]) (rest := []) (kd := 0) (k := 0) (ci := 1) ⟨hx, hb, hml, hown, hts⟩ (c_X1_noteBlock l g ad σ τ w (fb σ p a (fun i => bLo σ p i a) L i1) (fb σ p a (fun i => bHi σ p i a) G i1) p i1 a b1 hpp hp5 hB (by omega) (by omega)) (cwV 4 hts gX1_findBlocks_X1_noteBlock rfl rfl rfl (by decide +kernel) ⟨Nat.le_of_ble_eq_true rfl, Nat.le_of_ble_eq_true rfl⟩) hK hU hlc (bx_L0 (by omega)) rfl rfl rfl hl.1 rfl (Nat.le_of_ble_eq_true rfl) dX1_findBlocks_58 ⟨Nat.le_of_ble_eq_true rfl, Nat.le_of_ble_eq_true rfl⟩ (fun H locs hU hF1 hlc => ?_)
          have hF := hF.tr hF1
          have h10 := zB_01 (bOk σ p i1 a)
          refine li_if_eq (tgt := 67) hx hb (by unfold iR; omega) dX1_findBlocks_61 (by decide) (fun h11 => ?_) (fun h11 => ?_)
          · refine li_iinc (k0 := 1) (lv' := [(5, .int (iI (i1 + 1))), (6, .ref (ad 20 i1)), (4, .int (iI b1)), (0, .ref (ad 0 0)), (1, .ref (ad 20 p)), (2, .int (iI n)), (3, .int (iI a))]) hx hb dX1_findBlocks_67 hl rfl (by decide) rfl (fun ls hl => ?_)
            refine lv_goto (tgt := 6) hx hb dX1_findBlocks_70 (by decide) ?_
            exact ih1 (i1 + 1, b1) _ _ (show (0 ≤ (i1 + 1) ∧ (i1 + 1) ≤ σ 0 0 0) ∧ (b1 = cnt (blkP σ p a) 0 (i1 + 1)) from ⟨by omega, by rw [cnt_s _ (by omega), zB_f (fun q : blkP σ p a i1 => absurd (zB_t q.2) (by omega))]; omega⟩) (by show bx_U g ad (setF (setF σ 12 (fb σ p a (fun i => bLo σ p i a) L (i1 + 1))) 13 (fb σ p a (fun i => bHi σ p i a) G (i1 + 1))) τ w _; rw [fb_t (σ := σ) (p := p) a _ _ (by omega) ⟨h4, (show i1 ≠ p by omega), by omega⟩, fb_t (σ := σ) (p := p) a _ _ (by omega) ⟨h4, (show i1 ≠ p by omega), by omega⟩, ← hc1]; exact hU) hF hlc (show 0 ≤ 60 - (i1 + 1) by omega) (show 60 - (i1 + 1) < 60 - i1 by omega) ls (lv_sub hl [0, 2, 3, 4, 5, 6] rfl)
          · refine li_iinc (k0 := 2) (lv' := [(4, .int (iI (b1 + 1))), (6, .ref (ad 20 i1)), (5, .int (iI i1)), (0, .ref (ad 0 0)), (1, .ref (ad 20 p)), (2, .int (iI n)), (3, .int (iI a))]) hx hb dX1_findBlocks_64 hl rfl (by decide) rfl (fun ls hl => ?_)
            refine li_iinc (k0 := 2) (lv' := [(5, .int (iI (i1 + 1))), (4, .int (iI (b1 + 1))), (6, .ref (ad 20 i1)), (0, .ref (ad 0 0)), (1, .ref (ad 20 p)), (2, .int (iI n)), (3, .int (iI a))]) hx hb dX1_findBlocks_67 hl rfl (by decide) rfl (fun ls hl => ?_)
            refine lv_goto (tgt := 6) hx hb dX1_findBlocks_70 (by decide) ?_
            exact ih1 (i1 + 1, b1 + 1) _ _ (show (0 ≤ (i1 + 1) ∧ (i1 + 1) ≤ σ 0 0 0) ∧ ((b1 + 1) = cnt (blkP σ p a) 0 (i1 + 1)) from ⟨by omega, by rw [cnt_s _ (by omega), zB_t (show blkP σ p a i1 from ⟨⟨h4, (show i1 ≠ p by omega), by omega⟩, zB_of h11⟩)]; omega⟩) (by show bx_U g ad (setF (setF σ 12 (fb σ p a (fun i => bLo σ p i a) L (i1 + 1))) 13 (fb σ p a (fun i => bHi σ p i a) G (i1 + 1))) τ w _; rw [fb_t (σ := σ) (p := p) a _ _ (by omega) ⟨h4, (show i1 ≠ p by omega), by omega⟩, fb_t (σ := σ) (p := p) a _ _ (by omega) ⟨h4, (show i1 ≠ p by omega), by omega⟩, ← hc1]; exact hU) hF hlc (show 0 ≤ 60 - (i1 + 1) by omega) (show 60 - (i1 + 1) < 60 - i1 by omega) ls (lv_sub hl [0, 1, 3, 4, 5, 6] rfl)
