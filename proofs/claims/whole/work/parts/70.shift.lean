set_option maxHeartbeats 4000000 in
set_option maxRecDepth 100000 in
theorem c_X1_shift_t (l : Launch) (g : bxG) (ad : bxA) (σ τ : bxS) (w : bxW) (p a mo : Int) (hRp : iR p) (hRa : iR a) (hRmo : iR mo) (hB : bx_B σ) (hg : (0 ≤ p ∧ p < 60 ∧ σ 2 p 0 ≠ 0) ∧ (0 ≤ a ∧ a ≤ 2) ∧ 0 ≤ mo ∧ mo ≤ 1000) : Met l yX1_shift wsX1_shift ({ frames := 7, cells := 0, slots := 0, locals := 125 }) (va_Pc [.ref (ad 0 0), .int (iI p), .int (iI a), .int (iI mo)] (fun U => bx_I g ad σ τ w U)) (bq_W (some (.int (iI (shR (fsh (fb σ p a (fun i => bLo σ p i a) (fun t => σ 12 t 0) (σ 0 0 0)) (fb σ p a (fun i => bHi σ p i a) (fun t => σ 13 t 0) (σ 0 0 0)) (cnt (blkP σ p a) 0 (σ 0 0 0)) 1) (fsh (fb σ p a (fun i => bLo σ p i a) (fun t => σ 12 t 0) (σ 0 0 0)) (fb σ p a (fun i => bHi σ p i a) (fun t => σ 13 t 0) (σ 0 0 0)) (cnt (blkP σ p a) 0 (σ 0 0 0)) 0) mo (stS σ p a))))) g ad (setF (setF σ 12 (fb σ p a (fun i => bLo σ p i a) (fun t => σ 12 t 0) (σ 0 0 0))) 13 (fb σ p a (fun i => bHi σ p i a) (fun t => σ 13 t 0) (σ 0 0 0))) τ w) 0 0 (bq_fr g) := by
  refine Met.ofW (cc := cX1_shift) (maxL := 10) (ret := (some .int)) (by decide) rfl ?_
  intro Pg Ev s mI args below meth cd s₁ B hml hv
  obtain ⟨rfl, hU, hK⟩ := hv
  have hx := B.exec
  have hb := B.bytes
  have hr := B.returns
  have hts := atoms_spec (ws := wsX1_shift) B.pre
  have hown : s.vm.findClass RX1 = some mI.cls := findClass_of_methodNamed B.named
  have hlocks := B.notSynchronized
  have hF : bx_F g s.heap s.heap := bx_F.rf
  have hlc : bx_Lc g [] := bx_Lc.nil
  have hl := lv_entry ([.ref (ad 0 0), .int (iI p), .int (iI a), .int (iI mo)]) (n := 10) (Nat.le_of_ble_eq_true rfl)
  rw [lg_entry_eq]
  generalize (lg_sl ([.ref (ad 0 0), .int (iI p), .int (iI a), .int (iI mo)]) ++ List.replicate (10 - (lg_sl ([.ref (ad 0 0), .int (iI p), .int (iI a), .int (iI mo)])).length) Slot.unset).toArray = ls at hl ⊢
  have hl : lv_has ls 10 [(0, .ref (ad 0 0)), (1, .int (iI p)), (2, .int (iI a)), (3, .int (iI mo))] := hl
  have hRp0 : -2147483648 ≤ p ∧ p < 2147483648 := hRp
  have hRa0 : -2147483648 ≤ a ∧ a < 2147483648 := hRa
  have hRmo0 : -2147483648 ≤ mo ∧ mo < 2147483648 := hRmo
  have hm0 := bB0 hB
  refine lv_aload_n hx hb dX1_shift_0 rfl (lv_at hl 0 rfl) ?_
  refine lv_iload_n hx hb dX1_shift_1 rfl (lv_at hl 1 rfl) ?_
  by_cases hp1 : 0 ≤ p ∧ p < 60 ∧ σ 2 p 0 ≠ 0
  · refine bc_V (As := [.int (iI p)]) (rest := []) (kd := 0) (k := 0) (ci := 1) ⟨hx, hb, hml, hown, hts⟩ (c_X1_partAt_t l g ad σ τ w p hp1) (cwV 1 hts gX1_shift_X1_partAt rfl rfl rfl (by decide +kernel) ⟨Nat.le_of_ble_eq_true rfl, Nat.le_of_ble_eq_true rfl⟩) hK hU (bx_L0 (by omega)) rfl rfl rfl hl.1 rfl (Nat.le_of_ble_eq_true rfl) dX1_shift_2 ⟨Nat.le_of_ble_eq_true rfl, Nat.le_of_ble_eq_true rfl⟩ ?_
    refine lv_astore (lv' := [(4, .ref (ad 20 p)), (0, .ref (ad 0 0)), (1, .int (iI p)), (2, .int (iI a)), (3, .int (iI mo))]) hx hb dX1_shift_5 hl (by decide) rfl (fun ls hl => ?_)
    refine lv_iload_n hx hb dX1_shift_7 rfl (lv_at hl 3 rfl) ?_
    refine bc_SB (As := [.int (iI a)]) (rest := []) ⟨hx, hb, hml, hown, hts⟩ (c_X1_isAxis l g ad σ τ w a (by unfold iR; omega)) (va_cwS 1 hts gX1_shift_X1_isAxis rfl rfl rfl (by decide +kernel) ⟨Nat.le_of_ble_eq_true rfl, Nat.le_of_ble_eq_true rfl⟩) hK hU  rfl hl.1 rfl (Nat.le_of_ble_eq_true rfl) dX1_shift_8 ⟨Nat.le_of_ble_eq_true rfl, Nat.le_of_ble_eq_true rfl⟩ (fun h2 => ?_) (fun h2 => ?_)
    · refine li_if_eq (tgt := 29) hx hb (by unfold iR; omega) dX1_shift_11 (by decide) (fun h => absurd h (by decide)) (fun _ => ?_)
      refine lv_iload_n hx hb dX1_shift_14 rfl (lv_at hl 4 rfl) ?_
      refine li_iconst hx hb dX1_shift_15 ?_
      refine li_sipush hx hb dX1_shift_16 (by decide) ?_
      refine bc_SB (As := [.int (iI mo), .int (iI 0), .int (iI 1000)]) (rest := []) ⟨hx, hb, hml, hown, hts⟩ (c_X1_isWithin l g ad σ τ w mo 0 1000 (by unfold iR; omega) (by unfold iR; omega) (by unfold iR; omega)) (va_cwS 3 hts gX1_shift_X1_isWithin rfl rfl rfl (by decide +kernel) ⟨Nat.le_of_ble_eq_true rfl, Nat.le_of_ble_eq_true rfl⟩) hK hU  rfl hl.1 rfl (Nat.le_of_ble_eq_true rfl) dX1_shift_19 ⟨Nat.le_of_ble_eq_true rfl, Nat.le_of_ble_eq_true rfl⟩ (fun h3 => ?_) (fun h3 => ?_)
      · refine li_if_eq (tgt := 29) hx hb (by unfold iR; omega) dX1_shift_22 (by decide) (fun h => absurd h (by decide)) (fun _ => ?_)
        refine li_iconst hx hb dX1_shift_25 ?_
        refine lv_goto (tgt := 30) hx hb dX1_shift_26 (by decide) ?_
        refine bc_SN (As := [.int (iI 1)]) (rest := []) ⟨hx, hb, hml, hown, hts⟩ (c_X1_need_t l g ad σ τ w) (va_cwS 1 hts gX1_shift_X1_need rfl rfl rfl (by decide +kernel) ⟨Nat.le_of_ble_eq_true rfl, Nat.le_of_ble_eq_true rfl⟩) hK hU rfl hl.1 rfl (Nat.le_of_ble_eq_true rfl) dX1_shift_30 ⟨Nat.le_of_ble_eq_true rfl, Nat.le_of_ble_eq_true rfl⟩ ?_
        have hU : bx_U g ad (setF (setF σ 12 (fun t => σ 12 t 0)) 13 (fun t => σ 13 t 0)) τ w s.heap := by rw [setF_self2 σ (by omega)]; exact hU
        refine lv_aload_n hx hb dX1_shift_33 rfl (lv_at hl 1 rfl) ?_
        refine lv_aload hx hb dX1_shift_34 (lv_at hl 0 rfl) ?_
        refine lv_iload_n hx hb dX1_shift_36 rfl (lv_at hl 2 rfl) ?_
        refine lv_iload_n hx hb dX1_shift_37 rfl (lv_at hl 3 rfl) ?_
        refine bc_VW (As := [.ref (ad 20 p), .int (iI p), .int (iI a)]) (rest := []) (kd := 0) (k := 0) (ci := 1) ⟨hx, hb, hml, hown, hts⟩ (c_X1_findBlocks l g ad σ τ w (fun t => σ 12 t 0) (fun t => σ 13 t 0) p p a hp1 hB (by omega) (by omega)) (cwV 3 hts gX1_shift_X1_findBlocks rfl rfl rfl (by decide +kernel) ⟨Nat.le_of_ble_eq_true rfl, Nat.le_of_ble_eq_true rfl⟩) hK hU hlc (bx_L0 (by omega)) rfl rfl rfl hl.1 rfl (Nat.le_of_ble_eq_true rfl) dX1_shift_38 ⟨Nat.le_of_ble_eq_true rfl, Nat.le_of_ble_eq_true rfl⟩ (fun H locs hU hF1 hlc => ?_)
        have hF := hF.tr hF1
        refine lv_istore (lv' := [(5, .int (iI (cnt (blkP σ p a) 0 (σ 0 0 0)))), (4, .ref (ad 20 p)), (0, .ref (ad 0 0)), (1, .int (iI p)), (2, .int (iI a)), (3, .int (iI mo))]) hx hb dX1_shift_41 hl (by decide) rfl (fun ls hl => ?_)
        have hLG := fb_lgB hB (p := p) (a := a) (n := σ 0 0 0) (by omega) (by omega) (by omega) hm0 (fun t => σ 12 t 0) (fun t => σ 13 t 0)
        have hcb := cnt_bd (blkP σ p a) 0 (σ 0 0 0)
        refine lv_aload_n hx hb dX1_shift_43 rfl (lv_at hl 2 rfl) ?_
        refine lv_iload hx hb dX1_shift_44 (lv_at hl 0 rfl) ?_
        refine li_iconst hx hb dX1_shift_46 ?_
        refine bc_V (As := [.int (iI (cnt (blkP σ p a) 0 (σ 0 0 0))), .int (iI 1)]) (rest := []) (kd := 0) (k := 0) (ci := 1) ⟨hx, hb, hml, hown, hts⟩ (c_X1_freeShift l g ad σ τ w (fb σ p a (fun i => bLo σ p i a) (fun t => σ 12 t 0) (σ 0 0 0)) (fb σ p a (fun i => bHi σ p i a) (fun t => σ 13 t 0) (σ 0 0 0)) (cnt (blkP σ p a) 0 (σ 0 0 0)) 1 (by omega) (by omega) hLG) (cwV 2 hts gX1_shift_X1_freeShift rfl rfl rfl (by decide +kernel) ⟨Nat.le_of_ble_eq_true rfl, Nat.le_of_ble_eq_true rfl⟩) hK hU (bx_L0 (by omega)) rfl rfl rfl hl.1 rfl (Nat.le_of_ble_eq_true rfl) dX1_shift_47 ⟨Nat.le_of_ble_eq_true rfl, Nat.le_of_ble_eq_true rfl⟩ ?_
        have h4 := fsh_bd 1 hLG
        refine lv_istore (lv' := [(6, .int (iI (fsh (fb σ p a (fun i => bLo σ p i a) (fun t => σ 12 t 0) (σ 0 0 0)) (fb σ p a (fun i => bHi σ p i a) (fun t => σ 13 t 0) (σ 0 0 0)) (cnt (blkP σ p a) 0 (σ 0 0 0)) 1))), (5, .int (iI (cnt (blkP σ p a) 0 (σ 0 0 0)))), (4, .ref (ad 20 p)), (0, .ref (ad 0 0)), (1, .int (iI p)), (2, .int (iI a)), (3, .int (iI mo))]) hx hb dX1_shift_50 hl (by decide) rfl (fun ls hl => ?_)
        refine lv_aload_n hx hb dX1_shift_52 rfl (lv_at hl 3 rfl) ?_
        refine lv_iload hx hb dX1_shift_53 (lv_at hl 1 rfl) ?_
        refine li_iconst hx hb dX1_shift_55 ?_
        refine bc_V (As := [.int (iI (cnt (blkP σ p a) 0 (σ 0 0 0))), .int (iI 0)]) (rest := []) (kd := 0) (k := 0) (ci := 1) ⟨hx, hb, hml, hown, hts⟩ (c_X1_freeShift l g ad σ τ w (fb σ p a (fun i => bLo σ p i a) (fun t => σ 12 t 0) (σ 0 0 0)) (fb σ p a (fun i => bHi σ p i a) (fun t => σ 13 t 0) (σ 0 0 0)) (cnt (blkP σ p a) 0 (σ 0 0 0)) 0 (by omega) (by omega) hLG) (cwV 2 hts gX1_shift_X1_freeShift rfl rfl rfl (by decide +kernel) ⟨Nat.le_of_ble_eq_true rfl, Nat.le_of_ble_eq_true rfl⟩) hK hU (bx_L0 (by omega)) rfl rfl rfl hl.1 rfl (Nat.le_of_ble_eq_true rfl) dX1_shift_56 ⟨Nat.le_of_ble_eq_true rfl, Nat.le_of_ble_eq_true rfl⟩ ?_
        have h5 := fsh_bd 0 hLG
        refine lv_istore (lv' := [(7, .int (iI (fsh (fb σ p a (fun i => bLo σ p i a) (fun t => σ 12 t 0) (σ 0 0 0)) (fb σ p a (fun i => bHi σ p i a) (fun t => σ 13 t 0) (σ 0 0 0)) (cnt (blkP σ p a) 0 (σ 0 0 0)) 0))), (6, .int (iI (fsh (fb σ p a (fun i => bLo σ p i a) (fun t => σ 12 t 0) (σ 0 0 0)) (fb σ p a (fun i => bHi σ p i a) (fun t => σ 13 t 0) (σ 0 0 0)) (cnt (blkP σ p a) 0 (σ 0 0 0)) 1))), (5, .int (iI (cnt (blkP σ p a) 0 (σ 0 0 0)))), (4, .ref (ad 20 p)), (0, .ref (ad 0 0)), (1, .int (iI p)), (2, .int (iI a)), (3, .int (iI mo))]) hx hb dX1_shift_59 hl (by decide) rfl (fun ls hl => ?_)
        refine lv_iload hx hb dX1_shift_61 (lv_at hl 1 rfl) ?_
        refine lv_iload_n hx hb dX1_shift_63 rfl (lv_at hl 7 rfl) ?_
        refine li_icmp_gt (tgt := 82) hx hb (by unfold iR; omega) (by unfold iR; omega) dX1_shift_64 (by decide) (fun h6 => ?_) (fun h6 => ?_)
        · refine li_iconst hx hb dX1_shift_82 ?_
          refine lv_istore (lv' := [(8, .int (iI 0)), (7, .int (iI (fsh (fb σ p a (fun i => bLo σ p i a) (fun t => σ 12 t 0) (σ 0 0 0)) (fb σ p a (fun i => bHi σ p i a) (fun t => σ 13 t 0) (σ 0 0 0)) (cnt (blkP σ p a) 0 (σ 0 0 0)) 0))), (6, .int (iI (fsh (fb σ p a (fun i => bLo σ p i a) (fun t => σ 12 t 0) (σ 0 0 0)) (fb σ p a (fun i => bHi σ p i a) (fun t => σ 13 t 0) (σ 0 0 0)) (cnt (blkP σ p a) 0 (σ 0 0 0)) 1))), (5, .int (iI (cnt (blkP σ p a) 0 (σ 0 0 0)))), (4, .ref (ad 20 p)), (0, .ref (ad 0 0)), (1, .int (iI p)), (2, .int (iI a)), (3, .int (iI mo))]) hx hb dX1_shift_83 hl (by decide) rfl (fun ls hl => ?_)
          refine lv_iload hx hb dX1_shift_85 (lv_at hl 1 rfl) ?_
          refine li_ineg hx hb dX1_shift_87 ?_
          refine lv_iload_n hx hb dX1_shift_88 rfl (lv_at hl 8 rfl) ?_
          refine li_icmp_gt (tgt := 107) hx hb (by unfold iR; omega) (by unfold iR; omega) dX1_shift_89 (by decide) (fun h7 => ?_) (fun h7 => ?_)
          · refine li_iconst hx hb dX1_shift_107 ?_
            refine lv_istore (lv' := [(9, .int (iI 0)), (8, .int (iI 0)), (7, .int (iI (fsh (fb σ p a (fun i => bLo σ p i a) (fun t => σ 12 t 0) (σ 0 0 0)) (fb σ p a (fun i => bHi σ p i a) (fun t => σ 13 t 0) (σ 0 0 0)) (cnt (blkP σ p a) 0 (σ 0 0 0)) 0))), (6, .int (iI (fsh (fb σ p a (fun i => bLo σ p i a) (fun t => σ 12 t 0) (σ 0 0 0)) (fb σ p a (fun i => bHi σ p i a) (fun t => σ 13 t 0) (σ 0 0 0)) (cnt (blkP σ p a) 0 (σ 0 0 0)) 1))), (5, .int (iI (cnt (blkP σ p a) 0 (σ 0 0 0)))), (4, .ref (ad 20 p)), (0, .ref (ad 0 0)), (1, .int (iI p)), (2, .int (iI a)), (3, .int (iI mo))]) hx hb dX1_shift_108 hl (by decide) rfl (fun ls hl => ?_)
            refine lv_iload hx hb dX1_shift_110 (lv_at hl 1 rfl) ?_
            refine li_if_eq (tgt := 131) hx hb (by unfold iR; omega) dX1_shift_112 (by decide) (fun _ => ?_) (fun h => absurd (by decide) h)
            refine lv_iload hx hb dX1_shift_131 (lv_at hl 0 rfl) ?_
            refine li_if_eq (tgt := 141) hx hb (by unfold iR; omega) dX1_shift_133 (by decide) (fun _ => ?_) (fun h => absurd (by decide) h)
            refine li_sipush hx hb dX1_shift_141 (by decide) ?_
            refine bw_i hx hb hr hlocks (by first | exact hU | simpa using hU) hF hlc ?_ dX1_shift_144
            unfold shR; rw [zI_f (fun q => (fun q => absurd q.1 (by omega)) q.1), zI_f (fun q => absurd q.1 (by omega))]
          · refine lv_aload hx hb dX1_shift_92 (lv_at hl 4 rfl) ?_
            refine lv_iload_n hx hb dX1_shift_94 rfl (lv_at hl 7 rfl) ?_
            refine lv_iload hx hb dX1_shift_95 (lv_at hl 1 rfl) ?_
            refine bc_VB (As := [.int (iI a), .int (iI (fsh (fb σ p a (fun i => bLo σ p i a) (fun t => σ 12 t 0) (σ 0 0 0)) (fb σ p a (fun i => bHi σ p i a) (fun t => σ 13 t 0) (σ 0 0 0)) (cnt (blkP σ p a) 0 (σ 0 0 0)) 0))]) (rest := []) (kd := 20) (k := p) (ci := 0) ⟨hx, hb, hml, hown, hts⟩ (c_X0_staysInSpace_B l g ad σ τ w (fb σ p a (fun i => bLo σ p i a) (fun t => σ 12 t 0) (σ 0 0 0)) (fb σ p a (fun i => bHi σ p i a) (fun t => σ 13 t 0) (σ 0 0 0)) p a (fsh (fb σ p a (fun i => bLo σ p i a) (fun t => σ 12 t 0) (σ 0 0 0)) (fb σ p a (fun i => bHi σ p i a) (fun t => σ 13 t 0) (σ 0 0 0)) (cnt (blkP σ p a) 0 (σ 0 0 0)) 0) hp1 hB (by omega) (by omega)) (cwV 2 hts gX1_shift_X0_staysInSpace rfl rfl rfl (by decide +kernel) ⟨Nat.le_of_ble_eq_true rfl, Nat.le_of_ble_eq_true rfl⟩) hK hU (bx_Lp (by omega) (by omega) hp1) rfl rfl rfl hl.1 rfl (Nat.le_of_ble_eq_true rfl) dX1_shift_97 ⟨Nat.le_of_ble_eq_true rfl, Nat.le_of_ble_eq_true rfl⟩ (fun h8 => ?_) (fun h8 => ?_)
            · refine li_if_eq (tgt := 107) hx hb (by unfold iR; omega) dX1_shift_100 (by decide) (fun h => absurd h (by decide)) (fun _ => ?_)
              refine li_iconst hx hb dX1_shift_103 ?_
              refine lv_goto (tgt := 108) hx hb dX1_shift_104 (by decide) ?_
              refine lv_istore (lv' := [(9, .int (iI 1)), (8, .int (iI 0)), (7, .int (iI (fsh (fb σ p a (fun i => bLo σ p i a) (fun t => σ 12 t 0) (σ 0 0 0)) (fb σ p a (fun i => bHi σ p i a) (fun t => σ 13 t 0) (σ 0 0 0)) (cnt (blkP σ p a) 0 (σ 0 0 0)) 0))), (6, .int (iI (fsh (fb σ p a (fun i => bLo σ p i a) (fun t => σ 12 t 0) (σ 0 0 0)) (fb σ p a (fun i => bHi σ p i a) (fun t => σ 13 t 0) (σ 0 0 0)) (cnt (blkP σ p a) 0 (σ 0 0 0)) 1))), (5, .int (iI (cnt (blkP σ p a) 0 (σ 0 0 0)))), (4, .ref (ad 20 p)), (0, .ref (ad 0 0)), (1, .int (iI p)), (2, .int (iI a)), (3, .int (iI mo))]) hx hb dX1_shift_108 hl (by decide) rfl (fun ls hl => ?_)
              refine lv_iload hx hb dX1_shift_110 (lv_at hl 1 rfl) ?_
              refine li_if_eq (tgt := 131) hx hb (by unfold iR; omega) dX1_shift_112 (by decide) (fun _ => ?_) (fun h => absurd (by decide) h)
              refine lv_iload hx hb dX1_shift_131 (lv_at hl 0 rfl) ?_
              refine li_if_eq (tgt := 141) hx hb (by unfold iR; omega) dX1_shift_133 (by decide) (fun h => absurd h (by decide)) (fun _ => ?_)
              refine lv_iload hx hb dX1_shift_136 (lv_at hl 2 rfl) ?_
              refine lv_goto (tgt := 144) hx hb dX1_shift_138 (by decide) ?_
              refine bw_i hx hb hr hlocks (by first | exact hU | simpa using hU) hF hlc ?_ dX1_shift_144
              unfold shR; rw [zI_f (fun q => (fun q => absurd q.1 (by omega)) q.1), zI_t ⟨by omega, h8⟩]
            · refine li_if_eq (tgt := 107) hx hb (by unfold iR; omega) dX1_shift_100 (by decide) (fun _ => ?_) (fun h => absurd (by decide) h)
              refine li_iconst hx hb dX1_shift_107 ?_
              refine lv_istore (lv' := [(9, .int (iI 0)), (8, .int (iI 0)), (7, .int (iI (fsh (fb σ p a (fun i => bLo σ p i a) (fun t => σ 12 t 0) (σ 0 0 0)) (fb σ p a (fun i => bHi σ p i a) (fun t => σ 13 t 0) (σ 0 0 0)) (cnt (blkP σ p a) 0 (σ 0 0 0)) 0))), (6, .int (iI (fsh (fb σ p a (fun i => bLo σ p i a) (fun t => σ 12 t 0) (σ 0 0 0)) (fb σ p a (fun i => bHi σ p i a) (fun t => σ 13 t 0) (σ 0 0 0)) (cnt (blkP σ p a) 0 (σ 0 0 0)) 1))), (5, .int (iI (cnt (blkP σ p a) 0 (σ 0 0 0)))), (4, .ref (ad 20 p)), (0, .ref (ad 0 0)), (1, .int (iI p)), (2, .int (iI a)), (3, .int (iI mo))]) hx hb dX1_shift_108 hl (by decide) rfl (fun ls hl => ?_)
              refine lv_iload hx hb dX1_shift_110 (lv_at hl 1 rfl) ?_
              refine li_if_eq (tgt := 131) hx hb (by unfold iR; omega) dX1_shift_112 (by decide) (fun _ => ?_) (fun h => absurd (by decide) h)
              refine lv_iload hx hb dX1_shift_131 (lv_at hl 0 rfl) ?_
              refine li_if_eq (tgt := 141) hx hb (by unfold iR; omega) dX1_shift_133 (by decide) (fun _ => ?_) (fun h => absurd (by decide) h)
              refine li_sipush hx hb dX1_shift_141 (by decide) ?_
              refine bw_i hx hb hr hlocks (by first | exact hU | simpa using hU) hF hlc ?_ dX1_shift_144
              unfold shR; rw [zI_f (fun q => (fun q => absurd q.1 (by omega)) q.1), zI_f (fun q => h8 q.2)]
        · refine lv_aload hx hb dX1_shift_67 (lv_at hl 3 rfl) ?_
          refine lv_iload_n hx hb dX1_shift_69 rfl (lv_at hl 6 rfl) ?_
          refine lv_iload hx hb dX1_shift_70 (lv_at hl 1 rfl) ?_
          refine bc_VB (As := [.int (iI a), .int (iI (fsh (fb σ p a (fun i => bLo σ p i a) (fun t => σ 12 t 0) (σ 0 0 0)) (fb σ p a (fun i => bHi σ p i a) (fun t => σ 13 t 0) (σ 0 0 0)) (cnt (blkP σ p a) 0 (σ 0 0 0)) 1))]) (rest := []) (kd := 20) (k := p) (ci := 0) ⟨hx, hb, hml, hown, hts⟩ (c_X0_staysInSpace_B l g ad σ τ w (fb σ p a (fun i => bLo σ p i a) (fun t => σ 12 t 0) (σ 0 0 0)) (fb σ p a (fun i => bHi σ p i a) (fun t => σ 13 t 0) (σ 0 0 0)) p a (fsh (fb σ p a (fun i => bLo σ p i a) (fun t => σ 12 t 0) (σ 0 0 0)) (fb σ p a (fun i => bHi σ p i a) (fun t => σ 13 t 0) (σ 0 0 0)) (cnt (blkP σ p a) 0 (σ 0 0 0)) 1) hp1 hB (by omega) (by omega)) (cwV 2 hts gX1_shift_X0_staysInSpace rfl rfl rfl (by decide +kernel) ⟨Nat.le_of_ble_eq_true rfl, Nat.le_of_ble_eq_true rfl⟩) hK hU (bx_Lp (by omega) (by omega) hp1) rfl rfl rfl hl.1 rfl (Nat.le_of_ble_eq_true rfl) dX1_shift_72 ⟨Nat.le_of_ble_eq_true rfl, Nat.le_of_ble_eq_true rfl⟩ (fun h9 => ?_) (fun h9 => ?_)
          · refine li_if_eq (tgt := 82) hx hb (by unfold iR; omega) dX1_shift_75 (by decide) (fun h => absurd h (by decide)) (fun _ => ?_)
            refine li_iconst hx hb dX1_shift_78 ?_
            refine lv_goto (tgt := 83) hx hb dX1_shift_79 (by decide) ?_
            refine lv_istore (lv' := [(8, .int (iI 1)), (7, .int (iI (fsh (fb σ p a (fun i => bLo σ p i a) (fun t => σ 12 t 0) (σ 0 0 0)) (fb σ p a (fun i => bHi σ p i a) (fun t => σ 13 t 0) (σ 0 0 0)) (cnt (blkP σ p a) 0 (σ 0 0 0)) 0))), (6, .int (iI (fsh (fb σ p a (fun i => bLo σ p i a) (fun t => σ 12 t 0) (σ 0 0 0)) (fb σ p a (fun i => bHi σ p i a) (fun t => σ 13 t 0) (σ 0 0 0)) (cnt (blkP σ p a) 0 (σ 0 0 0)) 1))), (5, .int (iI (cnt (blkP σ p a) 0 (σ 0 0 0)))), (4, .ref (ad 20 p)), (0, .ref (ad 0 0)), (1, .int (iI p)), (2, .int (iI a)), (3, .int (iI mo))]) hx hb dX1_shift_83 hl (by decide) rfl (fun ls hl => ?_)
            refine lv_iload hx hb dX1_shift_85 (lv_at hl 1 rfl) ?_
            refine li_ineg hx hb dX1_shift_87 ?_
            refine lv_iload_n hx hb dX1_shift_88 rfl (lv_at hl 8 rfl) ?_
            refine li_icmp_gt (tgt := 107) hx hb (by unfold iR; omega) (by unfold iR; omega) dX1_shift_89 (by decide) (fun h10 => ?_) (fun h10 => ?_)
            · refine li_iconst hx hb dX1_shift_107 ?_
              refine lv_istore (lv' := [(9, .int (iI 0)), (8, .int (iI 1)), (7, .int (iI (fsh (fb σ p a (fun i => bLo σ p i a) (fun t => σ 12 t 0) (σ 0 0 0)) (fb σ p a (fun i => bHi σ p i a) (fun t => σ 13 t 0) (σ 0 0 0)) (cnt (blkP σ p a) 0 (σ 0 0 0)) 0))), (6, .int (iI (fsh (fb σ p a (fun i => bLo σ p i a) (fun t => σ 12 t 0) (σ 0 0 0)) (fb σ p a (fun i => bHi σ p i a) (fun t => σ 13 t 0) (σ 0 0 0)) (cnt (blkP σ p a) 0 (σ 0 0 0)) 1))), (5, .int (iI (cnt (blkP σ p a) 0 (σ 0 0 0)))), (4, .ref (ad 20 p)), (0, .ref (ad 0 0)), (1, .int (iI p)), (2, .int (iI a)), (3, .int (iI mo))]) hx hb dX1_shift_108 hl (by decide) rfl (fun ls hl => ?_)
              refine lv_iload hx hb dX1_shift_110 (lv_at hl 1 rfl) ?_
              refine li_if_eq (tgt := 131) hx hb (by unfold iR; omega) dX1_shift_112 (by decide) (fun h => absurd h (by decide)) (fun _ => ?_)
              refine lv_iload hx hb dX1_shift_115 (lv_at hl 0 rfl) ?_
              refine li_if_eq (tgt := 128) hx hb (by unfold iR; omega) dX1_shift_117 (by decide) (fun _ => ?_) (fun h => absurd (by decide) h)
              refine lv_iload hx hb dX1_shift_128 (lv_at hl 3 rfl) ?_
              refine bw_i hx hb hr hlocks (by first | exact hU | simpa using hU) hF hlc ?_ dX1_shift_130
              unfold shR; rw [zI_t ⟨⟨by omega, h9⟩, Or.inl (fun q => absurd q.1 (by omega))⟩]
            · refine lv_aload hx hb dX1_shift_92 (lv_at hl 4 rfl) ?_
              refine lv_iload_n hx hb dX1_shift_94 rfl (lv_at hl 7 rfl) ?_
              refine lv_iload hx hb dX1_shift_95 (lv_at hl 1 rfl) ?_
              refine bc_VB (As := [.int (iI a), .int (iI (fsh (fb σ p a (fun i => bLo σ p i a) (fun t => σ 12 t 0) (σ 0 0 0)) (fb σ p a (fun i => bHi σ p i a) (fun t => σ 13 t 0) (σ 0 0 0)) (cnt (blkP σ p a) 0 (σ 0 0 0)) 0))]) (rest := []) (kd := 20) (k := p) (ci := 0) ⟨hx, hb, hml, hown, hts⟩ (c_X0_staysInSpace_B l g ad σ τ w (fb σ p a (fun i => bLo σ p i a) (fun t => σ 12 t 0) (σ 0 0 0)) (fb σ p a (fun i => bHi σ p i a) (fun t => σ 13 t 0) (σ 0 0 0)) p a (fsh (fb σ p a (fun i => bLo σ p i a) (fun t => σ 12 t 0) (σ 0 0 0)) (fb σ p a (fun i => bHi σ p i a) (fun t => σ 13 t 0) (σ 0 0 0)) (cnt (blkP σ p a) 0 (σ 0 0 0)) 0) hp1 hB (by omega) (by omega)) (cwV 2 hts gX1_shift_X0_staysInSpace rfl rfl rfl (by decide +kernel) ⟨Nat.le_of_ble_eq_true rfl, Nat.le_of_ble_eq_true rfl⟩) hK hU (bx_Lp (by omega) (by omega) hp1) rfl rfl rfl hl.1 rfl (Nat.le_of_ble_eq_true rfl) dX1_shift_97 ⟨Nat.le_of_ble_eq_true rfl, Nat.le_of_ble_eq_true rfl⟩ (fun h11 => ?_) (fun h11 => ?_)
              · refine li_if_eq (tgt := 107) hx hb (by unfold iR; omega) dX1_shift_100 (by decide) (fun h => absurd h (by decide)) (fun _ => ?_)
                refine li_iconst hx hb dX1_shift_103 ?_
                refine lv_goto (tgt := 108) hx hb dX1_shift_104 (by decide) ?_
                refine lv_istore (lv' := [(9, .int (iI 1)), (8, .int (iI 1)), (7, .int (iI (fsh (fb σ p a (fun i => bLo σ p i a) (fun t => σ 12 t 0) (σ 0 0 0)) (fb σ p a (fun i => bHi σ p i a) (fun t => σ 13 t 0) (σ 0 0 0)) (cnt (blkP σ p a) 0 (σ 0 0 0)) 0))), (6, .int (iI (fsh (fb σ p a (fun i => bLo σ p i a) (fun t => σ 12 t 0) (σ 0 0 0)) (fb σ p a (fun i => bHi σ p i a) (fun t => σ 13 t 0) (σ 0 0 0)) (cnt (blkP σ p a) 0 (σ 0 0 0)) 1))), (5, .int (iI (cnt (blkP σ p a) 0 (σ 0 0 0)))), (4, .ref (ad 20 p)), (0, .ref (ad 0 0)), (1, .int (iI p)), (2, .int (iI a)), (3, .int (iI mo))]) hx hb dX1_shift_108 hl (by decide) rfl (fun ls hl => ?_)
                refine lv_iload hx hb dX1_shift_110 (lv_at hl 1 rfl) ?_
                refine li_if_eq (tgt := 131) hx hb (by unfold iR; omega) dX1_shift_112 (by decide) (fun h => absurd h (by decide)) (fun _ => ?_)
                refine lv_iload hx hb dX1_shift_115 (lv_at hl 0 rfl) ?_
                refine li_if_eq (tgt := 128) hx hb (by unfold iR; omega) dX1_shift_117 (by decide) (fun h => absurd h (by decide)) (fun _ => ?_)
                refine lv_iload hx hb dX1_shift_120 (lv_at hl 3 rfl) ?_
                refine lv_iload hx hb dX1_shift_122 (lv_at hl 2 rfl) ?_
                refine li_ineg hx hb dX1_shift_124 ?_
                refine li_icmp_gt (tgt := 131) hx hb (by unfold iR; omega) (by unfold iR; omega) dX1_shift_125 (by decide) (fun h12 => ?_) (fun h12 => ?_)
                · refine lv_iload hx hb dX1_shift_131 (lv_at hl 0 rfl) ?_
                  refine li_if_eq (tgt := 141) hx hb (by unfold iR; omega) dX1_shift_133 (by decide) (fun h => absurd h (by decide)) (fun _ => ?_)
                  refine lv_iload hx hb dX1_shift_136 (lv_at hl 2 rfl) ?_
                  refine lv_goto (tgt := 144) hx hb dX1_shift_138 (by decide) ?_
                  refine bw_i hx hb hr hlocks (by first | exact hU | simpa using hU) hF hlc ?_ dX1_shift_144
                  unfold shR; rw [zI_f (fun q => q.2.elim (fun z => z ⟨by omega, h11⟩) (fun z => absurd z (by omega))), zI_t ⟨by omega, h11⟩]
                · refine lv_iload hx hb dX1_shift_128 (lv_at hl 3 rfl) ?_
                  refine bw_i hx hb hr hlocks (by first | exact hU | simpa using hU) hF hlc ?_ dX1_shift_130
                  unfold shR; rw [zI_t ⟨⟨by omega, h9⟩, Or.inr (by omega)⟩]
              · refine li_if_eq (tgt := 107) hx hb (by unfold iR; omega) dX1_shift_100 (by decide) (fun _ => ?_) (fun h => absurd (by decide) h)
                refine li_iconst hx hb dX1_shift_107 ?_
                refine lv_istore (lv' := [(9, .int (iI 0)), (8, .int (iI 1)), (7, .int (iI (fsh (fb σ p a (fun i => bLo σ p i a) (fun t => σ 12 t 0) (σ 0 0 0)) (fb σ p a (fun i => bHi σ p i a) (fun t => σ 13 t 0) (σ 0 0 0)) (cnt (blkP σ p a) 0 (σ 0 0 0)) 0))), (6, .int (iI (fsh (fb σ p a (fun i => bLo σ p i a) (fun t => σ 12 t 0) (σ 0 0 0)) (fb σ p a (fun i => bHi σ p i a) (fun t => σ 13 t 0) (σ 0 0 0)) (cnt (blkP σ p a) 0 (σ 0 0 0)) 1))), (5, .int (iI (cnt (blkP σ p a) 0 (σ 0 0 0)))), (4, .ref (ad 20 p)), (0, .ref (ad 0 0)), (1, .int (iI p)), (2, .int (iI a)), (3, .int (iI mo))]) hx hb dX1_shift_108 hl (by decide) rfl (fun ls hl => ?_)
                refine lv_iload hx hb dX1_shift_110 (lv_at hl 1 rfl) ?_
                refine li_if_eq (tgt := 131) hx hb (by unfold iR; omega) dX1_shift_112 (by decide) (fun h => absurd h (by decide)) (fun _ => ?_)
                refine lv_iload hx hb dX1_shift_115 (lv_at hl 0 rfl) ?_
                refine li_if_eq (tgt := 128) hx hb (by unfold iR; omega) dX1_shift_117 (by decide) (fun _ => ?_) (fun h => absurd (by decide) h)
                refine lv_iload hx hb dX1_shift_128 (lv_at hl 3 rfl) ?_
                refine bw_i hx hb hr hlocks (by first | exact hU | simpa using hU) hF hlc ?_ dX1_shift_130
                unfold shR; rw [zI_t ⟨⟨by omega, h9⟩, Or.inl (fun q => h11 q.2)⟩]
          · refine li_if_eq (tgt := 82) hx hb (by unfold iR; omega) dX1_shift_75 (by decide) (fun _ => ?_) (fun h => absurd (by decide) h)
            refine li_iconst hx hb dX1_shift_82 ?_
            refine lv_istore (lv' := [(8, .int (iI 0)), (7, .int (iI (fsh (fb σ p a (fun i => bLo σ p i a) (fun t => σ 12 t 0) (σ 0 0 0)) (fb σ p a (fun i => bHi σ p i a) (fun t => σ 13 t 0) (σ 0 0 0)) (cnt (blkP σ p a) 0 (σ 0 0 0)) 0))), (6, .int (iI (fsh (fb σ p a (fun i => bLo σ p i a) (fun t => σ 12 t 0) (σ 0 0 0)) (fb σ p a (fun i => bHi σ p i a) (fun t => σ 13 t 0) (σ 0 0 0)) (cnt (blkP σ p a) 0 (σ 0 0 0)) 1))), (5, .int (iI (cnt (blkP σ p a) 0 (σ 0 0 0)))), (4, .ref (ad 20 p)), (0, .ref (ad 0 0)), (1, .int (iI p)), (2, .int (iI a)), (3, .int (iI mo))]) hx hb dX1_shift_83 hl (by decide) rfl (fun ls hl => ?_)
            refine lv_iload hx hb dX1_shift_85 (lv_at hl 1 rfl) ?_
            refine li_ineg hx hb dX1_shift_87 ?_
            refine lv_iload_n hx hb dX1_shift_88 rfl (lv_at hl 8 rfl) ?_
            refine li_icmp_gt (tgt := 107) hx hb (by unfold iR; omega) (by unfold iR; omega) dX1_shift_89 (by decide) (fun h13 => ?_) (fun h13 => ?_)
            · refine li_iconst hx hb dX1_shift_107 ?_
              refine lv_istore (lv' := [(9, .int (iI 0)), (8, .int (iI 0)), (7, .int (iI (fsh (fb σ p a (fun i => bLo σ p i a) (fun t => σ 12 t 0) (σ 0 0 0)) (fb σ p a (fun i => bHi σ p i a) (fun t => σ 13 t 0) (σ 0 0 0)) (cnt (blkP σ p a) 0 (σ 0 0 0)) 0))), (6, .int (iI (fsh (fb σ p a (fun i => bLo σ p i a) (fun t => σ 12 t 0) (σ 0 0 0)) (fb σ p a (fun i => bHi σ p i a) (fun t => σ 13 t 0) (σ 0 0 0)) (cnt (blkP σ p a) 0 (σ 0 0 0)) 1))), (5, .int (iI (cnt (blkP σ p a) 0 (σ 0 0 0)))), (4, .ref (ad 20 p)), (0, .ref (ad 0 0)), (1, .int (iI p)), (2, .int (iI a)), (3, .int (iI mo))]) hx hb dX1_shift_108 hl (by decide) rfl (fun ls hl => ?_)
              refine lv_iload hx hb dX1_shift_110 (lv_at hl 1 rfl) ?_
              refine li_if_eq (tgt := 131) hx hb (by unfold iR; omega) dX1_shift_112 (by decide) (fun _ => ?_) (fun h => absurd (by decide) h)
              refine lv_iload hx hb dX1_shift_131 (lv_at hl 0 rfl) ?_
              refine li_if_eq (tgt := 141) hx hb (by unfold iR; omega) dX1_shift_133 (by decide) (fun _ => ?_) (fun h => absurd (by decide) h)
              refine li_sipush hx hb dX1_shift_141 (by decide) ?_
              refine bw_i hx hb hr hlocks (by first | exact hU | simpa using hU) hF hlc ?_ dX1_shift_144
              unfold shR; rw [zI_f (fun q => (fun q => h9 q.2) q.1), zI_f (fun q => absurd q.1 (by omega))]
            · refine lv_aload hx hb dX1_shift_92 (lv_at hl 4 rfl) ?_
              refine lv_iload_n hx hb dX1_shift_94 rfl (lv_at hl 7 rfl) ?_
              refine lv_iload hx hb dX1_shift_95 (lv_at hl 1 rfl) ?_
              refine bc_VB (As := [.int (iI a), .int (iI (fsh (fb σ p a (fun i => bLo σ p i a) (fun t => σ 12 t 0) (σ 0 0 0)) (fb σ p a (fun i => bHi σ p i a) (fun t => σ 13 t 0) (σ 0 0 0)) (cnt (blkP σ p a) 0 (σ 0 0 0)) 0))]) (rest := []) (kd := 20) (k := p) (ci := 0) ⟨hx, hb, hml, hown, hts⟩ (c_X0_staysInSpace_B l g ad σ τ w (fb σ p a (fun i => bLo σ p i a) (fun t => σ 12 t 0) (σ 0 0 0)) (fb σ p a (fun i => bHi σ p i a) (fun t => σ 13 t 0) (σ 0 0 0)) p a (fsh (fb σ p a (fun i => bLo σ p i a) (fun t => σ 12 t 0) (σ 0 0 0)) (fb σ p a (fun i => bHi σ p i a) (fun t => σ 13 t 0) (σ 0 0 0)) (cnt (blkP σ p a) 0 (σ 0 0 0)) 0) hp1 hB (by omega) (by omega)) (cwV 2 hts gX1_shift_X0_staysInSpace rfl rfl rfl (by decide +kernel) ⟨Nat.le_of_ble_eq_true rfl, Nat.le_of_ble_eq_true rfl⟩) hK hU (bx_Lp (by omega) (by omega) hp1) rfl rfl rfl hl.1 rfl (Nat.le_of_ble_eq_true rfl) dX1_shift_97 ⟨Nat.le_of_ble_eq_true rfl, Nat.le_of_ble_eq_true rfl⟩ (fun h14 => ?_) (fun h14 => ?_)
              · refine li_if_eq (tgt := 107) hx hb (by unfold iR; omega) dX1_shift_100 (by decide) (fun h => absurd h (by decide)) (fun _ => ?_)
                refine li_iconst hx hb dX1_shift_103 ?_
                refine lv_goto (tgt := 108) hx hb dX1_shift_104 (by decide) ?_
                refine lv_istore (lv' := [(9, .int (iI 1)), (8, .int (iI 0)), (7, .int (iI (fsh (fb σ p a (fun i => bLo σ p i a) (fun t => σ 12 t 0) (σ 0 0 0)) (fb σ p a (fun i => bHi σ p i a) (fun t => σ 13 t 0) (σ 0 0 0)) (cnt (blkP σ p a) 0 (σ 0 0 0)) 0))), (6, .int (iI (fsh (fb σ p a (fun i => bLo σ p i a) (fun t => σ 12 t 0) (σ 0 0 0)) (fb σ p a (fun i => bHi σ p i a) (fun t => σ 13 t 0) (σ 0 0 0)) (cnt (blkP σ p a) 0 (σ 0 0 0)) 1))), (5, .int (iI (cnt (blkP σ p a) 0 (σ 0 0 0)))), (4, .ref (ad 20 p)), (0, .ref (ad 0 0)), (1, .int (iI p)), (2, .int (iI a)), (3, .int (iI mo))]) hx hb dX1_shift_108 hl (by decide) rfl (fun ls hl => ?_)
                refine lv_iload hx hb dX1_shift_110 (lv_at hl 1 rfl) ?_
                refine li_if_eq (tgt := 131) hx hb (by unfold iR; omega) dX1_shift_112 (by decide) (fun _ => ?_) (fun h => absurd (by decide) h)
                refine lv_iload hx hb dX1_shift_131 (lv_at hl 0 rfl) ?_
                refine li_if_eq (tgt := 141) hx hb (by unfold iR; omega) dX1_shift_133 (by decide) (fun h => absurd h (by decide)) (fun _ => ?_)
                refine lv_iload hx hb dX1_shift_136 (lv_at hl 2 rfl) ?_
                refine lv_goto (tgt := 144) hx hb dX1_shift_138 (by decide) ?_
                refine bw_i hx hb hr hlocks (by first | exact hU | simpa using hU) hF hlc ?_ dX1_shift_144
                unfold shR; rw [zI_f (fun q => (fun q => h9 q.2) q.1), zI_t ⟨by omega, h14⟩]
              · refine li_if_eq (tgt := 107) hx hb (by unfold iR; omega) dX1_shift_100 (by decide) (fun _ => ?_) (fun h => absurd (by decide) h)
                refine li_iconst hx hb dX1_shift_107 ?_
                refine lv_istore (lv' := [(9, .int (iI 0)), (8, .int (iI 0)), (7, .int (iI (fsh (fb σ p a (fun i => bLo σ p i a) (fun t => σ 12 t 0) (σ 0 0 0)) (fb σ p a (fun i => bHi σ p i a) (fun t => σ 13 t 0) (σ 0 0 0)) (cnt (blkP σ p a) 0 (σ 0 0 0)) 0))), (6, .int (iI (fsh (fb σ p a (fun i => bLo σ p i a) (fun t => σ 12 t 0) (σ 0 0 0)) (fb σ p a (fun i => bHi σ p i a) (fun t => σ 13 t 0) (σ 0 0 0)) (cnt (blkP σ p a) 0 (σ 0 0 0)) 1))), (5, .int (iI (cnt (blkP σ p a) 0 (σ 0 0 0)))), (4, .ref (ad 20 p)), (0, .ref (ad 0 0)), (1, .int (iI p)), (2, .int (iI a)), (3, .int (iI mo))]) hx hb dX1_shift_108 hl (by decide) rfl (fun ls hl => ?_)
                refine lv_iload hx hb dX1_shift_110 (lv_at hl 1 rfl) ?_
                refine li_if_eq (tgt := 131) hx hb (by unfold iR; omega) dX1_shift_112 (by decide) (fun _ => ?_) (fun h => absurd (by decide) h)
                refine lv_iload hx hb dX1_shift_131 (lv_at hl 0 rfl) ?_
                refine li_if_eq (tgt := 141) hx hb (by unfold iR; omega) dX1_shift_133 (by decide) (fun _ => ?_) (fun h => absurd (by decide) h)
                refine li_sipush hx hb dX1_shift_141 (by decide) ?_
                refine bw_i hx hb hr hlocks (by first | exact hU | simpa using hU) hF hlc ?_ dX1_shift_144
                unfold shR; rw [zI_f (fun q => (fun q => h9 q.2) q.1), zI_f (fun q => h14 q.2)]
      · refine li_if_eq (tgt := 29) hx hb (by unfold iR; omega) dX1_shift_22 (by decide) (fun _ => ?_) (fun h => absurd (by decide) h)
        refine li_iconst hx hb dX1_shift_29 ?_
        exfalso
        omega
    · refine li_if_eq (tgt := 29) hx hb (by unfold iR; omega) dX1_shift_11 (by decide) (fun _ => ?_) (fun h => absurd (by decide) h)
      refine li_iconst hx hb dX1_shift_29 ?_
      exfalso
      omega
  · exfalso
    omega

set_option maxHeartbeats 4000000 in
set_option maxRecDepth 100000 in
theorem c_X1_shift_f (l : Launch) (hst : l.stackTraces = false) (g : bxG) (ad : bxA) (σ τ : bxS) (w : bxW) (sa : Nat → Nat) (p a mo : Int) (hRp : iR p) (hRa : iR a) (hRmo : iR mo) (hB : bx_B σ) (hg : ¬ ((0 ≤ p ∧ p < 60 ∧ σ 2 p 0 ≠ 0) ∧ (0 ≤ a ∧ a ≤ 2) ∧ 0 ≤ mo ∧ mo ≤ 1000)) : vx_Met l yX1_shift wsX1_shift ({ frames := 7, cells := 1, slots := 6, locals := 125 }) (va_Pc [.ref (ad 0 0), .int (iI p), .int (iI a), .int (iI mo)] (fun U => bt_I g ad σ τ w sa U)) bq_no (bq_X g ad σ τ w (fun E => E = bt_iae)) 1 6 (bq_fr g) := by
  refine vx_ofW (cc := cX1_shift) (maxL := 10) (ret := (some .int)) (by decide) rfl ?_
  intro Pg Ev s mI args below meth cd s₁ B hml hout hv
  obtain ⟨rfl, ⟨hU, hK⟩, hT⟩ := hv
  have hx := B.exec
  have hb := B.bytes
  have hr := B.returns
  have hts := atoms_spec (ws := wsX1_shift) B.pre
  have hown : s.vm.findClass RX1 = some mI.cls := findClass_of_methodNamed B.named
  have hlocks := B.notSynchronized
  have hl := lv_entry ([.ref (ad 0 0), .int (iI p), .int (iI a), .int (iI mo)]) (n := 10) (Nat.le_of_ble_eq_true rfl)
  rw [lg_entry_eq]
  generalize (lg_sl ([.ref (ad 0 0), .int (iI p), .int (iI a), .int (iI mo)]) ++ List.replicate (10 - (lg_sl ([.ref (ad 0 0), .int (iI p), .int (iI a), .int (iI mo)])).length) Slot.unset).toArray = ls at hl ⊢
  have hl : lv_has ls 10 [(0, .ref (ad 0 0)), (1, .int (iI p)), (2, .int (iI a)), (3, .int (iI mo))] := hl
  have hRp0 : -2147483648 ≤ p ∧ p < 2147483648 := hRp
  have hRa0 : -2147483648 ≤ a ∧ a < 2147483648 := hRa
  have hRmo0 : -2147483648 ≤ mo ∧ mo < 2147483648 := hRmo
  refine lv_aload_n hx hb dX1_shift_0 rfl (lv_at hl 0 rfl) ?_
  refine lv_iload_n hx hb dX1_shift_1 rfl (lv_at hl 1 rfl) ?_
  by_cases hp1 : 0 ≤ p ∧ p < 60 ∧ σ 2 p 0 ≠ 0
  · refine bc_V (As := [.int (iI p)]) (rest := []) (kd := 0) (k := 0) (ci := 1) ⟨hx, hb, hml, hown, hts⟩ (c_X1_partAt_t l g ad σ τ w p hp1) (cwV 1 hts gX1_shift_X1_partAt rfl rfl rfl (by decide +kernel) ⟨Nat.le_of_ble_eq_true rfl, Nat.le_of_ble_eq_true rfl⟩) hK hU (bx_L0 (by omega)) rfl rfl rfl hl.1 rfl (Nat.le_of_ble_eq_true rfl) dX1_shift_2 ⟨Nat.zero_le _, Nat.zero_le _⟩ ?_
    refine lv_astore (lv' := [(4, .ref (ad 20 p)), (0, .ref (ad 0 0)), (1, .int (iI p)), (2, .int (iI a)), (3, .int (iI mo))]) hx hb dX1_shift_5 hl (by decide) rfl (fun ls hl => ?_)
    refine lv_iload_n hx hb dX1_shift_7 rfl (lv_at hl 3 rfl) ?_
    refine bc_SB (As := [.int (iI a)]) (rest := []) ⟨hx, hb, hml, hown, hts⟩ (c_X1_isAxis l g ad σ τ w a (by unfold iR; omega)) (va_cwS 1 hts gX1_shift_X1_isAxis rfl rfl rfl (by decide +kernel) ⟨Nat.le_of_ble_eq_true rfl, Nat.le_of_ble_eq_true rfl⟩) hK hU  rfl hl.1 rfl (Nat.le_of_ble_eq_true rfl) dX1_shift_8 ⟨Nat.zero_le _, Nat.zero_le _⟩ (fun h2 => ?_) (fun h2 => ?_)
    · refine li_if_eq (tgt := 29) hx hb (by unfold iR; omega) dX1_shift_11 (by decide) (fun h => absurd h (by decide)) (fun _ => ?_)
      refine lv_iload_n hx hb dX1_shift_14 rfl (lv_at hl 4 rfl) ?_
      refine li_iconst hx hb dX1_shift_15 ?_
      refine li_sipush hx hb dX1_shift_16 (by decide) ?_
      refine bc_SB (As := [.int (iI mo), .int (iI 0), .int (iI 1000)]) (rest := []) ⟨hx, hb, hml, hown, hts⟩ (c_X1_isWithin l g ad σ τ w mo 0 1000 (by unfold iR; omega) (by unfold iR; omega) (by unfold iR; omega)) (va_cwS 3 hts gX1_shift_X1_isWithin rfl rfl rfl (by decide +kernel) ⟨Nat.le_of_ble_eq_true rfl, Nat.le_of_ble_eq_true rfl⟩) hK hU  rfl hl.1 rfl (Nat.le_of_ble_eq_true rfl) dX1_shift_19 ⟨Nat.zero_le _, Nat.zero_le _⟩ (fun h3 => ?_) (fun h3 => ?_)
      · refine li_if_eq (tgt := 29) hx hb (by unfold iR; omega) dX1_shift_22 (by decide) (fun h => absurd h (by decide)) (fun _ => ?_)
        refine li_iconst hx hb dX1_shift_25 ?_
        refine lv_goto (tgt := 30) hx hb dX1_shift_26 (by decide) ?_
        refine bc_SN (As := [.int (iI 1)]) (rest := []) ⟨hx, hb, hml, hown, hts⟩ (c_X1_need_t l g ad σ τ w) (va_cwS 1 hts gX1_shift_X1_need rfl rfl rfl (by decide +kernel) ⟨Nat.le_of_ble_eq_true rfl, Nat.le_of_ble_eq_true rfl⟩) hK hU rfl hl.1 rfl (Nat.le_of_ble_eq_true rfl) dX1_shift_30 ⟨Nat.zero_le _, Nat.zero_le _⟩ ?_
        exfalso
        omega
      · refine li_if_eq (tgt := 29) hx hb (by unfold iR; omega) dX1_shift_22 (by decide) (fun _ => ?_) (fun h => absurd (by decide) h)
        refine li_iconst hx hb dX1_shift_29 ?_
        exact bt_S (As := [.int (iI 0)]) (rest := []) ⟨hx, hb, hml, hown, hts⟩ (c_X1_need_f l hst g ad σ τ w sa) (va_cwS 1 hts gX1_shift_X1_need rfl rfl rfl (by decide +kernel) ⟨Nat.le_of_ble_eq_true rfl, Nat.le_of_ble_eq_true rfl⟩) hK hU hT bx_F.rf bx_Lc.nil rfl hl.1 rfl (Nat.le_of_ble_eq_true rfl) dX1_shift_30 ⟨Nat.le_of_ble_eq_true rfl, Nat.le_of_ble_eq_true rfl⟩ hout hlocks (Nat.le_of_ble_eq_true rfl) (Nat.le_of_ble_eq_true rfl)
    · refine li_if_eq (tgt := 29) hx hb (by unfold iR; omega) dX1_shift_11 (by decide) (fun _ => ?_) (fun h => absurd (by decide) h)
      refine li_iconst hx hb dX1_shift_29 ?_
      exact bt_S (As := [.int (iI 0)]) (rest := []) ⟨hx, hb, hml, hown, hts⟩ (c_X1_need_f l hst g ad σ τ w sa) (va_cwS 1 hts gX1_shift_X1_need rfl rfl rfl (by decide +kernel) ⟨Nat.le_of_ble_eq_true rfl, Nat.le_of_ble_eq_true rfl⟩) hK hU hT bx_F.rf bx_Lc.nil rfl hl.1 rfl (Nat.le_of_ble_eq_true rfl) dX1_shift_30 ⟨Nat.le_of_ble_eq_true rfl, Nat.le_of_ble_eq_true rfl⟩ hout hlocks (Nat.le_of_ble_eq_true rfl) (Nat.le_of_ble_eq_true rfl)
  · exact bt_V (As := [.int (iI p)]) (rest := []) (kd := 0) (k := 0) (ci := 1) ⟨hx, hb, hml, hown, hts⟩ (c_X1_partAt_f l hst g ad σ τ w sa p (by unfold iR; omega) hp1) (cwV 1 hts gX1_shift_X1_partAt rfl rfl rfl (by decide +kernel) ⟨Nat.le_of_ble_eq_true rfl, Nat.le_of_ble_eq_true rfl⟩) hK hU hT bx_F.rf bx_Lc.nil (bx_L0 (by omega)) rfl rfl rfl hl.1 rfl (Nat.le_of_ble_eq_true rfl) dX1_shift_2 ⟨Nat.le_of_ble_eq_true rfl, Nat.le_of_ble_eq_true rfl⟩ hout hlocks (Nat.le_of_ble_eq_true rfl) (Nat.le_of_ble_eq_true rfl)
