set_option maxHeartbeats 4000000 in
set_option maxRecDepth 100000 in
theorem c_X2_common_t (l : Launch) (g : bxG) (ad : bxA) (σ τ : bxS) (w : bxW) (p q : Int) (hRp : iR p) (hRq : iR q) (hBt : bx_B τ) (hM : bx_M τ) (hg : (0 ≤ p ∧ p < 60 ∧ τ 2 p 0 ≠ 0) ∧ (0 ≤ q ∧ q < 60 ∧ τ 2 q 0 ≠ 0) ∧ p ≠ q) : Met l yX2_common wsX2_common ({ frames := 2, cells := 0, slots := 0, locals := 53 }) (va_Pc [.ref (ad 7 0), .int (iI p), .int (iI q)] (fun U => bx_I g ad σ τ w U)) (bq_W (some (.long (1 * ((iI (max 0 (min (mH (eff τ) p 0 1 0) (mH (eff τ) q 0 1 0) - max (mH (eff τ) p 0 0 0) (mH (eff τ) q 0 0 0)))).toInt64) * ((iI (max 0 (min (mH (eff τ) p 1 1 0) (mH (eff τ) q 1 1 0) - max (mH (eff τ) p 1 0 0) (mH (eff τ) q 1 0 0)))).toInt64) * ((iI (max 0 (min (mH (eff τ) p 2 1 0) (mH (eff τ) q 2 1 0) - max (mH (eff τ) p 2 0 0) (mH (eff τ) q 2 0 0)))).toInt64)))) g ad σ τ (w.1, 0)) 0 0 (bq_fr g) := by
  refine Met.ofW (cc := cX2_common) (maxL := 12) (ret := (some .long)) (by decide) rfl ?_
  intro Pg Ev s mI args below meth cd s₁ B hml hv
  obtain ⟨rfl, hU, hK⟩ := hv
  have hx := B.exec
  have hb := B.bytes
  have hr := B.returns
  have hts := atoms_spec (ws := wsX2_common) B.pre
  have hown : s.vm.findClass RX2 = some mI.cls := findClass_of_methodNamed B.named
  have hlocks := B.notSynchronized
  have hF : bx_F g s.heap s.heap := bx_F.rf
  have hlc : bx_Lc g [] := bx_Lc.nil
  have hl := lv_entry ([.ref (ad 7 0), .int (iI p), .int (iI q)]) (n := 12) (Nat.le_of_ble_eq_true rfl)
  rw [lg_entry_eq]
  generalize (lg_sl ([.ref (ad 7 0), .int (iI p), .int (iI q)]) ++ List.replicate (12 - (lg_sl ([.ref (ad 7 0), .int (iI p), .int (iI q)])).length) Slot.unset).toArray = ls at hl ⊢
  have hl : lv_has ls 12 [(0, .ref (ad 7 0)), (1, .int (iI p)), (2, .int (iI q))] := hl
  have hinX2 : ∀ w ∈ wsX20, w ∈ wsX2_common := by decide +kernel
  have hRp0 : -2147483648 ≤ p ∧ p < 2147483648 := hRp
  have hRq0 : -2147483648 ≤ q ∧ q < 2147483648 := hRq
  refine lv_aload_n hx hb dX2_common_0 rfl (lv_at hl 0 rfl) ?_
  refine lv_aload_n hx hb dX2_common_1 rfl (lv_at hl 0 rfl) ?_
  refine lv_iload_n hx hb dX2_common_2 rfl (lv_at hl 1 rfl) ?_
  refine bc_VB (As := [.int (iI p)]) (rest := [.ref (ad 7 0)]) (kd := 7) (k := 0) (ci := 2) ⟨hx, hb, hml, hown, hts⟩ (c_X2_isPart l g ad σ τ w p (by unfold iR; omega) hBt) (cwV 1 hts gX2_common_X2_isPart rfl rfl rfl (by decide +kernel) ⟨Nat.le_of_ble_eq_true rfl, Nat.le_of_ble_eq_true rfl⟩) hK hU (bx_L0 (by omega)) rfl rfl rfl hl.1 rfl (Nat.le_of_ble_eq_true rfl) dX2_common_3 ⟨Nat.le_of_ble_eq_true rfl, Nat.le_of_ble_eq_true rfl⟩ (fun h1 => ?_) (fun h1 => ?_)
  · refine li_if_eq (tgt := 22) hx hb (by unfold iR; omega) dX2_common_6 (by decide) (fun h => absurd h (by decide)) (fun _ => ?_)
    refine lv_aload_n hx hb dX2_common_9 rfl (lv_at hl 0 rfl) ?_
    refine lv_iload_n hx hb dX2_common_10 rfl (lv_at hl 2 rfl) ?_
    refine bc_VB (As := [.int (iI q)]) (rest := [.ref (ad 7 0)]) (kd := 7) (k := 0) (ci := 2) ⟨hx, hb, hml, hown, hts⟩ (c_X2_isPart l g ad σ τ w q (by unfold iR; omega) hBt) (cwV 1 hts gX2_common_X2_isPart rfl rfl rfl (by decide +kernel) ⟨Nat.le_of_ble_eq_true rfl, Nat.le_of_ble_eq_true rfl⟩) hK hU (bx_L0 (by omega)) rfl rfl rfl hl.1 rfl (Nat.le_of_ble_eq_true rfl) dX2_common_11 ⟨Nat.le_of_ble_eq_true rfl, Nat.le_of_ble_eq_true rfl⟩ (fun h2 => ?_) (fun h2 => ?_)
    · refine li_if_eq (tgt := 22) hx hb (by unfold iR; omega) dX2_common_14 (by decide) (fun h => absurd h (by decide)) (fun _ => ?_)
      refine lv_iload_n hx hb dX2_common_17 rfl (lv_at hl 1 rfl) ?_
      refine lv_iload_n hx hb dX2_common_18 rfl (lv_at hl 2 rfl) ?_
      refine li_icmp_ne (tgt := 26) hx hb (by unfold iR; omega) (by unfold iR; omega) dX2_common_19 (by decide) (fun h3 => ?_) (fun h3 => ?_)
      · refine li_iconst hx hb dX2_common_26 ?_
        refine bp_X2_code hx hb hts hinX2 hown hK hU hlc (hts (.fieldLink RX2 42 "ClashBoxesModel" "code" "I") (by decide +kernel)) dX2_common_27 (fun H locs hU hF1 hlc => ?_)
        have hF := hF.tr hF1
        have hU : bx_U g ad σ τ (w.1, 0) H := hU
        refine lv_aload_n hx hb dX2_common_30 rfl (lv_at hl 0 rfl) ?_
        refine bg_X2_code hx hb hts hinX2 hown hK hU (hts (.fieldLink RX2 42 "ClashBoxesModel" "code" "I") (by decide +kernel)) dX2_common_31 ?_
        refine W.eq (g2 := F0 mI 34 ls [.int (iI 0)]) rfl ?_
        refine li_if_le (tgt := 39) hx hb (by unfold iR; omega) dX2_common_34 (by decide) (fun _ => ?_) (fun h => absurd (by decide) h)
        refine lv_lconst (v := 1) hx hb dX2_common_39 (by decide) ?_
        refine lv_lstore_n (lv' := [(3, .long 1), (0, .ref (ad 7 0)), (1, .int (iI p)), (2, .int (iI q))]) hx hb dX2_common_40 rfl hl (by decide) rfl (fun ls hl => ?_)
        refine li_iconst hx hb dX2_common_41 ?_
        refine lv_istore (lv' := [(5, .int (iI 0)), (3, .long 1), (0, .ref (ad 7 0)), (1, .int (iI p)), (2, .int (iI q))]) hx hb dX2_common_42 hl (by decide) rfl (fun ls hl => ?_)
        refine lv_iload hx hb dX2_common_44 (lv_at hl 0 rfl) ?_
        refine li_iconst hx hb dX2_common_46 ?_
        refine li_icmp_ge (tgt := 152) hx hb (by unfold iR; omega) (by unfold iR; omega) dX2_common_47 (by decide) (fun h => absurd h (by decide)) (fun _ => ?_)
        refine lv_aload_n hx hb dX2_common_50 rfl (lv_at hl 2 rfl) ?_
        refine lv_iload_n hx hb dX2_common_51 rfl (lv_at hl 3 rfl) ?_
        refine lv_iload hx hb dX2_common_52 (lv_at hl 0 rfl) ?_
        refine li_iconst hx hb dX2_common_54 ?_
        refine li_iconst hx hb dX2_common_55 ?_
        refine bc_V (As := [.int (iI p), .int (iI 0), .int (iI 0), .int (iI 0)]) (rest := []) (kd := 7) (k := 0) (ci := 2) ⟨hx, hb, hml, hown, hts⟩ (c_X2_hullEnd l g ad σ τ (w.1, 0) p 0 0 0 h1 hBt hM (by omega) (by omega) (by omega)) (cwV 4 hts gX2_common_X2_hullEnd rfl rfl rfl (by decide +kernel) ⟨Nat.le_of_ble_eq_true rfl, Nat.le_of_ble_eq_true rfl⟩) hK hU (bx_L0 (by omega)) rfl rfl rfl hl.1 rfl (Nat.le_of_ble_eq_true rfl) dX2_common_56 ⟨Nat.le_of_ble_eq_true rfl, Nat.le_of_ble_eq_true rfl⟩ ?_
        have h4 := mH_bd hBt hM h1 (a := 0) (hi := 0) (gr := 0) (by omega) (by omega) (by omega)
        refine lv_istore (lv' := [(6, .int (iI (mH (eff τ) p 0 0 0))), (5, .int (iI 0)), (3, .long 1), (0, .ref (ad 7 0)), (1, .int (iI p)), (2, .int (iI q))]) hx hb dX2_common_59 hl (by decide) rfl (fun ls hl => ?_)
        refine lv_aload_n hx hb dX2_common_61 rfl (lv_at hl 3 rfl) ?_
        refine lv_iload_n hx hb dX2_common_62 rfl (lv_at hl 5 rfl) ?_
        refine lv_iload hx hb dX2_common_63 (lv_at hl 1 rfl) ?_
        refine li_iconst hx hb dX2_common_65 ?_
        refine li_iconst hx hb dX2_common_66 ?_
        refine bc_V (As := [.int (iI q), .int (iI 0), .int (iI 0), .int (iI 0)]) (rest := []) (kd := 7) (k := 0) (ci := 2) ⟨hx, hb, hml, hown, hts⟩ (c_X2_hullEnd l g ad σ τ (w.1, 0) q 0 0 0 h2 hBt hM (by omega) (by omega) (by omega)) (cwV 4 hts gX2_common_X2_hullEnd rfl rfl rfl (by decide +kernel) ⟨Nat.le_of_ble_eq_true rfl, Nat.le_of_ble_eq_true rfl⟩) hK hU (bx_L0 (by omega)) rfl rfl rfl hl.1 rfl (Nat.le_of_ble_eq_true rfl) dX2_common_67 ⟨Nat.le_of_ble_eq_true rfl, Nat.le_of_ble_eq_true rfl⟩ ?_
        have h5 := mH_bd hBt hM h2 (a := 0) (hi := 0) (gr := 0) (by omega) (by omega) (by omega)
        refine lv_istore (lv' := [(7, .int (iI (mH (eff τ) q 0 0 0))), (6, .int (iI (mH (eff τ) p 0 0 0))), (5, .int (iI 0)), (3, .long 1), (0, .ref (ad 7 0)), (1, .int (iI p)), (2, .int (iI q))]) hx hb dX2_common_70 hl (by decide) rfl (fun ls hl => ?_)
        refine lv_aload_n hx hb dX2_common_72 rfl (lv_at hl 4 rfl) ?_
        refine lv_iload_n hx hb dX2_common_73 rfl (lv_at hl 5 rfl) ?_
        refine lv_iload hx hb dX2_common_74 (lv_at hl 2 rfl) ?_
        refine li_iconst hx hb dX2_common_76 ?_
        refine li_iconst hx hb dX2_common_77 ?_
        refine bc_V (As := [.int (iI p), .int (iI 0), .int (iI 1), .int (iI 0)]) (rest := []) (kd := 7) (k := 0) (ci := 2) ⟨hx, hb, hml, hown, hts⟩ (c_X2_hullEnd l g ad σ τ (w.1, 0) p 0 1 0 h1 hBt hM (by omega) (by omega) (by omega)) (cwV 4 hts gX2_common_X2_hullEnd rfl rfl rfl (by decide +kernel) ⟨Nat.le_of_ble_eq_true rfl, Nat.le_of_ble_eq_true rfl⟩) hK hU (bx_L0 (by omega)) rfl rfl rfl hl.1 rfl (Nat.le_of_ble_eq_true rfl) dX2_common_78 ⟨Nat.le_of_ble_eq_true rfl, Nat.le_of_ble_eq_true rfl⟩ ?_
        have h6 := mH_bd hBt hM h1 (a := 0) (hi := 1) (gr := 0) (by omega) (by omega) (by omega)
        refine lv_istore (lv' := [(8, .int (iI (mH (eff τ) p 0 1 0))), (7, .int (iI (mH (eff τ) q 0 0 0))), (6, .int (iI (mH (eff τ) p 0 0 0))), (5, .int (iI 0)), (3, .long 1), (0, .ref (ad 7 0)), (1, .int (iI p)), (2, .int (iI q))]) hx hb dX2_common_81 hl (by decide) rfl (fun ls hl => ?_)
        refine lv_aload_n hx hb dX2_common_83 rfl (lv_at hl 5 rfl) ?_
        refine lv_iload_n hx hb dX2_common_84 rfl (lv_at hl 7 rfl) ?_
        refine lv_iload hx hb dX2_common_85 (lv_at hl 3 rfl) ?_
        refine li_iconst hx hb dX2_common_87 ?_
        refine li_iconst hx hb dX2_common_88 ?_
        refine bc_V (As := [.int (iI q), .int (iI 0), .int (iI 1), .int (iI 0)]) (rest := []) (kd := 7) (k := 0) (ci := 2) ⟨hx, hb, hml, hown, hts⟩ (c_X2_hullEnd l g ad σ τ (w.1, 0) q 0 1 0 h2 hBt hM (by omega) (by omega) (by omega)) (cwV 4 hts gX2_common_X2_hullEnd rfl rfl rfl (by decide +kernel) ⟨Nat.le_of_ble_eq_true rfl, Nat.le_of_ble_eq_true rfl⟩) hK hU (bx_L0 (by omega)) rfl rfl rfl hl.1 rfl (Nat.le_of_ble_eq_true rfl) dX2_common_89 ⟨Nat.le_of_ble_eq_true rfl, Nat.le_of_ble_eq_true rfl⟩ ?_
        have h7 := mH_bd hBt hM h2 (a := 0) (hi := 1) (gr := 0) (by omega) (by omega) (by omega)
        refine lv_istore (lv' := [(9, .int (iI (mH (eff τ) q 0 1 0))), (8, .int (iI (mH (eff τ) p 0 1 0))), (7, .int (iI (mH (eff τ) q 0 0 0))), (6, .int (iI (mH (eff τ) p 0 0 0))), (5, .int (iI 0)), (3, .long 1), (0, .ref (ad 7 0)), (1, .int (iI p)), (2, .int (iI q))]) hx hb dX2_common_92 hl (by decide) rfl (fun ls hl => ?_)
        refine W.cut (g2 := F0 mI 108 ls [.int (iI (max (mH (eff τ) p 0 0 0) (mH (eff τ) q 0 0 0)))]) ?_ (fun key8 => ?_)
        · refine lv_istore (lv' := [(10, .int (iI (max (mH (eff τ) p 0 0 0) (mH (eff τ) q 0 0 0)))), (9, .int (iI (mH (eff τ) q 0 1 0))), (8, .int (iI (mH (eff τ) p 0 1 0))), (7, .int (iI (mH (eff τ) q 0 0 0))), (6, .int (iI (mH (eff τ) p 0 0 0))), (5, .int (iI 0)), (3, .long 1), (0, .ref (ad 7 0)), (1, .int (iI p)), (2, .int (iI q))]) hx hb dX2_common_108 hl (by decide) rfl (fun ls hl => ?_)
          refine W.cut (g2 := F0 mI 124 ls [.int (iI (min (mH (eff τ) p 0 1 0) (mH (eff τ) q 0 1 0)))]) ?_ (fun key9 => ?_)
          · refine lv_istore (lv' := [(11, .int (iI (min (mH (eff τ) p 0 1 0) (mH (eff τ) q 0 1 0)))), (10, .int (iI (max (mH (eff τ) p 0 0 0) (mH (eff τ) q 0 0 0)))), (9, .int (iI (mH (eff τ) q 0 1 0))), (8, .int (iI (mH (eff τ) p 0 1 0))), (7, .int (iI (mH (eff τ) q 0 0 0))), (6, .int (iI (mH (eff τ) p 0 0 0))), (5, .int (iI 0)), (3, .long 1), (0, .ref (ad 7 0)), (1, .int (iI p)), (2, .int (iI q))]) hx hb dX2_common_124 hl (by decide) rfl (fun ls hl => ?_)
            refine lv_lload_n hx hb dX2_common_126 rfl (lv_at hl 7 rfl) ?_
            refine W.cut (g2 := F0 mI 144 ls [.long ((iI (max 0 (min (mH (eff τ) p 0 1 0) (mH (eff τ) q 0 1 0) - (max (mH (eff τ) p 0 0 0) (mH (eff τ) q 0 0 0))))).toInt64), .long 1]) ?_ (fun key10 => ?_)
            · refine lv_lmul hx hb dX2_common_144 ?_
              refine lv_lstore_n (lv' := [(3, .long (1 * ((iI (max 0 (min (mH (eff τ) p 0 1 0) (mH (eff τ) q 0 1 0) - (max (mH (eff τ) p 0 0 0) (mH (eff τ) q 0 0 0))))).toInt64))), (11, .int (iI (min (mH (eff τ) p 0 1 0) (mH (eff τ) q 0 1 0)))), (10, .int (iI (max (mH (eff τ) p 0 0 0) (mH (eff τ) q 0 0 0)))), (9, .int (iI (mH (eff τ) q 0 1 0))), (8, .int (iI (mH (eff τ) p 0 1 0))), (7, .int (iI (mH (eff τ) q 0 0 0))), (6, .int (iI (mH (eff τ) p 0 0 0))), (5, .int (iI 0)), (0, .ref (ad 7 0)), (1, .int (iI p)), (2, .int (iI q))]) hx hb dX2_common_145 rfl hl (by decide) rfl (fun ls hl => ?_)
              refine li_iinc (k0 := 7) (lv' := [(5, .int (iI (0 + 1))), (3, .long (1 * ((iI (max 0 (min (mH (eff τ) p 0 1 0) (mH (eff τ) q 0 1 0) - (max (mH (eff τ) p 0 0 0) (mH (eff τ) q 0 0 0))))).toInt64))), (11, .int (iI (min (mH (eff τ) p 0 1 0) (mH (eff τ) q 0 1 0)))), (10, .int (iI (max (mH (eff τ) p 0 0 0) (mH (eff τ) q 0 0 0)))), (9, .int (iI (mH (eff τ) q 0 1 0))), (8, .int (iI (mH (eff τ) p 0 1 0))), (7, .int (iI (mH (eff τ) q 0 0 0))), (6, .int (iI (mH (eff τ) p 0 0 0))), (0, .ref (ad 7 0)), (1, .int (iI p)), (2, .int (iI q))]) hx hb dX2_common_146 hl rfl (by decide) rfl (fun ls hl => ?_)
              have hl : lv_has ls 12 [(5, .int (iI 1)), (3, .long (1 * ((iI (max 0 (min (mH (eff τ) p 0 1 0) (mH (eff τ) q 0 1 0) - (max (mH (eff τ) p 0 0 0) (mH (eff τ) q 0 0 0))))).toInt64))), (11, .int (iI (min (mH (eff τ) p 0 1 0) (mH (eff τ) q 0 1 0)))), (10, .int (iI (max (mH (eff τ) p 0 0 0) (mH (eff τ) q 0 0 0)))), (9, .int (iI (mH (eff τ) q 0 1 0))), (8, .int (iI (mH (eff τ) p 0 1 0))), (7, .int (iI (mH (eff τ) q 0 0 0))), (6, .int (iI (mH (eff τ) p 0 0 0))), (0, .ref (ad 7 0)), (1, .int (iI p)), (2, .int (iI q))] := hl
              refine lv_goto (tgt := 44) hx hb dX2_common_149 (by decide) ?_
              refine lv_iload hx hb dX2_common_44 (lv_at hl 0 rfl) ?_
              refine li_iconst hx hb dX2_common_46 ?_
              refine li_icmp_ge (tgt := 152) hx hb (by unfold iR; omega) (by unfold iR; omega) dX2_common_47 (by decide) (fun h => absurd h (by decide)) (fun _ => ?_)
              refine lv_aload_n hx hb dX2_common_50 rfl (lv_at hl 8 rfl) ?_
              refine lv_iload_n hx hb dX2_common_51 rfl (lv_at hl 9 rfl) ?_
              refine lv_iload hx hb dX2_common_52 (lv_at hl 0 rfl) ?_
              refine li_iconst hx hb dX2_common_54 ?_
              refine li_iconst hx hb dX2_common_55 ?_
              refine bc_V (As := [.int (iI p), .int (iI 1), .int (iI 0), .int (iI 0)]) (rest := []) (kd := 7) (k := 0) (ci := 2) ⟨hx, hb, hml, hown, hts⟩ (c_X2_hullEnd l g ad σ τ (w.1, 0) p 1 0 0 h1 hBt hM (by omega) (by omega) (by omega)) (cwV 4 hts gX2_common_X2_hullEnd rfl rfl rfl (by decide +kernel) ⟨Nat.le_of_ble_eq_true rfl, Nat.le_of_ble_eq_true rfl⟩) hK hU (bx_L0 (by omega)) rfl rfl rfl hl.1 rfl (Nat.le_of_ble_eq_true rfl) dX2_common_56 ⟨Nat.le_of_ble_eq_true rfl, Nat.le_of_ble_eq_true rfl⟩ ?_
              have h11 := mH_bd hBt hM h1 (a := 1) (hi := 0) (gr := 0) (by omega) (by omega) (by omega)
              refine lv_istore (lv' := [(6, .int (iI (mH (eff τ) p 1 0 0))), (5, .int (iI 1)), (3, .long (1 * ((iI (max 0 (min (mH (eff τ) p 0 1 0) (mH (eff τ) q 0 1 0) - (max (mH (eff τ) p 0 0 0) (mH (eff τ) q 0 0 0))))).toInt64))), (11, .int (iI (min (mH (eff τ) p 0 1 0) (mH (eff τ) q 0 1 0)))), (10, .int (iI (max (mH (eff τ) p 0 0 0) (mH (eff τ) q 0 0 0)))), (9, .int (iI (mH (eff τ) q 0 1 0))), (8, .int (iI (mH (eff τ) p 0 1 0))), (7, .int (iI (mH (eff τ) q 0 0 0))), (0, .ref (ad 7 0)), (1, .int (iI p)), (2, .int (iI q))]) hx hb dX2_common_59 hl (by decide) rfl (fun ls hl => ?_)
              refine lv_aload_n hx hb dX2_common_61 rfl (lv_at hl 8 rfl) ?_
              refine lv_iload_n hx hb dX2_common_62 rfl (lv_at hl 10 rfl) ?_
              refine lv_iload hx hb dX2_common_63 (lv_at hl 1 rfl) ?_
              refine li_iconst hx hb dX2_common_65 ?_
              refine li_iconst hx hb dX2_common_66 ?_
              refine bc_V (As := [.int (iI q), .int (iI 1), .int (iI 0), .int (iI 0)]) (rest := []) (kd := 7) (k := 0) (ci := 2) ⟨hx, hb, hml, hown, hts⟩ (c_X2_hullEnd l g ad σ τ (w.1, 0) q 1 0 0 h2 hBt hM (by omega) (by omega) (by omega)) (cwV 4 hts gX2_common_X2_hullEnd rfl rfl rfl (by decide +kernel) ⟨Nat.le_of_ble_eq_true rfl, Nat.le_of_ble_eq_true rfl⟩) hK hU (bx_L0 (by omega)) rfl rfl rfl hl.1 rfl (Nat.le_of_ble_eq_true rfl) dX2_common_67 ⟨Nat.le_of_ble_eq_true rfl, Nat.le_of_ble_eq_true rfl⟩ ?_
              have h12 := mH_bd hBt hM h2 (a := 1) (hi := 0) (gr := 0) (by omega) (by omega) (by omega)
              refine lv_istore (lv' := [(7, .int (iI (mH (eff τ) q 1 0 0))), (6, .int (iI (mH (eff τ) p 1 0 0))), (5, .int (iI 1)), (3, .long (1 * ((iI (max 0 (min (mH (eff τ) p 0 1 0) (mH (eff τ) q 0 1 0) - (max (mH (eff τ) p 0 0 0) (mH (eff τ) q 0 0 0))))).toInt64))), (11, .int (iI (min (mH (eff τ) p 0 1 0) (mH (eff τ) q 0 1 0)))), (10, .int (iI (max (mH (eff τ) p 0 0 0) (mH (eff τ) q 0 0 0)))), (9, .int (iI (mH (eff τ) q 0 1 0))), (8, .int (iI (mH (eff τ) p 0 1 0))), (0, .ref (ad 7 0)), (1, .int (iI p)), (2, .int (iI q))]) hx hb dX2_common_70 hl (by decide) rfl (fun ls hl => ?_)
              refine lv_aload_n hx hb dX2_common_72 rfl (lv_at hl 8 rfl) ?_
              refine lv_iload_n hx hb dX2_common_73 rfl (lv_at hl 9 rfl) ?_
              refine lv_iload hx hb dX2_common_74 (lv_at hl 2 rfl) ?_
              refine li_iconst hx hb dX2_common_76 ?_
              refine li_iconst hx hb dX2_common_77 ?_
              refine bc_V (As := [.int (iI p), .int (iI 1), .int (iI 1), .int (iI 0)]) (rest := []) (kd := 7) (k := 0) (ci := 2) ⟨hx, hb, hml, hown, hts⟩ (c_X2_hullEnd l g ad σ τ (w.1, 0) p 1 1 0 h1 hBt hM (by omega) (by omega) (by omega)) (cwV 4 hts gX2_common_X2_hullEnd rfl rfl rfl (by decide +kernel) ⟨Nat.le_of_ble_eq_true rfl, Nat.le_of_ble_eq_true rfl⟩) hK hU (bx_L0 (by omega)) rfl rfl rfl hl.1 rfl (Nat.le_of_ble_eq_true rfl) dX2_common_78 ⟨Nat.le_of_ble_eq_true rfl, Nat.le_of_ble_eq_true rfl⟩ ?_
              have h13 := mH_bd hBt hM h1 (a := 1) (hi := 1) (gr := 0) (by omega) (by omega) (by omega)
              refine lv_istore (lv' := [(8, .int (iI (mH (eff τ) p 1 1 0))), (7, .int (iI (mH (eff τ) q 1 0 0))), (6, .int (iI (mH (eff τ) p 1 0 0))), (5, .int (iI 1)), (3, .long (1 * ((iI (max 0 (min (mH (eff τ) p 0 1 0) (mH (eff τ) q 0 1 0) - (max (mH (eff τ) p 0 0 0) (mH (eff τ) q 0 0 0))))).toInt64))), (11, .int (iI (min (mH (eff τ) p 0 1 0) (mH (eff τ) q 0 1 0)))), (10, .int (iI (max (mH (eff τ) p 0 0 0) (mH (eff τ) q 0 0 0)))), (9, .int (iI (mH (eff τ) q 0 1 0))), (0, .ref (ad 7 0)), (1, .int (iI p)), (2, .int (iI q))]) hx hb dX2_common_81 hl (by decide) rfl (fun ls hl => ?_)
              refine lv_aload_n hx hb dX2_common_83 rfl (lv_at hl 8 rfl) ?_
              refine lv_iload_n hx hb dX2_common_84 rfl (lv_at hl 10 rfl) ?_
              refine lv_iload hx hb dX2_common_85 (lv_at hl 3 rfl) ?_
              refine li_iconst hx hb dX2_common_87 ?_
              refine li_iconst hx hb dX2_common_88 ?_
              refine bc_V (As := [.int (iI q), .int (iI 1), .int (iI 1), .int (iI 0)]) (rest := []) (kd := 7) (k := 0) (ci := 2) ⟨hx, hb, hml, hown, hts⟩ (c_X2_hullEnd l g ad σ τ (w.1, 0) q 1 1 0 h2 hBt hM (by omega) (by omega) (by omega)) (cwV 4 hts gX2_common_X2_hullEnd rfl rfl rfl (by decide +kernel) ⟨Nat.le_of_ble_eq_true rfl, Nat.le_of_ble_eq_true rfl⟩) hK hU (bx_L0 (by omega)) rfl rfl rfl hl.1 rfl (Nat.le_of_ble_eq_true rfl) dX2_common_89 ⟨Nat.le_of_ble_eq_true rfl, Nat.le_of_ble_eq_true rfl⟩ ?_
              have h14 := mH_bd hBt hM h2 (a := 1) (hi := 1) (gr := 0) (by omega) (by omega) (by omega)
              refine lv_istore (lv' := [(9, .int (iI (mH (eff τ) q 1 1 0))), (8, .int (iI (mH (eff τ) p 1 1 0))), (7, .int (iI (mH (eff τ) q 1 0 0))), (6, .int (iI (mH (eff τ) p 1 0 0))), (5, .int (iI 1)), (3, .long (1 * ((iI (max 0 (min (mH (eff τ) p 0 1 0) (mH (eff τ) q 0 1 0) - (max (mH (eff τ) p 0 0 0) (mH (eff τ) q 0 0 0))))).toInt64))), (11, .int (iI (min (mH (eff τ) p 0 1 0) (mH (eff τ) q 0 1 0)))), (10, .int (iI (max (mH (eff τ) p 0 0 0) (mH (eff τ) q 0 0 0)))), (0, .ref (ad 7 0)), (1, .int (iI p)), (2, .int (iI q))]) hx hb dX2_common_92 hl (by decide) rfl (fun ls hl => ?_)
              refine W.cut (g2 := F0 mI 108 ls [.int (iI (max (mH (eff τ) p 1 0 0) (mH (eff τ) q 1 0 0)))]) ?_ (fun key15 => ?_)
              · refine lv_istore (lv' := [(10, .int (iI (max (mH (eff τ) p 1 0 0) (mH (eff τ) q 1 0 0)))), (9, .int (iI (mH (eff τ) q 1 1 0))), (8, .int (iI (mH (eff τ) p 1 1 0))), (7, .int (iI (mH (eff τ) q 1 0 0))), (6, .int (iI (mH (eff τ) p 1 0 0))), (5, .int (iI 1)), (3, .long (1 * ((iI (max 0 (min (mH (eff τ) p 0 1 0) (mH (eff τ) q 0 1 0) - (max (mH (eff τ) p 0 0 0) (mH (eff τ) q 0 0 0))))).toInt64))), (11, .int (iI (min (mH (eff τ) p 0 1 0) (mH (eff τ) q 0 1 0)))), (0, .ref (ad 7 0)), (1, .int (iI p)), (2, .int (iI q))]) hx hb dX2_common_108 hl (by decide) rfl (fun ls hl => ?_)
                refine W.cut (g2 := F0 mI 124 ls [.int (iI (min (mH (eff τ) p 1 1 0) (mH (eff τ) q 1 1 0)))]) ?_ (fun key16 => ?_)
                · refine lv_istore (lv' := [(11, .int (iI (min (mH (eff τ) p 1 1 0) (mH (eff τ) q 1 1 0)))), (10, .int (iI (max (mH (eff τ) p 1 0 0) (mH (eff τ) q 1 0 0)))), (9, .int (iI (mH (eff τ) q 1 1 0))), (8, .int (iI (mH (eff τ) p 1 1 0))), (7, .int (iI (mH (eff τ) q 1 0 0))), (6, .int (iI (mH (eff τ) p 1 0 0))), (5, .int (iI 1)), (3, .long (1 * ((iI (max 0 (min (mH (eff τ) p 0 1 0) (mH (eff τ) q 0 1 0) - (max (mH (eff τ) p 0 0 0) (mH (eff τ) q 0 0 0))))).toInt64))), (0, .ref (ad 7 0)), (1, .int (iI p)), (2, .int (iI q))]) hx hb dX2_common_124 hl (by decide) rfl (fun ls hl => ?_)
                  refine lv_lload_n hx hb dX2_common_126 rfl (lv_at hl 7 rfl) ?_
                  refine W.cut (g2 := F0 mI 144 ls [.long ((iI (max 0 (min (mH (eff τ) p 1 1 0) (mH (eff τ) q 1 1 0) - (max (mH (eff τ) p 1 0 0) (mH (eff τ) q 1 0 0))))).toInt64), .long (1 * ((iI (max 0 (min (mH (eff τ) p 0 1 0) (mH (eff τ) q 0 1 0) - (max (mH (eff τ) p 0 0 0) (mH (eff τ) q 0 0 0))))).toInt64))]) ?_ (fun key17 => ?_)
                  · refine lv_lmul hx hb dX2_common_144 ?_
                    refine lv_lstore_n (lv' := [(3, .long ((1 * ((iI (max 0 (min (mH (eff τ) p 0 1 0) (mH (eff τ) q 0 1 0) - (max (mH (eff τ) p 0 0 0) (mH (eff τ) q 0 0 0))))).toInt64)) * ((iI (max 0 (min (mH (eff τ) p 1 1 0) (mH (eff τ) q 1 1 0) - (max (mH (eff τ) p 1 0 0) (mH (eff τ) q 1 0 0))))).toInt64))), (11, .int (iI (min (mH (eff τ) p 1 1 0) (mH (eff τ) q 1 1 0)))), (10, .int (iI (max (mH (eff τ) p 1 0 0) (mH (eff τ) q 1 0 0)))), (9, .int (iI (mH (eff τ) q 1 1 0))), (8, .int (iI (mH (eff τ) p 1 1 0))), (7, .int (iI (mH (eff τ) q 1 0 0))), (6, .int (iI (mH (eff τ) p 1 0 0))), (5, .int (iI 1)), (0, .ref (ad 7 0)), (1, .int (iI p)), (2, .int (iI q))]) hx hb dX2_common_145 rfl hl (by decide) rfl (fun ls hl => ?_)
                    refine li_iinc (k0 := 7) (lv' := [(5, .int (iI (1 + 1))), (3, .long ((1 * ((iI (max 0 (min (mH (eff τ) p 0 1 0) (mH (eff τ) q 0 1 0) - (max (mH (eff τ) p 0 0 0) (mH (eff τ) q 0 0 0))))).toInt64)) * ((iI (max 0 (min (mH (eff τ) p 1 1 0) (mH (eff τ) q 1 1 0) - (max (mH (eff τ) p 1 0 0) (mH (eff τ) q 1 0 0))))).toInt64))), (11, .int (iI (min (mH (eff τ) p 1 1 0) (mH (eff τ) q 1 1 0)))), (10, .int (iI (max (mH (eff τ) p 1 0 0) (mH (eff τ) q 1 0 0)))), (9, .int (iI (mH (eff τ) q 1 1 0))), (8, .int (iI (mH (eff τ) p 1 1 0))), (7, .int (iI (mH (eff τ) q 1 0 0))), (6, .int (iI (mH (eff τ) p 1 0 0))), (0, .ref (ad 7 0)), (1, .int (iI p)), (2, .int (iI q))]) hx hb dX2_common_146 hl rfl (by decide) rfl (fun ls hl => ?_)
                    have hl : lv_has ls 12 [(5, .int (iI 2)), (3, .long ((1 * ((iI (max 0 (min (mH (eff τ) p 0 1 0) (mH (eff τ) q 0 1 0) - (max (mH (eff τ) p 0 0 0) (mH (eff τ) q 0 0 0))))).toInt64)) * ((iI (max 0 (min (mH (eff τ) p 1 1 0) (mH (eff τ) q 1 1 0) - (max (mH (eff τ) p 1 0 0) (mH (eff τ) q 1 0 0))))).toInt64))), (11, .int (iI (min (mH (eff τ) p 1 1 0) (mH (eff τ) q 1 1 0)))), (10, .int (iI (max (mH (eff τ) p 1 0 0) (mH (eff τ) q 1 0 0)))), (9, .int (iI (mH (eff τ) q 1 1 0))), (8, .int (iI (mH (eff τ) p 1 1 0))), (7, .int (iI (mH (eff τ) q 1 0 0))), (6, .int (iI (mH (eff τ) p 1 0 0))), (0, .ref (ad 7 0)), (1, .int (iI p)), (2, .int (iI q))] := hl
                    refine lv_goto (tgt := 44) hx hb dX2_common_149 (by decide) ?_
                    refine lv_iload hx hb dX2_common_44 (lv_at hl 0 rfl) ?_
                    refine li_iconst hx hb dX2_common_46 ?_
                    refine li_icmp_ge (tgt := 152) hx hb (by unfold iR; omega) (by unfold iR; omega) dX2_common_47 (by decide) (fun h => absurd h (by decide)) (fun _ => ?_)
                    refine lv_aload_n hx hb dX2_common_50 rfl (lv_at hl 8 rfl) ?_
                    refine lv_iload_n hx hb dX2_common_51 rfl (lv_at hl 9 rfl) ?_
                    refine lv_iload hx hb dX2_common_52 (lv_at hl 0 rfl) ?_
                    refine li_iconst hx hb dX2_common_54 ?_
                    refine li_iconst hx hb dX2_common_55 ?_
                    refine bc_V (As := [.int (iI p), .int (iI 2), .int (iI 0), .int (iI 0)]) (rest := []) (kd := 7) (k := 0) (ci := 2) ⟨hx, hb, hml, hown, hts⟩ (c_X2_hullEnd l g ad σ τ (w.1, 0) p 2 0 0 h1 hBt hM (by omega) (by omega) (by omega)) (cwV 4 hts gX2_common_X2_hullEnd rfl rfl rfl (by decide +kernel) ⟨Nat.le_of_ble_eq_true rfl, Nat.le_of_ble_eq_true rfl⟩) hK hU (bx_L0 (by omega)) rfl rfl rfl hl.1 rfl (Nat.le_of_ble_eq_true rfl) dX2_common_56 ⟨Nat.le_of_ble_eq_true rfl, Nat.le_of_ble_eq_true rfl⟩ ?_
                    have h18 := mH_bd hBt hM h1 (a := 2) (hi := 0) (gr := 0) (by omega) (by omega) (by omega)
                    refine lv_istore (lv' := [(6, .int (iI (mH (eff τ) p 2 0 0))), (5, .int (iI 2)), (3, .long ((1 * ((iI (max 0 (min (mH (eff τ) p 0 1 0) (mH (eff τ) q 0 1 0) - (max (mH (eff τ) p 0 0 0) (mH (eff τ) q 0 0 0))))).toInt64)) * ((iI (max 0 (min (mH (eff τ) p 1 1 0) (mH (eff τ) q 1 1 0) - (max (mH (eff τ) p 1 0 0) (mH (eff τ) q 1 0 0))))).toInt64))), (11, .int (iI (min (mH (eff τ) p 1 1 0) (mH (eff τ) q 1 1 0)))), (10, .int (iI (max (mH (eff τ) p 1 0 0) (mH (eff τ) q 1 0 0)))), (9, .int (iI (mH (eff τ) q 1 1 0))), (8, .int (iI (mH (eff τ) p 1 1 0))), (7, .int (iI (mH (eff τ) q 1 0 0))), (0, .ref (ad 7 0)), (1, .int (iI p)), (2, .int (iI q))]) hx hb dX2_common_59 hl (by decide) rfl (fun ls hl => ?_)
                    refine lv_aload_n hx hb dX2_common_61 rfl (lv_at hl 8 rfl) ?_
                    refine lv_iload_n hx hb dX2_common_62 rfl (lv_at hl 10 rfl) ?_
                    refine lv_iload hx hb dX2_common_63 (lv_at hl 1 rfl) ?_
                    refine li_iconst hx hb dX2_common_65 ?_
                    refine li_iconst hx hb dX2_common_66 ?_
                    refine bc_V (As := [.int (iI q), .int (iI 2), .int (iI 0), .int (iI 0)]) (rest := []) (kd := 7) (k := 0) (ci := 2) ⟨hx, hb, hml, hown, hts⟩ (c_X2_hullEnd l g ad σ τ (w.1, 0) q 2 0 0 h2 hBt hM (by omega) (by omega) (by omega)) (cwV 4 hts gX2_common_X2_hullEnd rfl rfl rfl (by decide +kernel) ⟨Nat.le_of_ble_eq_true rfl, Nat.le_of_ble_eq_true rfl⟩) hK hU (bx_L0 (by omega)) rfl rfl rfl hl.1 rfl (Nat.le_of_ble_eq_true rfl) dX2_common_67 ⟨Nat.le_of_ble_eq_true rfl, Nat.le_of_ble_eq_true rfl⟩ ?_
                    have h19 := mH_bd hBt hM h2 (a := 2) (hi := 0) (gr := 0) (by omega) (by omega) (by omega)
                    refine lv_istore (lv' := [(7, .int (iI (mH (eff τ) q 2 0 0))), (6, .int (iI (mH (eff τ) p 2 0 0))), (5, .int (iI 2)), (3, .long ((1 * ((iI (max 0 (min (mH (eff τ) p 0 1 0) (mH (eff τ) q 0 1 0) - (max (mH (eff τ) p 0 0 0) (mH (eff τ) q 0 0 0))))).toInt64)) * ((iI (max 0 (min (mH (eff τ) p 1 1 0) (mH (eff τ) q 1 1 0) - (max (mH (eff τ) p 1 0 0) (mH (eff τ) q 1 0 0))))).toInt64))), (11, .int (iI (min (mH (eff τ) p 1 1 0) (mH (eff τ) q 1 1 0)))), (10, .int (iI (max (mH (eff τ) p 1 0 0) (mH (eff τ) q 1 0 0)))), (9, .int (iI (mH (eff τ) q 1 1 0))), (8, .int (iI (mH (eff τ) p 1 1 0))), (0, .ref (ad 7 0)), (1, .int (iI p)), (2, .int (iI q))]) hx hb dX2_common_70 hl (by decide) rfl (fun ls hl => ?_)
                    refine lv_aload_n hx hb dX2_common_72 rfl (lv_at hl 8 rfl) ?_
                    refine lv_iload_n hx hb dX2_common_73 rfl (lv_at hl 9 rfl) ?_
                    refine lv_iload hx hb dX2_common_74 (lv_at hl 2 rfl) ?_
                    refine li_iconst hx hb dX2_common_76 ?_
                    refine li_iconst hx hb dX2_common_77 ?_
                    refine bc_V (As := [.int (iI p), .int (iI 2), .int (iI 1), .int (iI 0)]) (rest := []) (kd := 7) (k := 0) (ci := 2) ⟨hx, hb, hml, hown, hts⟩ (c_X2_hullEnd l g ad σ τ (w.1, 0) p 2 1 0 h1 hBt hM (by omega) (by omega) (by omega)) (cwV 4 hts gX2_common_X2_hullEnd rfl rfl rfl (by decide +kernel) ⟨Nat.le_of_ble_eq_true rfl, Nat.le_of_ble_eq_true rfl⟩) hK hU (bx_L0 (by omega)) rfl rfl rfl hl.1 rfl (Nat.le_of_ble_eq_true rfl) dX2_common_78 ⟨Nat.le_of_ble_eq_true rfl, Nat.le_of_ble_eq_true rfl⟩ ?_
                    have h20 := mH_bd hBt hM h1 (a := 2) (hi := 1) (gr := 0) (by omega) (by omega) (by omega)
                    refine lv_istore (lv' := [(8, .int (iI (mH (eff τ) p 2 1 0))), (7, .int (iI (mH (eff τ) q 2 0 0))), (6, .int (iI (mH (eff τ) p 2 0 0))), (5, .int (iI 2)), (3, .long ((1 * ((iI (max 0 (min (mH (eff τ) p 0 1 0) (mH (eff τ) q 0 1 0) - (max (mH (eff τ) p 0 0 0) (mH (eff τ) q 0 0 0))))).toInt64)) * ((iI (max 0 (min (mH (eff τ) p 1 1 0) (mH (eff τ) q 1 1 0) - (max (mH (eff τ) p 1 0 0) (mH (eff τ) q 1 0 0))))).toInt64))), (11, .int (iI (min (mH (eff τ) p 1 1 0) (mH (eff τ) q 1 1 0)))), (10, .int (iI (max (mH (eff τ) p 1 0 0) (mH (eff τ) q 1 0 0)))), (9, .int (iI (mH (eff τ) q 1 1 0))), (0, .ref (ad 7 0)), (1, .int (iI p)), (2, .int (iI q))]) hx hb dX2_common_81 hl (by decide) rfl (fun ls hl => ?_)
                    refine lv_aload_n hx hb dX2_common_83 rfl (lv_at hl 8 rfl) ?_
                    refine lv_iload_n hx hb dX2_common_84 rfl (lv_at hl 10 rfl) ?_
                    refine lv_iload hx hb dX2_common_85 (lv_at hl 3 rfl) ?_
                    refine li_iconst hx hb dX2_common_87 ?_
                    refine li_iconst hx hb dX2_common_88 ?_
                    refine bc_V (As := [.int (iI q), .int (iI 2), .int (iI 1), .int (iI 0)]) (rest := []) (kd := 7) (k := 0) (ci := 2) ⟨hx, hb, hml, hown, hts⟩ (c_X2_hullEnd l g ad σ τ (w.1, 0) q 2 1 0 h2 hBt hM (by omega) (by omega) (by omega)) (cwV 4 hts gX2_common_X2_hullEnd rfl rfl rfl (by decide +kernel) ⟨Nat.le_of_ble_eq_true rfl, Nat.le_of_ble_eq_true rfl⟩) hK hU (bx_L0 (by omega)) rfl rfl rfl hl.1 rfl (Nat.le_of_ble_eq_true rfl) dX2_common_89 ⟨Nat.le_of_ble_eq_true rfl, Nat.le_of_ble_eq_true rfl⟩ ?_
                    have h21 := mH_bd hBt hM h2 (a := 2) (hi := 1) (gr := 0) (by omega) (by omega) (by omega)
                    refine lv_istore (lv' := [(9, .int (iI (mH (eff τ) q 2 1 0))), (8, .int (iI (mH (eff τ) p 2 1 0))), (7, .int (iI (mH (eff τ) q 2 0 0))), (6, .int (iI (mH (eff τ) p 2 0 0))), (5, .int (iI 2)), (3, .long ((1 * ((iI (max 0 (min (mH (eff τ) p 0 1 0) (mH (eff τ) q 0 1 0) - (max (mH (eff τ) p 0 0 0) (mH (eff τ) q 0 0 0))))).toInt64)) * ((iI (max 0 (min (mH (eff τ) p 1 1 0) (mH (eff τ) q 1 1 0) - (max (mH (eff τ) p 1 0 0) (mH (eff τ) q 1 0 0))))).toInt64))), (11, .int (iI (min (mH (eff τ) p 1 1 0) (mH (eff τ) q 1 1 0)))), (10, .int (iI (max (mH (eff τ) p 1 0 0) (mH (eff τ) q 1 0 0)))), (0, .ref (ad 7 0)), (1, .int (iI p)), (2, .int (iI q))]) hx hb dX2_common_92 hl (by decide) rfl (fun ls hl => ?_)
                    refine W.cut (g2 := F0 mI 108 ls [.int (iI (max (mH (eff τ) p 2 0 0) (mH (eff τ) q 2 0 0)))]) ?_ (fun key22 => ?_)
                    · refine lv_istore (lv' := [(10, .int (iI (max (mH (eff τ) p 2 0 0) (mH (eff τ) q 2 0 0)))), (9, .int (iI (mH (eff τ) q 2 1 0))), (8, .int (iI (mH (eff τ) p 2 1 0))), (7, .int (iI (mH (eff τ) q 2 0 0))), (6, .int (iI (mH (eff τ) p 2 0 0))), (5, .int (iI 2)), (3, .long ((1 * ((iI (max 0 (min (mH (eff τ) p 0 1 0) (mH (eff τ) q 0 1 0) - (max (mH (eff τ) p 0 0 0) (mH (eff τ) q 0 0 0))))).toInt64)) * ((iI (max 0 (min (mH (eff τ) p 1 1 0) (mH (eff τ) q 1 1 0) - (max (mH (eff τ) p 1 0 0) (mH (eff τ) q 1 0 0))))).toInt64))), (11, .int (iI (min (mH (eff τ) p 1 1 0) (mH (eff τ) q 1 1 0)))), (0, .ref (ad 7 0)), (1, .int (iI p)), (2, .int (iI q))]) hx hb dX2_common_108 hl (by decide) rfl (fun ls hl => ?_)
                      refine W.cut (g2 := F0 mI 124 ls [.int (iI (min (mH (eff τ) p 2 1 0) (mH (eff τ) q 2 1 0)))]) ?_ (fun key23 => ?_)
                      · refine lv_istore (lv' := [(11, .int (iI (min (mH (eff τ) p 2 1 0) (mH (eff τ) q 2 1 0)))), (10, .int (iI (max (mH (eff τ) p 2 0 0) (mH (eff τ) q 2 0 0)))), (9, .int (iI (mH (eff τ) q 2 1 0))), (8, .int (iI (mH (eff τ) p 2 1 0))), (7, .int (iI (mH (eff τ) q 2 0 0))), (6, .int (iI (mH (eff τ) p 2 0 0))), (5, .int (iI 2)), (3, .long ((1 * ((iI (max 0 (min (mH (eff τ) p 0 1 0) (mH (eff τ) q 0 1 0) - (max (mH (eff τ) p 0 0 0) (mH (eff τ) q 0 0 0))))).toInt64)) * ((iI (max 0 (min (mH (eff τ) p 1 1 0) (mH (eff τ) q 1 1 0) - (max (mH (eff τ) p 1 0 0) (mH (eff τ) q 1 0 0))))).toInt64))), (0, .ref (ad 7 0)), (1, .int (iI p)), (2, .int (iI q))]) hx hb dX2_common_124 hl (by decide) rfl (fun ls hl => ?_)
                        refine lv_lload_n hx hb dX2_common_126 rfl (lv_at hl 7 rfl) ?_
                        refine W.cut (g2 := F0 mI 144 ls [.long ((iI (max 0 (min (mH (eff τ) p 2 1 0) (mH (eff τ) q 2 1 0) - (max (mH (eff τ) p 2 0 0) (mH (eff τ) q 2 0 0))))).toInt64), .long ((1 * ((iI (max 0 (min (mH (eff τ) p 0 1 0) (mH (eff τ) q 0 1 0) - (max (mH (eff τ) p 0 0 0) (mH (eff τ) q 0 0 0))))).toInt64)) * ((iI (max 0 (min (mH (eff τ) p 1 1 0) (mH (eff τ) q 1 1 0) - (max (mH (eff τ) p 1 0 0) (mH (eff τ) q 1 0 0))))).toInt64))]) ?_ (fun key24 => ?_)
                        · refine lv_lmul hx hb dX2_common_144 ?_
                          refine lv_lstore_n (lv' := [(3, .long (((1 * ((iI (max 0 (min (mH (eff τ) p 0 1 0) (mH (eff τ) q 0 1 0) - (max (mH (eff τ) p 0 0 0) (mH (eff τ) q 0 0 0))))).toInt64)) * ((iI (max 0 (min (mH (eff τ) p 1 1 0) (mH (eff τ) q 1 1 0) - (max (mH (eff τ) p 1 0 0) (mH (eff τ) q 1 0 0))))).toInt64)) * ((iI (max 0 (min (mH (eff τ) p 2 1 0) (mH (eff τ) q 2 1 0) - (max (mH (eff τ) p 2 0 0) (mH (eff τ) q 2 0 0))))).toInt64))), (11, .int (iI (min (mH (eff τ) p 2 1 0) (mH (eff τ) q 2 1 0)))), (10, .int (iI (max (mH (eff τ) p 2 0 0) (mH (eff τ) q 2 0 0)))), (9, .int (iI (mH (eff τ) q 2 1 0))), (8, .int (iI (mH (eff τ) p 2 1 0))), (7, .int (iI (mH (eff τ) q 2 0 0))), (6, .int (iI (mH (eff τ) p 2 0 0))), (5, .int (iI 2)), (0, .ref (ad 7 0)), (1, .int (iI p)), (2, .int (iI q))]) hx hb dX2_common_145 rfl hl (by decide) rfl (fun ls hl => ?_)
                          refine li_iinc (k0 := 7) (lv' := [(5, .int (iI (2 + 1))), (3, .long (((1 * ((iI (max 0 (min (mH (eff τ) p 0 1 0) (mH (eff τ) q 0 1 0) - (max (mH (eff τ) p 0 0 0) (mH (eff τ) q 0 0 0))))).toInt64)) * ((iI (max 0 (min (mH (eff τ) p 1 1 0) (mH (eff τ) q 1 1 0) - (max (mH (eff τ) p 1 0 0) (mH (eff τ) q 1 0 0))))).toInt64)) * ((iI (max 0 (min (mH (eff τ) p 2 1 0) (mH (eff τ) q 2 1 0) - (max (mH (eff τ) p 2 0 0) (mH (eff τ) q 2 0 0))))).toInt64))), (11, .int (iI (min (mH (eff τ) p 2 1 0) (mH (eff τ) q 2 1 0)))), (10, .int (iI (max (mH (eff τ) p 2 0 0) (mH (eff τ) q 2 0 0)))), (9, .int (iI (mH (eff τ) q 2 1 0))), (8, .int (iI (mH (eff τ) p 2 1 0))), (7, .int (iI (mH (eff τ) q 2 0 0))), (6, .int (iI (mH (eff τ) p 2 0 0))), (0, .ref (ad 7 0)), (1, .int (iI p)), (2, .int (iI q))]) hx hb dX2_common_146 hl rfl (by decide) rfl (fun ls hl => ?_)
                          have hl : lv_has ls 12 [(5, .int (iI 3)), (3, .long (((1 * ((iI (max 0 (min (mH (eff τ) p 0 1 0) (mH (eff τ) q 0 1 0) - (max (mH (eff τ) p 0 0 0) (mH (eff τ) q 0 0 0))))).toInt64)) * ((iI (max 0 (min (mH (eff τ) p 1 1 0) (mH (eff τ) q 1 1 0) - (max (mH (eff τ) p 1 0 0) (mH (eff τ) q 1 0 0))))).toInt64)) * ((iI (max 0 (min (mH (eff τ) p 2 1 0) (mH (eff τ) q 2 1 0) - (max (mH (eff τ) p 2 0 0) (mH (eff τ) q 2 0 0))))).toInt64))), (11, .int (iI (min (mH (eff τ) p 2 1 0) (mH (eff τ) q 2 1 0)))), (10, .int (iI (max (mH (eff τ) p 2 0 0) (mH (eff τ) q 2 0 0)))), (9, .int (iI (mH (eff τ) q 2 1 0))), (8, .int (iI (mH (eff τ) p 2 1 0))), (7, .int (iI (mH (eff τ) q 2 0 0))), (6, .int (iI (mH (eff τ) p 2 0 0))), (0, .ref (ad 7 0)), (1, .int (iI p)), (2, .int (iI q))] := hl
                          refine lv_goto (tgt := 44) hx hb dX2_common_149 (by decide) ?_
                          refine lv_iload hx hb dX2_common_44 (lv_at hl 0 rfl) ?_
                          refine li_iconst hx hb dX2_common_46 ?_
                          refine li_icmp_ge (tgt := 152) hx hb (by unfold iR; omega) (by unfold iR; omega) dX2_common_47 (by decide) (fun _ => ?_) (fun h => absurd (by decide) h)
                          refine lv_lload_n hx hb dX2_common_152 rfl (lv_at hl 1 rfl) ?_
                          refine bw_l hx hb hr hlocks (by first | exact hU | simpa using hU) hF hlc ?_ dX2_common_153
                          rfl
                        · refine lv_iload hx hb dX2_common_127 (lv_at hl 0 rfl) ?_
                          refine lv_iload hx hb dX2_common_129 (lv_at hl 1 rfl) ?_
                          refine li_icmp_le (tgt := 143) hx hb (by unfold iR; omega) (by unfold iR; omega) dX2_common_131 (by decide) (fun h25 => ?_) (fun h25 => ?_)
                          · refine lv_lconst (v := 0) hx hb dX2_common_143 (by decide) ?_
                            exact W.eq (by rw [show (iI (max 0 (min (mH (eff τ) p 2 1 0) (mH (eff τ) q 2 1 0) - (max (mH (eff τ) p 2 0 0) (mH (eff τ) q 2 0 0))))).toInt64 = 0 by first | (rw [show max 0 ((min (mH (eff τ) p 2 1 0) (mH (eff τ) q 2 1 0)) - (max (mH (eff τ) p 2 0 0) (mH (eff τ) q 2 0 0))) = (min (mH (eff τ) p 2 1 0) (mH (eff τ) q 2 1 0)) - (max (mH (eff τ) p 2 0 0) (mH (eff τ) q 2 0 0)) by omega]) | (rw [show max 0 ((min (mH (eff τ) p 2 1 0) (mH (eff τ) q 2 1 0)) - (max (mH (eff τ) p 2 0 0) (mH (eff τ) q 2 0 0))) = 0 by omega]; decide)]) key24
                          · refine lv_iload hx hb dX2_common_134 (lv_at hl 0 rfl) ?_
                            refine lv_iload hx hb dX2_common_136 (lv_at hl 1 rfl) ?_
                            refine li_isub hx hb dX2_common_138 ?_
                            refine lv_i2l (v := (iI ((min (mH (eff τ) p 2 1 0) (mH (eff τ) q 2 1 0)) - (max (mH (eff τ) p 2 0 0) (mH (eff τ) q 2 0 0)))).toInt64) hx hb dX2_common_139 rfl ?_
                            refine lv_goto (tgt := 144) hx hb dX2_common_140 (by decide) ?_
                            exact W.eq (by rw [show (iI (max 0 (min (mH (eff τ) p 2 1 0) (mH (eff τ) q 2 1 0) - (max (mH (eff τ) p 2 0 0) (mH (eff τ) q 2 0 0))))).toInt64 = (iI ((min (mH (eff τ) p 2 1 0) (mH (eff τ) q 2 1 0)) - (max (mH (eff τ) p 2 0 0) (mH (eff τ) q 2 0 0)))).toInt64 by first | (rw [show max 0 ((min (mH (eff τ) p 2 1 0) (mH (eff τ) q 2 1 0)) - (max (mH (eff τ) p 2 0 0) (mH (eff τ) q 2 0 0))) = (min (mH (eff τ) p 2 1 0) (mH (eff τ) q 2 1 0)) - (max (mH (eff τ) p 2 0 0) (mH (eff τ) q 2 0 0)) by omega]) | (rw [show max 0 ((min (mH (eff τ) p 2 1 0) (mH (eff τ) q 2 1 0)) - (max (mH (eff τ) p 2 0 0) (mH (eff τ) q 2 0 0))) = 0 by omega]; decide)]) key24
                      · refine lv_iload hx hb dX2_common_110 (lv_at hl 2 rfl) ?_
                        refine lv_iload hx hb dX2_common_112 (lv_at hl 1 rfl) ?_
                        refine li_icmp_ge (tgt := 122) hx hb (by unfold iR; omega) (by unfold iR; omega) dX2_common_114 (by decide) (fun h26 => ?_) (fun h26 => ?_)
                        · refine lv_iload hx hb dX2_common_122 (lv_at hl 1 rfl) ?_
                          exact W.eq (by rw [show min (mH (eff τ) p 2 1 0) (mH (eff τ) q 2 1 0) = mH (eff τ) q 2 1 0 by omega]) key23
                        · refine lv_iload hx hb dX2_common_117 (lv_at hl 2 rfl) ?_
                          refine lv_goto (tgt := 124) hx hb dX2_common_119 (by decide) ?_
                          exact W.eq (by rw [show min (mH (eff τ) p 2 1 0) (mH (eff τ) q 2 1 0) = mH (eff τ) p 2 1 0 by omega]) key23
                    · refine lv_iload hx hb dX2_common_94 (lv_at hl 3 rfl) ?_
                      refine lv_iload hx hb dX2_common_96 (lv_at hl 2 rfl) ?_
                      refine li_icmp_le (tgt := 106) hx hb (by unfold iR; omega) (by unfold iR; omega) dX2_common_98 (by decide) (fun h27 => ?_) (fun h27 => ?_)
                      · refine lv_iload hx hb dX2_common_106 (lv_at hl 2 rfl) ?_
                        exact W.eq (by rw [show max (mH (eff τ) p 2 0 0) (mH (eff τ) q 2 0 0) = mH (eff τ) q 2 0 0 by omega]) key22
                      · refine lv_iload hx hb dX2_common_101 (lv_at hl 3 rfl) ?_
                        refine lv_goto (tgt := 108) hx hb dX2_common_103 (by decide) ?_
                        exact W.eq (by rw [show max (mH (eff τ) p 2 0 0) (mH (eff τ) q 2 0 0) = mH (eff τ) p 2 0 0 by omega]) key22
                  · refine lv_iload hx hb dX2_common_127 (lv_at hl 0 rfl) ?_
                    refine lv_iload hx hb dX2_common_129 (lv_at hl 1 rfl) ?_
                    refine li_icmp_le (tgt := 143) hx hb (by unfold iR; omega) (by unfold iR; omega) dX2_common_131 (by decide) (fun h28 => ?_) (fun h28 => ?_)
                    · refine lv_lconst (v := 0) hx hb dX2_common_143 (by decide) ?_
                      exact W.eq (by rw [show (iI (max 0 (min (mH (eff τ) p 1 1 0) (mH (eff τ) q 1 1 0) - (max (mH (eff τ) p 1 0 0) (mH (eff τ) q 1 0 0))))).toInt64 = 0 by first | (rw [show max 0 ((min (mH (eff τ) p 1 1 0) (mH (eff τ) q 1 1 0)) - (max (mH (eff τ) p 1 0 0) (mH (eff τ) q 1 0 0))) = (min (mH (eff τ) p 1 1 0) (mH (eff τ) q 1 1 0)) - (max (mH (eff τ) p 1 0 0) (mH (eff τ) q 1 0 0)) by omega]) | (rw [show max 0 ((min (mH (eff τ) p 1 1 0) (mH (eff τ) q 1 1 0)) - (max (mH (eff τ) p 1 0 0) (mH (eff τ) q 1 0 0))) = 0 by omega]; decide)]) key17
                    · refine lv_iload hx hb dX2_common_134 (lv_at hl 0 rfl) ?_
                      refine lv_iload hx hb dX2_common_136 (lv_at hl 1 rfl) ?_
                      refine li_isub hx hb dX2_common_138 ?_
                      refine lv_i2l (v := (iI ((min (mH (eff τ) p 1 1 0) (mH (eff τ) q 1 1 0)) - (max (mH (eff τ) p 1 0 0) (mH (eff τ) q 1 0 0)))).toInt64) hx hb dX2_common_139 rfl ?_
                      refine lv_goto (tgt := 144) hx hb dX2_common_140 (by decide) ?_
                      exact W.eq (by rw [show (iI (max 0 (min (mH (eff τ) p 1 1 0) (mH (eff τ) q 1 1 0) - (max (mH (eff τ) p 1 0 0) (mH (eff τ) q 1 0 0))))).toInt64 = (iI ((min (mH (eff τ) p 1 1 0) (mH (eff τ) q 1 1 0)) - (max (mH (eff τ) p 1 0 0) (mH (eff τ) q 1 0 0)))).toInt64 by first | (rw [show max 0 ((min (mH (eff τ) p 1 1 0) (mH (eff τ) q 1 1 0)) - (max (mH (eff τ) p 1 0 0) (mH (eff τ) q 1 0 0))) = (min (mH (eff τ) p 1 1 0) (mH (eff τ) q 1 1 0)) - (max (mH (eff τ) p 1 0 0) (mH (eff τ) q 1 0 0)) by omega]) | (rw [show max 0 ((min (mH (eff τ) p 1 1 0) (mH (eff τ) q 1 1 0)) - (max (mH (eff τ) p 1 0 0) (mH (eff τ) q 1 0 0))) = 0 by omega]; decide)]) key17
                · refine lv_iload hx hb dX2_common_110 (lv_at hl 2 rfl) ?_
                  refine lv_iload hx hb dX2_common_112 (lv_at hl 1 rfl) ?_
                  refine li_icmp_ge (tgt := 122) hx hb (by unfold iR; omega) (by unfold iR; omega) dX2_common_114 (by decide) (fun h29 => ?_) (fun h29 => ?_)
                  · refine lv_iload hx hb dX2_common_122 (lv_at hl 1 rfl) ?_
                    exact W.eq (by rw [show min (mH (eff τ) p 1 1 0) (mH (eff τ) q 1 1 0) = mH (eff τ) q 1 1 0 by omega]) key16
                  · refine lv_iload hx hb dX2_common_117 (lv_at hl 2 rfl) ?_
                    refine lv_goto (tgt := 124) hx hb dX2_common_119 (by decide) ?_
                    exact W.eq (by rw [show min (mH (eff τ) p 1 1 0) (mH (eff τ) q 1 1 0) = mH (eff τ) p 1 1 0 by omega]) key16
              · refine lv_iload hx hb dX2_common_94 (lv_at hl 3 rfl) ?_
                refine lv_iload hx hb dX2_common_96 (lv_at hl 2 rfl) ?_
                refine li_icmp_le (tgt := 106) hx hb (by unfold iR; omega) (by unfold iR; omega) dX2_common_98 (by decide) (fun h30 => ?_) (fun h30 => ?_)
                · refine lv_iload hx hb dX2_common_106 (lv_at hl 2 rfl) ?_
                  exact W.eq (by rw [show max (mH (eff τ) p 1 0 0) (mH (eff τ) q 1 0 0) = mH (eff τ) q 1 0 0 by omega]) key15
                · refine lv_iload hx hb dX2_common_101 (lv_at hl 3 rfl) ?_
                  refine lv_goto (tgt := 108) hx hb dX2_common_103 (by decide) ?_
                  exact W.eq (by rw [show max (mH (eff τ) p 1 0 0) (mH (eff τ) q 1 0 0) = mH (eff τ) p 1 0 0 by omega]) key15
            · refine lv_iload hx hb dX2_common_127 (lv_at hl 0 rfl) ?_
              refine lv_iload hx hb dX2_common_129 (lv_at hl 1 rfl) ?_
              refine li_icmp_le (tgt := 143) hx hb (by unfold iR; omega) (by unfold iR; omega) dX2_common_131 (by decide) (fun h31 => ?_) (fun h31 => ?_)
              · refine lv_lconst (v := 0) hx hb dX2_common_143 (by decide) ?_
                exact W.eq (by rw [show (iI (max 0 (min (mH (eff τ) p 0 1 0) (mH (eff τ) q 0 1 0) - (max (mH (eff τ) p 0 0 0) (mH (eff τ) q 0 0 0))))).toInt64 = 0 by first | (rw [show max 0 ((min (mH (eff τ) p 0 1 0) (mH (eff τ) q 0 1 0)) - (max (mH (eff τ) p 0 0 0) (mH (eff τ) q 0 0 0))) = (min (mH (eff τ) p 0 1 0) (mH (eff τ) q 0 1 0)) - (max (mH (eff τ) p 0 0 0) (mH (eff τ) q 0 0 0)) by omega]) | (rw [show max 0 ((min (mH (eff τ) p 0 1 0) (mH (eff τ) q 0 1 0)) - (max (mH (eff τ) p 0 0 0) (mH (eff τ) q 0 0 0))) = 0 by omega]; decide)]) key10
              · refine lv_iload hx hb dX2_common_134 (lv_at hl 0 rfl) ?_
                refine lv_iload hx hb dX2_common_136 (lv_at hl 1 rfl) ?_
                refine li_isub hx hb dX2_common_138 ?_
                refine lv_i2l (v := (iI ((min (mH (eff τ) p 0 1 0) (mH (eff τ) q 0 1 0)) - (max (mH (eff τ) p 0 0 0) (mH (eff τ) q 0 0 0)))).toInt64) hx hb dX2_common_139 rfl ?_
                refine lv_goto (tgt := 144) hx hb dX2_common_140 (by decide) ?_
                exact W.eq (by rw [show (iI (max 0 (min (mH (eff τ) p 0 1 0) (mH (eff τ) q 0 1 0) - (max (mH (eff τ) p 0 0 0) (mH (eff τ) q 0 0 0))))).toInt64 = (iI ((min (mH (eff τ) p 0 1 0) (mH (eff τ) q 0 1 0)) - (max (mH (eff τ) p 0 0 0) (mH (eff τ) q 0 0 0)))).toInt64 by first | (rw [show max 0 ((min (mH (eff τ) p 0 1 0) (mH (eff τ) q 0 1 0)) - (max (mH (eff τ) p 0 0 0) (mH (eff τ) q 0 0 0))) = (min (mH (eff τ) p 0 1 0) (mH (eff τ) q 0 1 0)) - (max (mH (eff τ) p 0 0 0) (mH (eff τ) q 0 0 0)) by omega]) | (rw [show max 0 ((min (mH (eff τ) p 0 1 0) (mH (eff τ) q 0 1 0)) - (max (mH (eff τ) p 0 0 0) (mH (eff τ) q 0 0 0))) = 0 by omega]; decide)]) key10
          · refine lv_iload hx hb dX2_common_110 (lv_at hl 2 rfl) ?_
            refine lv_iload hx hb dX2_common_112 (lv_at hl 1 rfl) ?_
            refine li_icmp_ge (tgt := 122) hx hb (by unfold iR; omega) (by unfold iR; omega) dX2_common_114 (by decide) (fun h32 => ?_) (fun h32 => ?_)
            · refine lv_iload hx hb dX2_common_122 (lv_at hl 1 rfl) ?_
              exact W.eq (by rw [show min (mH (eff τ) p 0 1 0) (mH (eff τ) q 0 1 0) = mH (eff τ) q 0 1 0 by omega]) key9
            · refine lv_iload hx hb dX2_common_117 (lv_at hl 2 rfl) ?_
              refine lv_goto (tgt := 124) hx hb dX2_common_119 (by decide) ?_
              exact W.eq (by rw [show min (mH (eff τ) p 0 1 0) (mH (eff τ) q 0 1 0) = mH (eff τ) p 0 1 0 by omega]) key9
        · refine lv_iload hx hb dX2_common_94 (lv_at hl 3 rfl) ?_
          refine lv_iload hx hb dX2_common_96 (lv_at hl 2 rfl) ?_
          refine li_icmp_le (tgt := 106) hx hb (by unfold iR; omega) (by unfold iR; omega) dX2_common_98 (by decide) (fun h33 => ?_) (fun h33 => ?_)
          · refine lv_iload hx hb dX2_common_106 (lv_at hl 2 rfl) ?_
            exact W.eq (by rw [show max (mH (eff τ) p 0 0 0) (mH (eff τ) q 0 0 0) = mH (eff τ) q 0 0 0 by omega]) key8
          · refine lv_iload hx hb dX2_common_101 (lv_at hl 3 rfl) ?_
            refine lv_goto (tgt := 108) hx hb dX2_common_103 (by decide) ?_
            exact W.eq (by rw [show max (mH (eff τ) p 0 0 0) (mH (eff τ) q 0 0 0) = mH (eff τ) p 0 0 0 by omega]) key8
      · refine li_iconst hx hb dX2_common_22 ?_
        refine lv_goto (tgt := 27) hx hb dX2_common_23 (by decide) ?_
        exfalso
        omega
    · refine li_if_eq (tgt := 22) hx hb (by unfold iR; omega) dX2_common_14 (by decide) (fun _ => ?_) (fun h => absurd (by decide) h)
      refine li_iconst hx hb dX2_common_22 ?_
      refine lv_goto (tgt := 27) hx hb dX2_common_23 (by decide) ?_
      exfalso
      omega
  · refine li_if_eq (tgt := 22) hx hb (by unfold iR; omega) dX2_common_6 (by decide) (fun _ => ?_) (fun h => absurd (by decide) h)
    refine li_iconst hx hb dX2_common_22 ?_
    refine lv_goto (tgt := 27) hx hb dX2_common_23 (by decide) ?_
    exfalso
    omega

set_option maxHeartbeats 4000000 in
set_option maxRecDepth 100000 in
theorem c_X2_common_f (l : Launch) (g : bxG) (ad : bxA) (σ τ : bxS) (w : bxW) (p q : Int) (hRp : iR p) (hRq : iR q) (hBt : bx_B τ) (hM : bx_M τ) (hg : ¬ ((0 ≤ p ∧ p < 60 ∧ τ 2 p 0 ≠ 0) ∧ (0 ≤ q ∧ q < 60 ∧ τ 2 q 0 ≠ 0) ∧ p ≠ q)) : Met l yX2_common wsX2_common ({ frames := 2, cells := 0, slots := 0, locals := 53 }) (va_Pc [.ref (ad 7 0), .int (iI p), .int (iI q)] (fun U => bx_I g ad σ τ w U)) (bq_W (some (.long 0)) g ad σ τ (w.1, 1)) 0 0 (bq_fr g) := by
  refine Met.ofW (cc := cX2_common) (maxL := 12) (ret := (some .long)) (by decide) rfl ?_
  intro Pg Ev s mI args below meth cd s₁ B hml hv
  obtain ⟨rfl, hU, hK⟩ := hv
  have hx := B.exec
  have hb := B.bytes
  have hr := B.returns
  have hts := atoms_spec (ws := wsX2_common) B.pre
  have hown : s.vm.findClass RX2 = some mI.cls := findClass_of_methodNamed B.named
  have hlocks := B.notSynchronized
  have hF : bx_F g s.heap s.heap := bx_F.rf
  have hlc : bx_Lc g [] := bx_Lc.nil
  have hl := lv_entry ([.ref (ad 7 0), .int (iI p), .int (iI q)]) (n := 12) (Nat.le_of_ble_eq_true rfl)
  rw [lg_entry_eq]
  generalize (lg_sl ([.ref (ad 7 0), .int (iI p), .int (iI q)]) ++ List.replicate (12 - (lg_sl ([.ref (ad 7 0), .int (iI p), .int (iI q)])).length) Slot.unset).toArray = ls at hl ⊢
  have hl : lv_has ls 12 [(0, .ref (ad 7 0)), (1, .int (iI p)), (2, .int (iI q))] := hl
  have hinX2 : ∀ w ∈ wsX20, w ∈ wsX2_common := by decide +kernel
  have hRp0 : -2147483648 ≤ p ∧ p < 2147483648 := hRp
  have hRq0 : -2147483648 ≤ q ∧ q < 2147483648 := hRq
  refine lv_aload_n hx hb dX2_common_0 rfl (lv_at hl 0 rfl) ?_
  refine lv_aload_n hx hb dX2_common_1 rfl (lv_at hl 0 rfl) ?_
  refine lv_iload_n hx hb dX2_common_2 rfl (lv_at hl 1 rfl) ?_
  refine bc_VB (As := [.int (iI p)]) (rest := [.ref (ad 7 0)]) (kd := 7) (k := 0) (ci := 2) ⟨hx, hb, hml, hown, hts⟩ (c_X2_isPart l g ad σ τ w p (by unfold iR; omega) hBt) (cwV 1 hts gX2_common_X2_isPart rfl rfl rfl (by decide +kernel) ⟨Nat.le_of_ble_eq_true rfl, Nat.le_of_ble_eq_true rfl⟩) hK hU (bx_L0 (by omega)) rfl rfl rfl hl.1 rfl (Nat.le_of_ble_eq_true rfl) dX2_common_3 ⟨Nat.le_of_ble_eq_true rfl, Nat.le_of_ble_eq_true rfl⟩ (fun h1 => ?_) (fun h1 => ?_)
  · refine li_if_eq (tgt := 22) hx hb (by unfold iR; omega) dX2_common_6 (by decide) (fun h => absurd h (by decide)) (fun _ => ?_)
    refine lv_aload_n hx hb dX2_common_9 rfl (lv_at hl 0 rfl) ?_
    refine lv_iload_n hx hb dX2_common_10 rfl (lv_at hl 2 rfl) ?_
    refine bc_VB (As := [.int (iI q)]) (rest := [.ref (ad 7 0)]) (kd := 7) (k := 0) (ci := 2) ⟨hx, hb, hml, hown, hts⟩ (c_X2_isPart l g ad σ τ w q (by unfold iR; omega) hBt) (cwV 1 hts gX2_common_X2_isPart rfl rfl rfl (by decide +kernel) ⟨Nat.le_of_ble_eq_true rfl, Nat.le_of_ble_eq_true rfl⟩) hK hU (bx_L0 (by omega)) rfl rfl rfl hl.1 rfl (Nat.le_of_ble_eq_true rfl) dX2_common_11 ⟨Nat.le_of_ble_eq_true rfl, Nat.le_of_ble_eq_true rfl⟩ (fun h2 => ?_) (fun h2 => ?_)
    · refine li_if_eq (tgt := 22) hx hb (by unfold iR; omega) dX2_common_14 (by decide) (fun h => absurd h (by decide)) (fun _ => ?_)
      refine lv_iload_n hx hb dX2_common_17 rfl (lv_at hl 1 rfl) ?_
      refine lv_iload_n hx hb dX2_common_18 rfl (lv_at hl 2 rfl) ?_
      refine li_icmp_ne (tgt := 26) hx hb (by unfold iR; omega) (by unfold iR; omega) dX2_common_19 (by decide) (fun h3 => ?_) (fun h3 => ?_)
      · refine li_iconst hx hb dX2_common_26 ?_
        exfalso
        omega
      · refine li_iconst hx hb dX2_common_22 ?_
        refine lv_goto (tgt := 27) hx hb dX2_common_23 (by decide) ?_
        refine bp_X2_code hx hb hts hinX2 hown hK hU hlc (hts (.fieldLink RX2 42 "ClashBoxesModel" "code" "I") (by decide +kernel)) dX2_common_27 (fun H locs hU hF1 hlc => ?_)
        have hF := hF.tr hF1
        have hU : bx_U g ad σ τ (w.1, 1) H := hU
        refine lv_aload_n hx hb dX2_common_30 rfl (lv_at hl 0 rfl) ?_
        refine bg_X2_code hx hb hts hinX2 hown hK hU (hts (.fieldLink RX2 42 "ClashBoxesModel" "code" "I") (by decide +kernel)) dX2_common_31 ?_
        refine W.eq (g2 := F0 mI 34 ls [.int (iI 1)]) rfl ?_
        refine li_if_le (tgt := 39) hx hb (by unfold iR; omega) dX2_common_34 (by decide) (fun h => absurd h (by decide)) (fun _ => ?_)
        refine lv_lconst (v := 0) hx hb dX2_common_37 (by decide) ?_
        refine bw_l hx hb hr hlocks (by first | exact hU | simpa using hU) hF hlc ?_ dX2_common_38
        rfl
    · refine li_if_eq (tgt := 22) hx hb (by unfold iR; omega) dX2_common_14 (by decide) (fun _ => ?_) (fun h => absurd (by decide) h)
      refine li_iconst hx hb dX2_common_22 ?_
      refine lv_goto (tgt := 27) hx hb dX2_common_23 (by decide) ?_
      refine bp_X2_code hx hb hts hinX2 hown hK hU hlc (hts (.fieldLink RX2 42 "ClashBoxesModel" "code" "I") (by decide +kernel)) dX2_common_27 (fun H locs hU hF1 hlc => ?_)
      have hF := hF.tr hF1
      have hU : bx_U g ad σ τ (w.1, 1) H := hU
      refine lv_aload_n hx hb dX2_common_30 rfl (lv_at hl 0 rfl) ?_
      refine bg_X2_code hx hb hts hinX2 hown hK hU (hts (.fieldLink RX2 42 "ClashBoxesModel" "code" "I") (by decide +kernel)) dX2_common_31 ?_
      refine W.eq (g2 := F0 mI 34 ls [.int (iI 1)]) rfl ?_
      refine li_if_le (tgt := 39) hx hb (by unfold iR; omega) dX2_common_34 (by decide) (fun h => absurd h (by decide)) (fun _ => ?_)
      refine lv_lconst (v := 0) hx hb dX2_common_37 (by decide) ?_
      refine bw_l hx hb hr hlocks (by first | exact hU | simpa using hU) hF hlc ?_ dX2_common_38
      rfl
  · refine li_if_eq (tgt := 22) hx hb (by unfold iR; omega) dX2_common_6 (by decide) (fun _ => ?_) (fun h => absurd (by decide) h)
    refine li_iconst hx hb dX2_common_22 ?_
    refine lv_goto (tgt := 27) hx hb dX2_common_23 (by decide) ?_
    refine bp_X2_code hx hb hts hinX2 hown hK hU hlc (hts (.fieldLink RX2 42 "ClashBoxesModel" "code" "I") (by decide +kernel)) dX2_common_27 (fun H locs hU hF1 hlc => ?_)
    have hF := hF.tr hF1
    have hU : bx_U g ad σ τ (w.1, 1) H := hU
    refine lv_aload_n hx hb dX2_common_30 rfl (lv_at hl 0 rfl) ?_
    refine bg_X2_code hx hb hts hinX2 hown hK hU (hts (.fieldLink RX2 42 "ClashBoxesModel" "code" "I") (by decide +kernel)) dX2_common_31 ?_
    refine W.eq (g2 := F0 mI 34 ls [.int (iI 1)]) rfl ?_
    refine li_if_le (tgt := 39) hx hb (by unfold iR; omega) dX2_common_34 (by decide) (fun h => absurd h (by decide)) (fun _ => ?_)
    refine lv_lconst (v := 0) hx hb dX2_common_37 (by decide) ?_
    refine bw_l hx hb hr hlocks (by first | exact hU | simpa using hU) hF hlc ?_ dX2_common_38
    rfl
