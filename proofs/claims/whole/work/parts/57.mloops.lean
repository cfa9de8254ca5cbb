set_option maxHeartbeats 4000000 in
set_option maxRecDepth 100000 in
theorem c_X2_clashes_t (l : Launch) (g : bxG) (ad : bxA) (σ τ : bxS) (w : bxW) (st : Int) (hRst : iR st) (hBt : bx_B τ) (hM : bx_M τ) (hg : 1 ≤ st ∧ st ≤ 2) : Met l yX2_clashes wsX2_clashes ({ frames := 5, cells := 0, slots := 0, locals := 127 }) (va_Pc [.ref (ad 7 0), .int (iI st)] (fun U => bx_I g ad σ τ w U)) (bq_W (some (.int (iI (sm (pcnt (eff τ) st) (τ 0 0 0))))) g ad σ τ (w.1, 0)) 0 0 (bq_fr g) := by
  refine Met.ofW (cc := cX2_clashes) (maxL := 5) (ret := (some .int)) (by decide) rfl ?_
  intro Pg Ev s mI args below meth cd s₁ B hml hv
  obtain ⟨rfl, hU, hK⟩ := hv
  have hx := B.exec
  have hb := B.bytes
  have hr := B.returns
  have hts := atoms_spec (ws := wsX2_clashes) B.pre
  have hown : s.vm.findClass RX2 = some mI.cls := findClass_of_methodNamed B.named
  have hlocks := B.notSynchronized
  have hF : bx_F g s.heap s.heap := bx_F.rf
  have hlc : bx_Lc g [] := bx_Lc.nil
  have hl := lv_entry ([.ref (ad 7 0), .int (iI st)]) (n := 5) (Nat.le_of_ble_eq_true rfl)
  rw [lg_entry_eq]
  generalize (lg_sl ([.ref (ad 7 0), .int (iI st)]) ++ List.replicate (5 - (lg_sl ([.ref (ad 7 0), .int (iI st)])).length) Slot.unset).toArray = ls at hl ⊢
  have hl : lv_has ls 5 [(0, .ref (ad 7 0)), (1, .int (iI st))] := hl
  have hinX2 : ∀ w ∈ wsX20, w ∈ wsX2_clashes := by decide +kernel
  have hRst0 : -2147483648 ≤ st ∧ st < 2147483648 := hRst
  have hm0 := bB0 hBt
  refine lv_aload_n hx hb dX2_clashes_0 rfl (lv_at hl 0 rfl) ?_
  refine lv_iload_n hx hb dX2_clashes_1 rfl (lv_at hl 1 rfl) ?_
  refine li_iconst hx hb dX2_clashes_2 ?_
  refine li_iconst hx hb dX2_clashes_3 ?_
  refine bc_SB (As := [.int (iI st), .int (iI 1), .int (iI 2)]) (rest := [.ref (ad 7 0)]) ⟨hx, hb, hml, hown, hts⟩ (c_X2_isIn l g ad σ τ w st 1 2 (by unfold iR; omega) (by unfold iR; omega) (by unfold iR; omega)) (va_cwS 3 hts gX2_clashes_X2_isIn rfl rfl rfl (by decide +kernel) ⟨Nat.le_of_ble_eq_true rfl, Nat.le_of_ble_eq_true rfl⟩) hK hU  rfl hl.1 rfl (Nat.le_of_ble_eq_true rfl) dX2_clashes_4 ⟨Nat.le_of_ble_eq_true rfl, Nat.le_of_ble_eq_true rfl⟩ (fun h1 => ?_) (fun h1 => ?_)
  · refine li_if_eq (tgt := 14) hx hb (by unfold iR; omega) dX2_clashes_7 (by decide) (fun h => absurd h (by decide)) (fun _ => ?_)
    refine li_iconst hx hb dX2_clashes_10 ?_
    refine lv_goto (tgt := 15) hx hb dX2_clashes_11 (by decide) ?_
    refine bp_X2_code hx hb hts hinX2 hown hK hU hlc (hts (.fieldLink RX2 42 "ClashBoxesModel" "code" "I") (by decide +kernel)) dX2_clashes_15 (fun H locs hU hF1 hlc => ?_)
    have hF := hF.tr hF1
    have hU : bx_U g ad σ τ (w.1, 0) H := hU
    refine li_iconst hx hb dX2_clashes_18 ?_
    refine lv_istore_n (lv' := [(2, .int (iI 0)), (0, .ref (ad 7 0)), (1, .int (iI st))]) hx hb dX2_clashes_19 rfl hl (by decide) rfl (fun ls hl => ?_)
    refine li_iconst hx hb dX2_clashes_20 ?_
    refine lv_istore_n (lv' := [(3, .int (iI 0)), (2, .int (iI 0)), (0, .ref (ad 7 0)), (1, .int (iI st))]) hx hb dX2_clashes_21 rfl hl (by decide) rfl (fun ls hl => ?_)
    refine bl_loop (V := Int × Int) (nL := 5) (I := fun v => [(3, .int (iI v.1)), (2, .int (iI v.2)), (0, .ref (ad 7 0)), (1, .int (iI st))]) (Inv := fun v => (0 ≤ v.1 ∧ v.1 ≤ τ 0 0 0) ∧ (v.2 = sm (pcnt (eff τ) st) v.1)) (μ := fun v => 60 - v.1) ?_ (0, 0) (show (0 ≤ 0 ∧ 0 ≤ τ 0 0 0) ∧ (0 = sm (pcnt (eff τ) st) 0) from ⟨by omega, rfl⟩) ls (lv_sub hl [0, 1, 2, 3] rfl)
    rintro ⟨p2, n2⟩ hI ih2 ls hl
    have hI : (0 ≤ p2 ∧ p2 ≤ τ 0 0 0) ∧ (n2 = sm (pcnt (eff τ) st) p2) := hI
    obtain ⟨ha2, hc2⟩ := hI
    have hl : lv_has ls 5 [(3, .int (iI p2)), (2, .int (iI n2)), (0, .ref (ad 7 0)), (1, .int (iI st))] := hl
    have hm0 := bB0 hBt
    refine lv_iload_n hx hb dX2_clashes_22 rfl (lv_at hl 0 rfl) ?_
    refine lv_aload_n hx hb dX2_clashes_23 rfl (lv_at hl 2 rfl) ?_
    refine bg_X2_made hx hb hts hinX2 hown hK hU (hts (.fieldLink RX2 49 "ClashBoxesModel" "made" "I") (by decide +kernel)) dX2_clashes_24 ?_
    have b3 := bB0 hBt
    refine li_icmp_ge (tgt := 101) hx hb (by unfold iR; omega) (by unfold iR; omega) dX2_clashes_27 (by decide) (fun h4 => ?_) (fun h4 => ?_)
    · refine lv_iload_n hx hb dX2_clashes_101 rfl (lv_at hl 1 rfl) ?_
      refine bw_i hx hb hr hlocks (by first | exact hU | simpa using hU) hF hlc ?_ dX2_clashes_102
      rw [hc2, show p2 = τ 0 0 0 by omega]
    · refine lv_aload_n hx hb dX2_clashes_30 rfl (lv_at hl 2 rfl) ?_
      refine bg_X2_code hx hb hts hinX2 hown hK hU (hts (.fieldLink RX2 42 "ClashBoxesModel" "code" "I") (by decide +kernel)) dX2_clashes_31 ?_
      refine W.eq (g2 := F0 mI 34 ls [.int (iI 0)]) rfl ?_
      refine li_if_ne (tgt := 101) hx hb (by unfold iR; omega) dX2_clashes_34 (by decide) (fun h => absurd (by decide) h) (fun _ => ?_)
      refine lv_iload_n hx hb dX2_clashes_37 rfl (lv_at hl 0 rfl) ?_
      refine li_iconst hx hb dX2_clashes_38 ?_
      refine li_iadd hx hb dX2_clashes_39 ?_
      refine lv_istore (lv' := [(4, .int (iI (p2 + 1))), (3, .int (iI p2)), (2, .int (iI n2)), (0, .ref (ad 7 0)), (1, .int (iI st))]) hx hb dX2_clashes_40 hl (by decide) rfl (fun ls hl => ?_)
      refine bl_loop (V := Int × Int) (nL := 5) (I := fun v => [(4, .int (iI v.1)), (2, .int (iI v.2)), (0, .ref (ad 7 0)), (1, .int (iI st)), (3, .int (iI p2))]) (Inv := fun v => (p2 + 1 ≤ v.1 ∧ v.1 ≤ 61) ∧ (v.2 = sm (pcnt (eff τ) st) p2 + cnt (pairP (eff τ) st p2) (p2 + 1) v.1 ∧ (v.1 ≤ p2 + 1 ∨ v.1 ≤ τ 0 0 0))) (μ := fun v => 61 - v.1) ?_ (p2 + 1, n2) (show (p2 + 1 ≤ (p2 + 1) ∧ (p2 + 1) ≤ 61) ∧ (n2 = sm (pcnt (eff τ) st) p2 + cnt (pairP (eff τ) st p2) (p2 + 1) (p2 + 1) ∧ ((p2 + 1) ≤ p2 + 1 ∨ (p2 + 1) ≤ τ 0 0 0)) from ⟨by omega, by rw [cnt_0 _ (by omega), hc2]; omega⟩) ls (lv_sub hl [0, 2, 3, 4, 1] rfl)
      rintro ⟨q5, n5⟩ hI ih5 ls hl
      have hI : (p2 + 1 ≤ q5 ∧ q5 ≤ 61) ∧ (n5 = sm (pcnt (eff τ) st) p2 + cnt (pairP (eff τ) st p2) (p2 + 1) q5 ∧ (q5 ≤ p2 + 1 ∨ q5 ≤ τ 0 0 0)) := hI
      obtain ⟨hd5, he5⟩ := hI
      have hl : lv_has ls 5 [(4, .int (iI q5)), (2, .int (iI n5)), (0, .ref (ad 7 0)), (1, .int (iI st)), (3, .int (iI p2))] := hl
      have hm0 := bB0 hBt
      refine lv_iload hx hb dX2_clashes_42 (lv_at hl 0 rfl) ?_
      refine lv_aload_n hx hb dX2_clashes_44 rfl (lv_at hl 2 rfl) ?_
      refine bg_X2_made hx hb hts hinX2 hown hK hU (hts (.fieldLink RX2 49 "ClashBoxesModel" "made" "I") (by decide +kernel)) dX2_clashes_45 ?_
      have b6 := bB0 hBt
      refine li_icmp_ge (tgt := 95) hx hb (by unfold iR; omega) (by unfold iR; omega) dX2_clashes_48 (by decide) (fun h7 => ?_) (fun h7 => ?_)
      · refine li_iinc (k0 := 4) (lv' := [(3, .int (iI (p2 + 1))), (4, .int (iI q5)), (2, .int (iI n5)), (0, .ref (ad 7 0)), (1, .int (iI st))]) hx hb dX2_clashes_95 hl rfl (by decide) rfl (fun ls hl => ?_)
        refine lv_goto (tgt := 22) hx hb dX2_clashes_98 (by decide) ?_
        exact ih2 (p2 + 1, n5) (show (0 ≤ (p2 + 1) ∧ (p2 + 1) ≤ τ 0 0 0) ∧ (n5 = sm (pcnt (eff τ) st) (p2 + 1)) from ⟨by omega, by rw [sm_s _ (by omega), he5.1]; (have e9 : cnt (pairP (eff τ) st p2) (p2 + 1) q5 = pcnt (eff τ) st p2 := by show _ = cnt _ _ (τ 0 0 0); rcases (by omega : q5 = τ 0 0 0 ∨ (τ 0 0 0 ≤ p2 + 1 ∧ q5 ≤ p2 + 1)) with q9 | q9; (rw [q9]); (rw [cnt_0 _ q9.1, cnt_0 _ q9.2])); rw [e9]⟩) (show 0 ≤ 60 - (p2 + 1) by omega) (show 60 - (p2 + 1) < 60 - p2 by omega) ls (lv_sub hl [0, 2, 3, 4] rfl)
      · refine lv_iload_n hx hb dX2_clashes_51 rfl (lv_at hl 1 rfl) ?_
        refine lv_aload_n hx hb dX2_clashes_52 rfl (lv_at hl 2 rfl) ?_
        refine bg_X2_isThere hx hb hts hinX2 hown hK hU (hts (.fieldLink RX2 7 "ClashBoxesModel" "isThere" "[Z") (by decide +kernel)) dX2_clashes_53 ?_
        refine lv_iload_n hx hb dX2_clashes_56 rfl (lv_at hl 4 rfl) ?_
        refine bl_8 hx hb hK hU (by omega) (by omega) dX2_clashes_57 ?_
        have b8 := bB2 hBt (k := p2) (by omega) (by omega)
        refine li_if_eq (tgt := 86) hx hb (by unfold iR; omega) dX2_clashes_58 (by decide) (fun h9 => ?_) (fun h9 => ?_)
        · refine li_iconst hx hb dX2_clashes_86 ?_
          refine li_iadd hx hb dX2_clashes_87 ?_
          refine lv_istore_n (lv' := [(2, .int (iI (n5 + 0))), (4, .int (iI q5)), (0, .ref (ad 7 0)), (1, .int (iI st)), (3, .int (iI p2))]) hx hb dX2_clashes_88 rfl hl (by decide) rfl (fun ls hl => ?_)
          refine li_iinc (k0 := 1) (lv' := [(4, .int (iI (q5 + 1))), (2, .int (iI (n5 + 0))), (0, .ref (ad 7 0)), (1, .int (iI st)), (3, .int (iI p2))]) hx hb dX2_clashes_89 hl rfl (by decide) rfl (fun ls hl => ?_)
          refine lv_goto (tgt := 42) hx hb dX2_clashes_92 (by decide) ?_
          exact ih5 (q5 + 1, n5 + 0) (show (p2 + 1 ≤ (q5 + 1) ∧ (q5 + 1) ≤ 61) ∧ ((n5 + 0) = sm (pcnt (eff τ) st) p2 + cnt (pairP (eff τ) st p2) (p2 + 1) (q5 + 1) ∧ ((q5 + 1) ≤ p2 + 1 ∨ (q5 + 1) ≤ τ 0 0 0)) from ⟨by omega, by rw [cnt_s _ (by omega), zB_f (fun q9 => q9.1 (show τ 2 p2 0 = 0 by omega))]; omega⟩) (show 0 ≤ 61 - (q5 + 1) by omega) (show 61 - (q5 + 1) < 61 - q5 by omega) ls (lv_sub hl [0, 1, 2, 3, 4] rfl)
        · refine lv_aload_n hx hb dX2_clashes_61 rfl (lv_at hl 2 rfl) ?_
          refine bg_X2_isThere hx hb hts hinX2 hown hK hU (hts (.fieldLink RX2 7 "ClashBoxesModel" "isThere" "[Z") (by decide +kernel)) dX2_clashes_62 ?_
          refine lv_iload hx hb dX2_clashes_65 (lv_at hl 0 rfl) ?_
          refine bl_8 hx hb hK hU (by omega) (by omega) dX2_clashes_67 ?_
          have b10 := bB2 hBt (k := q5) (by omega) (by omega)
          refine li_if_eq (tgt := 86) hx hb (by unfold iR; omega) dX2_clashes_68 (by decide) (fun h11 => ?_) (fun h11 => ?_)
          · refine li_iconst hx hb dX2_clashes_86 ?_
            refine li_iadd hx hb dX2_clashes_87 ?_
            refine lv_istore_n (lv' := [(2, .int (iI (n5 + 0))), (4, .int (iI q5)), (0, .ref (ad 7 0)), (1, .int (iI st)), (3, .int (iI p2))]) hx hb dX2_clashes_88 rfl hl (by decide) rfl (fun ls hl => ?_)
            refine li_iinc (k0 := 1) (lv' := [(4, .int (iI (q5 + 1))), (2, .int (iI (n5 + 0))), (0, .ref (ad 7 0)), (1, .int (iI st)), (3, .int (iI p2))]) hx hb dX2_clashes_89 hl rfl (by decide) rfl (fun ls hl => ?_)
            refine lv_goto (tgt := 42) hx hb dX2_clashes_92 (by decide) ?_
            exact ih5 (q5 + 1, n5 + 0) (show (p2 + 1 ≤ (q5 + 1) ∧ (q5 + 1) ≤ 61) ∧ ((n5 + 0) = sm (pcnt (eff τ) st) p2 + cnt (pairP (eff τ) st p2) (p2 + 1) (q5 + 1) ∧ ((q5 + 1) ≤ p2 + 1 ∨ (q5 + 1) ≤ τ 0 0 0)) from ⟨by omega, by rw [cnt_s _ (by omega), zB_f (fun q9 => q9.2.1 (show τ 2 q5 0 = 0 by omega))]; omega⟩) (show 0 ≤ 61 - (q5 + 1) by omega) (show 61 - (q5 + 1) < 61 - q5 by omega) ls (lv_sub hl [0, 1, 2, 3, 4] rfl)
          · have hz12 : 0 ≤ p2 ∧ p2 < 60 ∧ τ 2 p2 0 ≠ 0 := ⟨by omega, by omega, by omega⟩
            have hz13 : 0 ≤ q5 ∧ q5 < 60 ∧ τ 2 q5 0 ≠ 0 := ⟨by omega, by omega, by omega⟩
            refine lv_aload_n hx hb dX2_clashes_71 rfl (lv_at hl 2 rfl) ?_
            refine lv_iload_n hx hb dX2_clashes_72 rfl (lv_at hl 4 rfl) ?_
            refine lv_iload hx hb dX2_clashes_73 (lv_at hl 0 rfl) ?_
            refine bc_V (As := [.int (iI p2), .int (iI q5)]) (rest := [.int (iI n5)]) (kd := 7) (k := 0) (ci := 2) ⟨hx, hb, hml, hown, hts⟩ (c_X2_stateOf l g ad σ τ (w.1, 0) p2 q5 hz12 hz13 hBt hM) (cwV 2 hts gX2_clashes_X2_stateOf rfl rfl rfl (by decide +kernel) ⟨Nat.le_of_ble_eq_true rfl, Nat.le_of_ble_eq_true rfl⟩) hK hU (bx_L0 (by omega)) rfl rfl rfl hl.1 rfl (Nat.le_of_ble_eq_true rfl) dX2_clashes_75 ⟨Nat.le_of_ble_eq_true rfl, Nat.le_of_ble_eq_true rfl⟩ ?_
            have h14 := stO_bd (eff τ) p2 q5
            refine lv_iload_n hx hb dX2_clashes_78 rfl (lv_at hl 3 rfl) ?_
            refine li_icmp_ne (tgt := 86) hx hb (by unfold iR; omega) (by unfold iR; omega) dX2_clashes_79 (by decide) (fun h15 => ?_) (fun h15 => ?_)
            · refine li_iconst hx hb dX2_clashes_86 ?_
              refine li_iadd hx hb dX2_clashes_87 ?_
              refine lv_istore_n (lv' := [(2, .int (iI (n5 + 0))), (4, .int (iI q5)), (0, .ref (ad 7 0)), (1, .int (iI st)), (3, .int (iI p2))]) hx hb dX2_clashes_88 rfl hl (by decide) rfl (fun ls hl => ?_)
              refine li_iinc (k0 := 1) (lv' := [(4, .int (iI (q5 + 1))), (2, .int (iI (n5 + 0))), (0, .ref (ad 7 0)), (1, .int (iI st)), (3, .int (iI p2))]) hx hb dX2_clashes_89 hl rfl (by decide) rfl (fun ls hl => ?_)
              refine lv_goto (tgt := 42) hx hb dX2_clashes_92 (by decide) ?_
              exact ih5 (q5 + 1, n5 + 0) (show (p2 + 1 ≤ (q5 + 1) ∧ (q5 + 1) ≤ 61) ∧ ((n5 + 0) = sm (pcnt (eff τ) st) p2 + cnt (pairP (eff τ) st p2) (p2 + 1) (q5 + 1) ∧ ((q5 + 1) ≤ p2 + 1 ∨ (q5 + 1) ≤ τ 0 0 0)) from ⟨by omega, by rw [cnt_s _ (by omega), zB_f (fun q9 => h15 q9.2.2)]; omega⟩) (show 0 ≤ 61 - (q5 + 1) by omega) (show 61 - (q5 + 1) < 61 - q5 by omega) ls (lv_sub hl [0, 1, 2, 3, 4] rfl)
            · refine li_iconst hx hb dX2_clashes_82 ?_
              refine lv_goto (tgt := 87) hx hb dX2_clashes_83 (by decide) ?_
              refine li_iadd hx hb dX2_clashes_87 ?_
              refine lv_istore_n (lv' := [(2, .int (iI (n5 + 1))), (4, .int (iI q5)), (0, .ref (ad 7 0)), (1, .int (iI st)), (3, .int (iI p2))]) hx hb dX2_clashes_88 rfl hl (by decide) rfl (fun ls hl => ?_)
              refine li_iinc (k0 := 1) (lv' := [(4, .int (iI (q5 + 1))), (2, .int (iI (n5 + 1))), (0, .ref (ad 7 0)), (1, .int (iI st)), (3, .int (iI p2))]) hx hb dX2_clashes_89 hl rfl (by decide) rfl (fun ls hl => ?_)
              refine lv_goto (tgt := 42) hx hb dX2_clashes_92 (by decide) ?_
              exact ih5 (q5 + 1, n5 + 1) (show (p2 + 1 ≤ (q5 + 1) ∧ (q5 + 1) ≤ 61) ∧ ((n5 + 1) = sm (pcnt (eff τ) st) p2 + cnt (pairP (eff τ) st p2) (p2 + 1) (q5 + 1) ∧ ((q5 + 1) ≤ p2 + 1 ∨ (q5 + 1) ≤ τ 0 0 0)) from ⟨by omega, by rw [cnt_s _ (by omega), zB_t ⟨(show τ 2 p2 0 ≠ 0 by omega), (show τ 2 q5 0 ≠ 0 by omega), h15⟩]; omega⟩) (show 0 ≤ 61 - (q5 + 1) by omega) (show 61 - (q5 + 1) < 61 - q5 by omega) ls (lv_sub hl [0, 1, 2, 3, 4] rfl)
  · refine li_if_eq (tgt := 14) hx hb (by unfold iR; omega) dX2_clashes_7 (by decide) (fun _ => ?_) (fun h => absurd (by decide) h)
    refine li_iconst hx hb dX2_clashes_14 ?_
    exfalso
    omega

set_option maxHeartbeats 4000000 in
set_option maxRecDepth 100000 in
theorem c_X2_clashes_f (l : Launch) (g : bxG) (ad : bxA) (σ τ : bxS) (w : bxW) (st : Int) (hRst : iR st) (hBt : bx_B τ) (hM : bx_M τ) (hg : ¬ (1 ≤ st ∧ st ≤ 2)) : Met l yX2_clashes wsX2_clashes ({ frames := 5, cells := 0, slots := 0, locals := 127 }) (va_Pc [.ref (ad 7 0), .int (iI st)] (fun U => bx_I g ad σ τ w U)) (bq_W (some (.int (iI 0))) g ad σ τ (w.1, 1)) 0 0 (bq_fr g) := by
  refine Met.ofW (cc := cX2_clashes) (maxL := 5) (ret := (some .int)) (by decide) rfl ?_
  intro Pg Ev s mI args below meth cd s₁ B hml hv
  obtain ⟨rfl, hU, hK⟩ := hv
  have hx := B.exec
  have hb := B.bytes
  have hr := B.returns
  have hts := atoms_spec (ws := wsX2_clashes) B.pre
  have hown : s.vm.findClass RX2 = some mI.cls := findClass_of_methodNamed B.named
  have hlocks := B.notSynchronized
  have hF : bx_F g s.heap s.heap := bx_F.rf
  have hlc : bx_Lc g [] := bx_Lc.nil
  have hl := lv_entry ([.ref (ad 7 0), .int (iI st)]) (n := 5) (Nat.le_of_ble_eq_true rfl)
  rw [lg_entry_eq]
  generalize (lg_sl ([.ref (ad 7 0), .int (iI st)]) ++ List.replicate (5 - (lg_sl ([.ref (ad 7 0), .int (iI st)])).length) Slot.unset).toArray = ls at hl ⊢
  have hl : lv_has ls 5 [(0, .ref (ad 7 0)), (1, .int (iI st))] := hl
  have hinX2 : ∀ w ∈ wsX20, w ∈ wsX2_clashes := by decide +kernel
  have hRst0 : -2147483648 ≤ st ∧ st < 2147483648 := hRst
  have hm0 := bB0 hBt
  refine lv_aload_n hx hb dX2_clashes_0 rfl (lv_at hl 0 rfl) ?_
  refine lv_iload_n hx hb dX2_clashes_1 rfl (lv_at hl 1 rfl) ?_
  refine li_iconst hx hb dX2_clashes_2 ?_
  refine li_iconst hx hb dX2_clashes_3 ?_
  refine bc_SB (As := [.int (iI st), .int (iI 1), .int (iI 2)]) (rest := [.ref (ad 7 0)]) ⟨hx, hb, hml, hown, hts⟩ (c_X2_isIn l g ad σ τ w st 1 2 (by unfold iR; omega) (by unfold iR; omega) (by unfold iR; omega)) (va_cwS 3 hts gX2_clashes_X2_isIn rfl rfl rfl (by decide +kernel) ⟨Nat.le_of_ble_eq_true rfl, Nat.le_of_ble_eq_true rfl⟩) hK hU  rfl hl.1 rfl (Nat.le_of_ble_eq_true rfl) dX2_clashes_4 ⟨Nat.le_of_ble_eq_true rfl, Nat.le_of_ble_eq_true rfl⟩ (fun h1 => ?_) (fun h1 => ?_)
  · refine li_if_eq (tgt := 14) hx hb (by unfold iR; omega) dX2_clashes_7 (by decide) (fun h => absurd h (by decide)) (fun _ => ?_)
    refine li_iconst hx hb dX2_clashes_10 ?_
    refine lv_goto (tgt := 15) hx hb dX2_clashes_11 (by decide) ?_
    exfalso
    omega
  · refine li_if_eq (tgt := 14) hx hb (by unfold iR; omega) dX2_clashes_7 (by decide) (fun _ => ?_) (fun h => absurd (by decide) h)
    refine li_iconst hx hb dX2_clashes_14 ?_
    refine bp_X2_code hx hb hts hinX2 hown hK hU hlc (hts (.fieldLink RX2 42 "ClashBoxesModel" "code" "I") (by decide +kernel)) dX2_clashes_15 (fun H locs hU hF1 hlc => ?_)
    have hF := hF.tr hF1
    have hU : bx_U g ad σ τ (w.1, 1) H := hU
    refine li_iconst hx hb dX2_clashes_18 ?_
    refine lv_istore_n (lv' := [(2, .int (iI 0)), (0, .ref (ad 7 0)), (1, .int (iI st))]) hx hb dX2_clashes_19 rfl hl (by decide) rfl (fun ls hl => ?_)
    refine li_iconst hx hb dX2_clashes_20 ?_
    refine lv_istore_n (lv' := [(3, .int (iI 0)), (2, .int (iI 0)), (0, .ref (ad 7 0)), (1, .int (iI st))]) hx hb dX2_clashes_21 rfl hl (by decide) rfl (fun ls hl => ?_)
    refine lv_iload_n hx hb dX2_clashes_22 rfl (lv_at hl 0 rfl) ?_
    refine lv_aload_n hx hb dX2_clashes_23 rfl (lv_at hl 2 rfl) ?_
    refine bg_X2_made hx hb hts hinX2 hown hK hU (hts (.fieldLink RX2 49 "ClashBoxesModel" "made" "I") (by decide +kernel)) dX2_clashes_24 ?_
    have b2 := bB0 hBt
    refine li_icmp_ge (tgt := 101) hx hb (by unfold iR; omega) (by unfold iR; omega) dX2_clashes_27 (by decide) (fun h3 => ?_) (fun h3 => ?_)
    · refine lv_iload_n hx hb dX2_clashes_101 rfl (lv_at hl 1 rfl) ?_
      refine bw_i hx hb hr hlocks (by first | exact hU | simpa using hU) hF hlc ?_ dX2_clashes_102
      rfl
    · refine lv_aload_n hx hb dX2_clashes_30 rfl (lv_at hl 2 rfl) ?_
      refine bg_X2_code hx hb hts hinX2 hown hK hU (hts (.fieldLink RX2 42 "ClashBoxesModel" "code" "I") (by decide +kernel)) dX2_clashes_31 ?_
      refine W.eq (g2 := F0 mI 34 ls [.int (iI 1)]) rfl ?_
      refine li_if_ne (tgt := 101) hx hb (by unfold iR; omega) dX2_clashes_34 (by decide) (fun _ => ?_) (fun h => absurd h (by decide))
      refine lv_iload_n hx hb dX2_clashes_101 rfl (lv_at hl 1 rfl) ?_
      refine bw_i hx hb hr hlocks (by first | exact hU | simpa using hU) hF hlc ?_ dX2_clashes_102
      rfl

set_option maxHeartbeats 4000000 in
set_option maxRecDepth 100000 in
theorem c_X2_clash_t (l : Launch) (g : bxG) (ad : bxA) (σ τ : bxS) (w : bxW) (st k wh : Int) (hRst : iR st) (hRk : iR k) (hRwh : iR wh) (hBt : bx_B τ) (hM : bx_M τ) (hg : (1 ≤ st ∧ st ≤ 2) ∧ 0 ≤ k ∧ 0 ≤ wh ∧ wh ≤ 1) : Met l yX2_clash wsX2_clash ({ frames := 5, cells := 0, slots := 0, locals := 127 }) (va_Pc [.ref (ad 7 0), .int (iI st), .int (iI k), .int (iI wh)] (fun U => bx_I g ad σ τ w U)) (bq_W (some (.int (iI (clsF (eff τ) st wh 0 k)))) g ad σ τ (w.1, 0)) 0 0 (bq_fr g) := by
  refine Met.ofW (cc := cX2_clash) (maxL := 7) (ret := (some .int)) (by decide) rfl ?_
  intro Pg Ev s mI args below meth cd s₁ B hml hv
  obtain ⟨rfl, hU, hK⟩ := hv
  have hx := B.exec
  have hb := B.bytes
  have hr := B.returns
  have hts := atoms_spec (ws := wsX2_clash) B.pre
  have hown : s.vm.findClass RX2 = some mI.cls := findClass_of_methodNamed B.named
  have hlocks := B.notSynchronized
  have hF : bx_F g s.heap s.heap := bx_F.rf
  have hlc : bx_Lc g [] := bx_Lc.nil
  have hl := lv_entry ([.ref (ad 7 0), .int (iI st), .int (iI k), .int (iI wh)]) (n := 7) (Nat.le_of_ble_eq_true rfl)
  rw [lg_entry_eq]
  generalize (lg_sl ([.ref (ad 7 0), .int (iI st), .int (iI k), .int (iI wh)]) ++ List.replicate (7 - (lg_sl ([.ref (ad 7 0), .int (iI st), .int (iI k), .int (iI wh)])).length) Slot.unset).toArray = ls at hl ⊢
  have hl : lv_has ls 7 [(0, .ref (ad 7 0)), (1, .int (iI st)), (2, .int (iI k)), (3, .int (iI wh))] := hl
  have hinX2 : ∀ w ∈ wsX20, w ∈ wsX2_clash := by decide +kernel
  have hRst0 : -2147483648 ≤ st ∧ st < 2147483648 := hRst
  have hRk0 : -2147483648 ≤ k ∧ k < 2147483648 := hRk
  have hRwh0 : -2147483648 ≤ wh ∧ wh < 2147483648 := hRwh
  have hm0 := bB0 hBt
  refine lv_aload_n hx hb dX2_clash_0 rfl (lv_at hl 0 rfl) ?_
  refine lv_iload_n hx hb dX2_clash_1 rfl (lv_at hl 1 rfl) ?_
  refine li_iconst hx hb dX2_clash_2 ?_
  refine li_iconst hx hb dX2_clash_3 ?_
  refine bc_SB (As := [.int (iI st), .int (iI 1), .int (iI 2)]) (rest := [.ref (ad 7 0)]) ⟨hx, hb, hml, hown, hts⟩ (c_X2_isIn l g ad σ τ w st 1 2 (by unfold iR; omega) (by unfold iR; omega) (by unfold iR; omega)) (va_cwS 3 hts gX2_clash_X2_isIn rfl rfl rfl (by decide +kernel) ⟨Nat.le_of_ble_eq_true rfl, Nat.le_of_ble_eq_true rfl⟩) hK hU  rfl hl.1 rfl (Nat.le_of_ble_eq_true rfl) dX2_clash_4 ⟨Nat.le_of_ble_eq_true rfl, Nat.le_of_ble_eq_true rfl⟩ (fun h1 => ?_) (fun h1 => ?_)
  · refine li_if_eq (tgt := 23) hx hb (by unfold iR; omega) dX2_clash_7 (by decide) (fun h => absurd h (by decide)) (fun _ => ?_)
    refine lv_iload_n hx hb dX2_clash_10 rfl (lv_at hl 3 rfl) ?_
    refine li_iconst hx hb dX2_clash_11 ?_
    refine li_iconst hx hb dX2_clash_12 ?_
    refine bc_SB (As := [.int (iI wh), .int (iI 0), .int (iI 1)]) (rest := [.ref (ad 7 0)]) ⟨hx, hb, hml, hown, hts⟩ (c_X2_isIn l g ad σ τ w wh 0 1 (by unfold iR; omega) (by unfold iR; omega) (by unfold iR; omega)) (va_cwS 3 hts gX2_clash_X2_isIn rfl rfl rfl (by decide +kernel) ⟨Nat.le_of_ble_eq_true rfl, Nat.le_of_ble_eq_true rfl⟩) hK hU  rfl hl.1 rfl (Nat.le_of_ble_eq_true rfl) dX2_clash_13 ⟨Nat.le_of_ble_eq_true rfl, Nat.le_of_ble_eq_true rfl⟩ (fun h2 => ?_) (fun h2 => ?_)
    · refine li_if_eq (tgt := 23) hx hb (by unfold iR; omega) dX2_clash_16 (by decide) (fun h => absurd h (by decide)) (fun _ => ?_)
      refine lv_iload_n hx hb dX2_clash_19 rfl (lv_at hl 2 rfl) ?_
      refine li_if_ge (tgt := 27) hx hb (by unfold iR; omega) dX2_clash_20 (by decide) (fun h3 => ?_) (fun h3 => ?_)
      · refine li_iconst hx hb dX2_clash_27 ?_
        refine bp_X2_code hx hb hts hinX2 hown hK hU hlc (hts (.fieldLink RX2 42 "ClashBoxesModel" "code" "I") (by decide +kernel)) dX2_clash_28 (fun H locs hU hF1 hlc => ?_)
        have hF := hF.tr hF1
        have hU : bx_U g ad σ τ (w.1, 0) H := hU
        refine lv_aload_n hx hb dX2_clash_31 rfl (lv_at hl 0 rfl) ?_
        refine bg_X2_code hx hb hts hinX2 hown hK hU (hts (.fieldLink RX2 42 "ClashBoxesModel" "code" "I") (by decide +kernel)) dX2_clash_32 ?_
        refine W.eq (g2 := F0 mI 35 ls [.int (iI 0)]) rfl ?_
        refine li_if_le (tgt := 40) hx hb (by unfold iR; omega) dX2_clash_35 (by decide) (fun _ => ?_) (fun h => absurd (by decide) h)
        refine li_iconst hx hb dX2_clash_40 ?_
        refine lv_istore (lv' := [(4, .int (iI 0)), (0, .ref (ad 7 0)), (1, .int (iI st)), (2, .int (iI k)), (3, .int (iI wh))]) hx hb dX2_clash_41 hl (by decide) rfl (fun ls hl => ?_)
        refine li_iconst hx hb dX2_clash_43 ?_
        refine lv_istore (lv' := [(5, .int (iI 0)), (4, .int (iI 0)), (0, .ref (ad 7 0)), (1, .int (iI st)), (2, .int (iI k)), (3, .int (iI wh))]) hx hb dX2_clash_44 hl (by decide) rfl (fun ls hl => ?_)
        refine bl_loop (V := Int × Int) (nL := 7) (I := fun v => [(5, .int (iI v.1)), (4, .int (iI v.2)), (0, .ref (ad 7 0)), (1, .int (iI st)), (2, .int (iI k)), (3, .int (iI wh))]) (Inv := fun v => (0 ≤ v.1 ∧ v.1 ≤ τ 0 0 0) ∧ (0 ≤ v.2 ∧ v.2 ≤ k) ∧ (clsF (eff τ) st wh v.1 (k - v.2) = clsF (eff τ) st wh 0 k)) (μ := fun v => 60 - v.1) ?_ (0, 0) (show (0 ≤ 0 ∧ 0 ≤ τ 0 0 0) ∧ (0 ≤ 0 ∧ 0 ≤ k) ∧ (clsF (eff τ) st wh 0 (k - 0) = clsF (eff τ) st wh 0 k) from ⟨by omega, by omega, by rw [Int.sub_zero]⟩) ls (lv_sub hl [0, 1, 2, 3, 4, 5] rfl)
        rintro ⟨p4, n4⟩ hI ih4 ls hl
        have hI : (0 ≤ p4 ∧ p4 ≤ τ 0 0 0) ∧ (0 ≤ n4 ∧ n4 ≤ k) ∧ (clsF (eff τ) st wh p4 (k - n4) = clsF (eff τ) st wh 0 k) := hI
        obtain ⟨ha4, hb4, hc4⟩ := hI
        have hl : lv_has ls 7 [(5, .int (iI p4)), (4, .int (iI n4)), (0, .ref (ad 7 0)), (1, .int (iI st)), (2, .int (iI k)), (3, .int (iI wh))] := hl
        have hm0 := bB0 hBt
        refine lv_iload hx hb dX2_clash_46 (lv_at hl 0 rfl) ?_
        refine lv_aload_n hx hb dX2_clash_48 rfl (lv_at hl 2 rfl) ?_
        refine bg_X2_made hx hb hts hinX2 hown hK hU (hts (.fieldLink RX2 49 "ClashBoxesModel" "made" "I") (by decide +kernel)) dX2_clash_49 ?_
        have b5 := bB0 hBt
        refine li_icmp_ge (tgt := 135) hx hb (by unfold iR; omega) (by unfold iR; omega) dX2_clash_52 (by decide) (fun h6 => ?_) (fun h6 => ?_)
        · refine li_iconst hx hb dX2_clash_135 ?_
          refine bw_i hx hb hr hlocks (by first | exact hU | simpa using hU) hF hlc ?_ dX2_clash_136
          rw [← hc4, cls_end (σ := eff τ) st wh _ (show τ 0 0 0 ≤ p4 by omega)]
        · refine lv_iload hx hb dX2_clash_55 (lv_at hl 0 rfl) ?_
          refine li_iconst hx hb dX2_clash_57 ?_
          refine li_iadd hx hb dX2_clash_58 ?_
          refine lv_istore (lv' := [(6, .int (iI (p4 + 1))), (5, .int (iI p4)), (4, .int (iI n4)), (0, .ref (ad 7 0)), (1, .int (iI st)), (2, .int (iI k)), (3, .int (iI wh))]) hx hb dX2_clash_59 hl (by decide) rfl (fun ls hl => ?_)
          refine bl_loop (V := Int × Int) (nL := 7) (I := fun v => [(6, .int (iI v.1)), (4, .int (iI v.2)), (0, .ref (ad 7 0)), (1, .int (iI st)), (2, .int (iI k)), (3, .int (iI wh)), (5, .int (iI p4))]) (Inv := fun v => (p4 + 1 ≤ v.1 ∧ v.1 ≤ 61) ∧ (0 ≤ v.2 ∧ v.2 ≤ k) ∧ (rowR (eff τ) st wh p4 v.1 (k - v.2) = clsF (eff τ) st wh 0 k)) (μ := fun v => 61 - v.1) ?_ (p4 + 1, n4) (show (p4 + 1 ≤ (p4 + 1) ∧ (p4 + 1) ≤ 61) ∧ (0 ≤ n4 ∧ n4 ≤ k) ∧ (rowR (eff τ) st wh p4 (p4 + 1) (k - n4) = clsF (eff τ) st wh 0 k) from ⟨by omega, by omega, by rw [rowR_0 (ε := eff τ) st wh _ (show p4 < τ 0 0 0 by omega)]; exact hc4⟩) ls (lv_sub hl [0, 2, 3, 4, 5, 6, 1] rfl)
          rintro ⟨q7, n7⟩ hI ih7 ls hl
          have hI : (p4 + 1 ≤ q7 ∧ q7 ≤ 61) ∧ (0 ≤ n7 ∧ n7 ≤ k) ∧ (rowR (eff τ) st wh p4 q7 (k - n7) = clsF (eff τ) st wh 0 k) := hI
          obtain ⟨hd7, he7, hf7⟩ := hI
          have hl : lv_has ls 7 [(6, .int (iI q7)), (4, .int (iI n7)), (0, .ref (ad 7 0)), (1, .int (iI st)), (2, .int (iI k)), (3, .int (iI wh)), (5, .int (iI p4))] := hl
          have hm0 := bB0 hBt
          refine lv_iload hx hb dX2_clash_61 (lv_at hl 0 rfl) ?_
          refine lv_aload_n hx hb dX2_clash_63 rfl (lv_at hl 2 rfl) ?_
          refine bg_X2_made hx hb hts hinX2 hown hK hU (hts (.fieldLink RX2 49 "ClashBoxesModel" "made" "I") (by decide +kernel)) dX2_clash_64 ?_
          have b8 := bB0 hBt
          refine li_icmp_ge (tgt := 129) hx hb (by unfold iR; omega) (by unfold iR; omega) dX2_clash_67 (by decide) (fun h9 => ?_) (fun h9 => ?_)
          · refine li_iinc (k0 := 6) (lv' := [(5, .int (iI (p4 + 1))), (6, .int (iI q7)), (4, .int (iI n7)), (0, .ref (ad 7 0)), (1, .int (iI st)), (2, .int (iI k)), (3, .int (iI wh))]) hx hb dX2_clash_129 hl rfl (by decide) rfl (fun ls hl => ?_)
            refine lv_goto (tgt := 46) hx hb dX2_clash_132 (by decide) ?_
            exact ih4 (p4 + 1, n7) (show (0 ≤ (p4 + 1) ∧ (p4 + 1) ≤ τ 0 0 0) ∧ (0 ≤ n7 ∧ n7 ≤ k) ∧ (clsF (eff τ) st wh (p4 + 1) (k - n7) = clsF (eff τ) st wh 0 k) from ⟨by omega, by omega, by rw [← hf7, rowR_e (ε := eff τ) st wh _ (show τ 0 0 0 ≤ q7 by omega) (by omega)]⟩) (show 0 ≤ 60 - (p4 + 1) by omega) (show 60 - (p4 + 1) < 60 - p4 by omega) ls (lv_sub hl [0, 2, 3, 4, 5, 6] rfl)
          · refine lv_aload_n hx hb dX2_clash_70 rfl (lv_at hl 2 rfl) ?_
            refine bg_X2_isThere hx hb hts hinX2 hown hK hU (hts (.fieldLink RX2 7 "ClashBoxesModel" "isThere" "[Z") (by decide +kernel)) dX2_clash_71 ?_
            refine lv_iload hx hb dX2_clash_74 (lv_at hl 6 rfl) ?_
            refine bl_8 hx hb hK hU (by omega) (by omega) dX2_clash_76 ?_
            have b10 := bB2 hBt (k := p4) (by omega) (by omega)
            refine li_if_eq (tgt := 123) hx hb (by unfold iR; omega) dX2_clash_77 (by decide) (fun h11 => ?_) (fun h11 => ?_)
            · refine li_iinc (k0 := 0) (lv' := [(6, .int (iI (q7 + 1))), (4, .int (iI n7)), (0, .ref (ad 7 0)), (1, .int (iI st)), (2, .int (iI k)), (3, .int (iI wh)), (5, .int (iI p4))]) hx hb dX2_clash_123 hl rfl (by decide) rfl (fun ls hl => ?_)
              refine lv_goto (tgt := 61) hx hb dX2_clash_126 (by decide) ?_
              exact ih7 (q7 + 1, n7) (show (p4 + 1 ≤ (q7 + 1) ∧ (q7 + 1) ≤ 61) ∧ (0 ≤ n7 ∧ n7 ≤ k) ∧ (rowR (eff τ) st wh p4 (q7 + 1) (k - n7) = clsF (eff τ) st wh 0 k) from ⟨by omega, by omega, by rw [← hf7, rowR_n (ε := eff τ) st wh p4 (q := q7) (show q7 < τ 0 0 0 by omega) (fun q9 => q9.1 (show τ 2 p4 0 = 0 by omega))]⟩) (show 0 ≤ 61 - (q7 + 1) by omega) (show 61 - (q7 + 1) < 61 - q7 by omega) ls (lv_sub hl [0, 1, 2, 3, 4, 5, 6] rfl)
            · refine lv_aload_n hx hb dX2_clash_80 rfl (lv_at hl 2 rfl) ?_
              refine bg_X2_isThere hx hb hts hinX2 hown hK hU (hts (.fieldLink RX2 7 "ClashBoxesModel" "isThere" "[Z") (by decide +kernel)) dX2_clash_81 ?_
              refine lv_iload hx hb dX2_clash_84 (lv_at hl 0 rfl) ?_
              refine bl_8 hx hb hK hU (by omega) (by omega) dX2_clash_86 ?_
              have b12 := bB2 hBt (k := q7) (by omega) (by omega)
              refine li_if_eq (tgt := 123) hx hb (by unfold iR; omega) dX2_clash_87 (by decide) (fun h13 => ?_) (fun h13 => ?_)
              · refine li_iinc (k0 := 0) (lv' := [(6, .int (iI (q7 + 1))), (4, .int (iI n7)), (0, .ref (ad 7 0)), (1, .int (iI st)), (2, .int (iI k)), (3, .int (iI wh)), (5, .int (iI p4))]) hx hb dX2_clash_123 hl rfl (by decide) rfl (fun ls hl => ?_)
                refine lv_goto (tgt := 61) hx hb dX2_clash_126 (by decide) ?_
                exact ih7 (q7 + 1, n7) (show (p4 + 1 ≤ (q7 + 1) ∧ (q7 + 1) ≤ 61) ∧ (0 ≤ n7 ∧ n7 ≤ k) ∧ (rowR (eff τ) st wh p4 (q7 + 1) (k - n7) = clsF (eff τ) st wh 0 k) from ⟨by omega, by omega, by rw [← hf7, rowR_n (ε := eff τ) st wh p4 (q := q7) (show q7 < τ 0 0 0 by omega) (fun q9 => q9.2.1 (show τ 2 q7 0 = 0 by omega))]⟩) (show 0 ≤ 61 - (q7 + 1) by omega) (show 61 - (q7 + 1) < 61 - q7 by omega) ls (lv_sub hl [0, 1, 2, 3, 4, 5, 6] rfl)
              · have hz14 : 0 ≤ p4 ∧ p4 < 60 ∧ τ 2 p4 0 ≠ 0 := ⟨by omega, by omega, by omega⟩
                have hz15 : 0 ≤ q7 ∧ q7 < 60 ∧ τ 2 q7 0 ≠ 0 := ⟨by omega, by omega, by omega⟩
                refine lv_aload_n hx hb dX2_clash_90 rfl (lv_at hl 2 rfl) ?_
                refine lv_iload hx hb dX2_clash_91 (lv_at hl 6 rfl) ?_
                refine lv_iload hx hb dX2_clash_93 (lv_at hl 0 rfl) ?_
                refine bc_V (As := [.int (iI p4), .int (iI q7)]) (rest := []) (kd := 7) (k := 0) (ci := 2) ⟨hx, hb, hml, hown, hts⟩ (c_X2_stateOf l g ad σ τ (w.1, 0) p4 q7 hz14 hz15 hBt hM) (cwV 2 hts gX2_clash_X2_stateOf rfl rfl rfl (by decide +kernel) ⟨Nat.le_of_ble_eq_true rfl, Nat.le_of_ble_eq_true rfl⟩) hK hU (bx_L0 (by omega)) rfl rfl rfl hl.1 rfl (Nat.le_of_ble_eq_true rfl) dX2_clash_95 ⟨Nat.le_of_ble_eq_true rfl, Nat.le_of_ble_eq_true rfl⟩ ?_
                have h16 := stO_bd (eff τ) p4 q7
                refine lv_iload_n hx hb dX2_clash_98 rfl (lv_at hl 3 rfl) ?_
                refine li_icmp_ne (tgt := 123) hx hb (by unfold iR; omega) (by unfold iR; omega) dX2_clash_99 (by decide) (fun h17 => ?_) (fun h17 => ?_)
                · refine li_iinc (k0 := 0) (lv' := [(6, .int (iI (q7 + 1))), (4, .int (iI n7)), (0, .ref (ad 7 0)), (1, .int (iI st)), (2, .int (iI k)), (3, .int (iI wh)), (5, .int (iI p4))]) hx hb dX2_clash_123 hl rfl (by decide) rfl (fun ls hl => ?_)
                  refine lv_goto (tgt := 61) hx hb dX2_clash_126 (by decide) ?_
                  exact ih7 (q7 + 1, n7) (show (p4 + 1 ≤ (q7 + 1) ∧ (q7 + 1) ≤ 61) ∧ (0 ≤ n7 ∧ n7 ≤ k) ∧ (rowR (eff τ) st wh p4 (q7 + 1) (k - n7) = clsF (eff τ) st wh 0 k) from ⟨by omega, by omega, by rw [← hf7, rowR_n (ε := eff τ) st wh p4 (q := q7) (show q7 < τ 0 0 0 by omega) (fun q9 => h17 q9.2.2)]⟩) (show 0 ≤ 61 - (q7 + 1) by omega) (show 61 - (q7 + 1) < 61 - q7 by omega) ls (lv_sub hl [0, 1, 2, 3, 4, 5, 6] rfl)
                · refine lv_iload hx hb dX2_clash_102 (lv_at hl 1 rfl) ?_
                  refine lv_iload_n hx hb dX2_clash_104 rfl (lv_at hl 4 rfl) ?_
                  refine li_icmp_ne (tgt := 120) hx hb (by unfold iR; omega) (by unfold iR; omega) dX2_clash_105 (by decide) (fun h18 => ?_) (fun h18 => ?_)
                  · refine li_iinc (k0 := 1) (lv' := [(4, .int (iI (n7 + 1))), (6, .int (iI q7)), (0, .ref (ad 7 0)), (1, .int (iI st)), (2, .int (iI k)), (3, .int (iI wh)), (5, .int (iI p4))]) hx hb dX2_clash_120 hl rfl (by decide) rfl (fun ls hl => ?_)
                    refine li_iinc (k0 := 1) (lv' := [(6, .int (iI (q7 + 1))), (4, .int (iI (n7 + 1))), (0, .ref (ad 7 0)), (1, .int (iI st)), (2, .int (iI k)), (3, .int (iI wh)), (5, .int (iI p4))]) hx hb dX2_clash_123 hl rfl (by decide) rfl (fun ls hl => ?_)
                    refine lv_goto (tgt := 61) hx hb dX2_clash_126 (by decide) ?_
                    exact ih7 (q7 + 1, n7 + 1) (show (p4 + 1 ≤ (q7 + 1) ∧ (q7 + 1) ≤ 61) ∧ (0 ≤ (n7 + 1) ∧ (n7 + 1) ≤ k) ∧ (rowR (eff τ) st wh p4 (q7 + 1) (k - (n7 + 1)) = clsF (eff τ) st wh 0 k) from ⟨by omega, by omega, by rw [← hf7, ← rowR_s (ε := eff τ) st wh p4 (q := q7) (r := k - n7) (show q7 < τ 0 0 0 by omega) ⟨(show τ 2 p4 0 ≠ 0 by omega), (show τ 2 q7 0 ≠ 0 by omega), h17⟩ (by omega), show k - (n7 + 1) = k - n7 - 1 by omega]⟩) (show 0 ≤ 61 - (q7 + 1) by omega) (show 61 - (q7 + 1) < 61 - q7 by omega) ls (lv_sub hl [0, 1, 2, 3, 4, 5, 6] rfl)
                  · refine lv_iload_n hx hb dX2_clash_108 rfl (lv_at hl 5 rfl) ?_
                    refine li_if_ne (tgt := 117) hx hb (by unfold iR; omega) dX2_clash_109 (by decide) (fun h19 => ?_) (fun h19 => ?_)
                    · refine lv_iload hx hb dX2_clash_117 (lv_at hl 0 rfl) ?_
                      refine bw_i hx hb hr hlocks (by first | exact hU | simpa using hU) hF hlc ?_ dX2_clash_119
                      rw [← hf7, rowR_f (ε := eff τ) st wh p4 (q := q7) (r := k - n7) (show q7 < τ 0 0 0 by omega) ⟨(show τ 2 p4 0 ≠ 0 by omega), (show τ 2 q7 0 ≠ 0 by omega), h17⟩ (by omega)]; first | (rw [if_pos (by omega)]) | (rw [if_neg (by omega)])
                    · refine lv_iload hx hb dX2_clash_112 (lv_at hl 6 rfl) ?_
                      refine lv_goto (tgt := 119) hx hb dX2_clash_114 (by decide) ?_
                      refine bw_i hx hb hr hlocks (by first | exact hU | simpa using hU) hF hlc ?_ dX2_clash_119
                      rw [← hf7, rowR_f (ε := eff τ) st wh p4 (q := q7) (r := k - n7) (show q7 < τ 0 0 0 by omega) ⟨(show τ 2 p4 0 ≠ 0 by omega), (show τ 2 q7 0 ≠ 0 by omega), h17⟩ (by omega)]; first | (rw [if_pos (by omega)]) | (rw [if_neg (by omega)])
      · refine li_iconst hx hb dX2_clash_23 ?_
        refine lv_goto (tgt := 28) hx hb dX2_clash_24 (by decide) ?_
        exfalso
        omega
    · refine li_if_eq (tgt := 23) hx hb (by unfold iR; omega) dX2_clash_16 (by decide) (fun _ => ?_) (fun h => absurd (by decide) h)
      refine li_iconst hx hb dX2_clash_23 ?_
      refine lv_goto (tgt := 28) hx hb dX2_clash_24 (by decide) ?_
      exfalso
      omega
  · refine li_if_eq (tgt := 23) hx hb (by unfold iR; omega) dX2_clash_7 (by decide) (fun _ => ?_) (fun h => absurd (by decide) h)
    refine li_iconst hx hb dX2_clash_23 ?_
    refine lv_goto (tgt := 28) hx hb dX2_clash_24 (by decide) ?_
    exfalso
    omega

set_option maxHeartbeats 4000000 in
set_option maxRecDepth 100000 in
theorem c_X2_clash_f (l : Launch) (g : bxG) (ad : bxA) (σ τ : bxS) (w : bxW) (st k wh : Int) (hRst : iR st) (hRk : iR k) (hRwh : iR wh) (hBt : bx_B τ) (hM : bx_M τ) (hg : ¬ ((1 ≤ st ∧ st ≤ 2) ∧ 0 ≤ k ∧ 0 ≤ wh ∧ wh ≤ 1)) : Met l yX2_clash wsX2_clash ({ frames := 5, cells := 0, slots := 0, locals := 127 }) (va_Pc [.ref (ad 7 0), .int (iI st), .int (iI k), .int (iI wh)] (fun U => bx_I g ad σ τ w U)) (bq_W (some (.int (iI 0))) g ad σ τ (w.1, 1)) 0 0 (bq_fr g) := by
  refine Met.ofW (cc := cX2_clash) (maxL := 7) (ret := (some .int)) (by decide) rfl ?_
  intro Pg Ev s mI args below meth cd s₁ B hml hv
  obtain ⟨rfl, hU, hK⟩ := hv
  have hx := B.exec
  have hb := B.bytes
  have hr := B.returns
  have hts := atoms_spec (ws := wsX2_clash) B.pre
  have hown : s.vm.findClass RX2 = some mI.cls := findClass_of_methodNamed B.named
  have hlocks := B.notSynchronized
  have hF : bx_F g s.heap s.heap := bx_F.rf
  have hlc : bx_Lc g [] := bx_Lc.nil
  have hl := lv_entry ([.ref (ad 7 0), .int (iI st), .int (iI k), .int (iI wh)]) (n := 7) (Nat.le_of_ble_eq_true rfl)
  rw [lg_entry_eq]
  generalize (lg_sl ([.ref (ad 7 0), .int (iI st), .int (iI k), .int (iI wh)]) ++ List.replicate (7 - (lg_sl ([.ref (ad 7 0), .int (iI st), .int (iI k), .int (iI wh)])).length) Slot.unset).toArray = ls at hl ⊢
  have hl : lv_has ls 7 [(0, .ref (ad 7 0)), (1, .int (iI st)), (2, .int (iI k)), (3, .int (iI wh))] := hl
  have hinX2 : ∀ w ∈ wsX20, w ∈ wsX2_clash := by decide +kernel
  have hRst0 : -2147483648 ≤ st ∧ st < 2147483648 := hRst
  have hRk0 : -2147483648 ≤ k ∧ k < 2147483648 := hRk
  have hRwh0 : -2147483648 ≤ wh ∧ wh < 2147483648 := hRwh
  have hm0 := bB0 hBt
  refine lv_aload_n hx hb dX2_clash_0 rfl (lv_at hl 0 rfl) ?_
  refine lv_iload_n hx hb dX2_clash_1 rfl (lv_at hl 1 rfl) ?_
  refine li_iconst hx hb dX2_clash_2 ?_
  refine li_iconst hx hb dX2_clash_3 ?_
  refine bc_SB (As := [.int (iI st), .int (iI 1), .int (iI 2)]) (rest := [.ref (ad 7 0)]) ⟨hx, hb, hml, hown, hts⟩ (c_X2_isIn l g ad σ τ w st 1 2 (by unfold iR; omega) (by unfold iR; omega) (by unfold iR; omega)) (va_cwS 3 hts gX2_clash_X2_isIn rfl rfl rfl (by decide +kernel) ⟨Nat.le_of_ble_eq_true rfl, Nat.le_of_ble_eq_true rfl⟩) hK hU  rfl hl.1 rfl (Nat.le_of_ble_eq_true rfl) dX2_clash_4 ⟨Nat.le_of_ble_eq_true rfl, Nat.le_of_ble_eq_true rfl⟩ (fun h1 => ?_) (fun h1 => ?_)
  · refine li_if_eq (tgt := 23) hx hb (by unfold iR; omega) dX2_clash_7 (by decide) (fun h => absurd h (by decide)) (fun _ => ?_)
    refine lv_iload_n hx hb dX2_clash_10 rfl (lv_at hl 3 rfl) ?_
    refine li_iconst hx hb dX2_clash_11 ?_
    refine li_iconst hx hb dX2_clash_12 ?_
    refine bc_SB (As := [.int (iI wh), .int (iI 0), .int (iI 1)]) (rest := [.ref (ad 7 0)]) ⟨hx, hb, hml, hown, hts⟩ (c_X2_isIn l g ad σ τ w wh 0 1 (by unfold iR; omega) (by unfold iR; omega) (by unfold iR; omega)) (va_cwS 3 hts gX2_clash_X2_isIn rfl rfl rfl (by decide +kernel) ⟨Nat.le_of_ble_eq_true rfl, Nat.le_of_ble_eq_true rfl⟩) hK hU  rfl hl.1 rfl (Nat.le_of_ble_eq_true rfl) dX2_clash_13 ⟨Nat.le_of_ble_eq_true rfl, Nat.le_of_ble_eq_true rfl⟩ (fun h2 => ?_) (fun h2 => ?_)
    · refine li_if_eq (tgt := 23) hx hb (by unfold iR; omega) dX2_clash_16 (by decide) (fun h => absurd h (by decide)) (fun _ => ?_)
      refine lv_iload_n hx hb dX2_clash_19 rfl (lv_at hl 2 rfl) ?_
      refine li_if_ge (tgt := 27) hx hb (by unfold iR; omega) dX2_clash_20 (by decide) (fun h3 => ?_) (fun h3 => ?_)
      · refine li_iconst hx hb dX2_clash_27 ?_
        exfalso
        omega
      · refine li_iconst hx hb dX2_clash_23 ?_
        refine lv_goto (tgt := 28) hx hb dX2_clash_24 (by decide) ?_
        refine bp_X2_code hx hb hts hinX2 hown hK hU hlc (hts (.fieldLink RX2 42 "ClashBoxesModel" "code" "I") (by decide +kernel)) dX2_clash_28 (fun H locs hU hF1 hlc => ?_)
        have hF := hF.tr hF1
        have hU : bx_U g ad σ τ (w.1, 1) H := hU
        refine lv_aload_n hx hb dX2_clash_31 rfl (lv_at hl 0 rfl) ?_
        refine bg_X2_code hx hb hts hinX2 hown hK hU (hts (.fieldLink RX2 42 "ClashBoxesModel" "code" "I") (by decide +kernel)) dX2_clash_32 ?_
        refine W.eq (g2 := F0 mI 35 ls [.int (iI 1)]) rfl ?_
        refine li_if_le (tgt := 40) hx hb (by unfold iR; omega) dX2_clash_35 (by decide) (fun h => absurd h (by decide)) (fun _ => ?_)
        refine li_iconst hx hb dX2_clash_38 ?_
        refine bw_i hx hb hr hlocks (by first | exact hU | simpa using hU) hF hlc ?_ dX2_clash_39
        rfl
    · refine li_if_eq (tgt := 23) hx hb (by unfold iR; omega) dX2_clash_16 (by decide) (fun _ => ?_) (fun h => absurd (by decide) h)
      refine li_iconst hx hb dX2_clash_23 ?_
      refine lv_goto (tgt := 28) hx hb dX2_clash_24 (by decide) ?_
      refine bp_X2_code hx hb hts hinX2 hown hK hU hlc (hts (.fieldLink RX2 42 "ClashBoxesModel" "code" "I") (by decide +kernel)) dX2_clash_28 (fun H locs hU hF1 hlc => ?_)
      have hF := hF.tr hF1
      have hU : bx_U g ad σ τ (w.1, 1) H := hU
      refine lv_aload_n hx hb dX2_clash_31 rfl (lv_at hl 0 rfl) ?_
      refine bg_X2_code hx hb hts hinX2 hown hK hU (hts (.fieldLink RX2 42 "ClashBoxesModel" "code" "I") (by decide +kernel)) dX2_clash_32 ?_
      refine W.eq (g2 := F0 mI 35 ls [.int (iI 1)]) rfl ?_
      refine li_if_le (tgt := 40) hx hb (by unfold iR; omega) dX2_clash_35 (by decide) (fun h => absurd h (by decide)) (fun _ => ?_)
      refine li_iconst hx hb dX2_clash_38 ?_
      refine bw_i hx hb hr hlocks (by first | exact hU | simpa using hU) hF hlc ?_ dX2_clash_39
      rfl
  · refine li_if_eq (tgt := 23) hx hb (by unfold iR; omega) dX2_clash_7 (by decide) (fun _ => ?_) (fun h => absurd (by decide) h)
    refine li_iconst hx hb dX2_clash_23 ?_
    refine lv_goto (tgt := 28) hx hb dX2_clash_24 (by decide) ?_
    refine bp_X2_code hx hb hts hinX2 hown hK hU hlc (hts (.fieldLink RX2 42 "ClashBoxesModel" "code" "I") (by decide +kernel)) dX2_clash_28 (fun H locs hU hF1 hlc => ?_)
    have hF := hF.tr hF1
    have hU : bx_U g ad σ τ (w.1, 1) H := hU
    refine lv_aload_n hx hb dX2_clash_31 rfl (lv_at hl 0 rfl) ?_
    refine bg_X2_code hx hb hts hinX2 hown hK hU (hts (.fieldLink RX2 42 "ClashBoxesModel" "code" "I") (by decide +kernel)) dX2_clash_32 ?_
    refine W.eq (g2 := F0 mI 35 ls [.int (iI 1)]) rfl ?_
    refine li_if_le (tgt := 40) hx hb (by unfold iR; omega) dX2_clash_35 (by decide) (fun h => absurd h (by decide)) (fun _ => ?_)
    refine li_iconst hx hb dX2_clash_38 ?_
    refine bw_i hx hb hr hlocks (by first | exact hU | simpa using hU) hF hlc ?_ dX2_clash_39
    rfl
