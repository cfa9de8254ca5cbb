noncomputable def mem2 (τ : bxS) (M : Int → Int) (p : Int) (q : Int) : Prop := τ 2 q 0 ≠ 0 ∧ M q = p
noncomputable def grm (τ : bxS) (M : Int → Int) (p : Int) : Int := zB (1 < cnt (mem2 τ M p) 0 (τ 0 0 0))

set_option maxHeartbeats 4000000 in
set_option maxRecDepth 100000 in
theorem c_X2_groups (l : Launch) (g : bxG) (ad : bxA) (σ τ : bxS) (w : bxW) (N : Int → Int) (hBt : bx_B τ) (hM : bx_M τ) : Met l yX2_groups wsX2_groups ({ frames := 6, cells := 0, slots := 0, locals := 152 }) (va_Pc [.ref (ad 7 0)] (fun U => bx_I g ad σ (setF τ 10 N) w U)) (bq_W (some (.int (iI (sm (grm τ (gnm (eff τ) N)) (τ 0 0 0))))) g ad σ (setF τ 10 (gnm (eff τ) N)) (w.1, 0)) 0 0 (bq_fr g) := by
  refine Met.ofW (cc := cX2_groups) (maxL := 5) (ret := (some .int)) (by decide) rfl ?_
  intro Pg Ev s mI args below meth cd s₁ B hml hv
  obtain ⟨rfl, hU, hK⟩ := hv
  have hx := B.exec
  have hb := B.bytes
  have hr := B.returns
  have hts := atoms_spec (ws := wsX2_groups) B.pre
  have hown : s.vm.findClass RX2 = some mI.cls := findClass_of_methodNamed B.named
  have hlocks := B.notSynchronized
  have hF : bx_F g s.heap s.heap := bx_F.rf
  have hlc : bx_Lc g [] := bx_Lc.nil
  have hl := lv_entry ([.ref (ad 7 0)]) (n := 5) (Nat.le_of_ble_eq_true rfl)
  rw [lg_entry_eq]
  generalize (lg_sl ([.ref (ad 7 0)]) ++ List.replicate (5 - (lg_sl ([.ref (ad 7 0)])).length) Slot.unset).toArray = ls at hl ⊢
  have hl : lv_has ls 5 [(0, .ref (ad 7 0))] := hl
  have hinX2 : ∀ w ∈ wsX20, w ∈ wsX2_groups := by decide +kernel
  have hm0 := bB0 hBt
  refine lv_aload_n hx hb dX2_groups_0 rfl (lv_at hl 0 rfl) ?_
  refine li_iconst hx hb dX2_groups_1 ?_
  refine bp_X2_code hx hb hts hinX2 hown hK hU hlc (hts (.fieldLink RX2 42 "ClashBoxesModel" "code" "I") (by decide +kernel)) dX2_groups_2 (fun H locs hU hF1 hlc => ?_)
  have hF := hF.tr hF1
  have hU : bx_U g ad σ (setF τ 10 N) (w.1, 0) H := hU
  refine lv_aload_n hx hb dX2_groups_5 rfl (lv_at hl 0 rfl) ?_
  refine bc_VW (As := []) (rest := []) (kd := 7) (k := 0) (ci := 2) ⟨hx, hb, hml, hown, hts⟩ (c_X2_findGroups l g ad σ τ (w.1, 0) N hBt hM) (cwV 0 hts gX2_groups_X2_findGroups rfl rfl rfl (by decide +kernel) ⟨Nat.le_of_ble_eq_true rfl, Nat.le_of_ble_eq_true rfl⟩) hK hU hlc (bx_L0 (by omega)) rfl rfl rfl hl.1 rfl (Nat.le_of_ble_eq_true rfl) dX2_groups_6 ⟨Nat.le_of_ble_eq_true rfl, Nat.le_of_ble_eq_true rfl⟩ (fun H locs hU hF1 hlc => ?_)
  have hF := hF.tr hF1
  refine li_iconst hx hb dX2_groups_9 ?_
  refine lv_istore_n (lv' := [(1, .int (iI 0)), (0, .ref (ad 7 0))]) hx hb dX2_groups_10 rfl hl (by decide) rfl (fun ls hl => ?_)
  refine li_iconst hx hb dX2_groups_11 ?_
  refine lv_istore_n (lv' := [(2, .int (iI 0)), (1, .int (iI 0)), (0, .ref (ad 7 0))]) hx hb dX2_groups_12 rfl hl (by decide) rfl (fun ls hl => ?_)
  refine bl_loop (V := Int × Int) (nL := 5) (I := fun v => [(2, .int (iI v.1)), (1, .int (iI v.2)), (0, .ref (ad 7 0))]) (Inv := fun v => (0 ≤ v.1 ∧ v.1 ≤ τ 0 0 0) ∧ (v.2 = sm (grm τ (gnm (eff τ) N)) v.1)) (μ := fun v => 60 - v.1) ?_ (0, 0) (show (0 ≤ 0 ∧ 0 ≤ τ 0 0 0) ∧ (0 = sm (grm τ (gnm (eff τ) N)) 0) from ⟨by omega, rfl⟩) ls (lv_sub hl [0, 1, 2] rfl)
  rintro ⟨p1, n1⟩ hI ih1 ls hl
  have hI : (0 ≤ p1 ∧ p1 ≤ τ 0 0 0) ∧ (n1 = sm (grm τ (gnm (eff τ) N)) p1) := hI
  obtain ⟨ha1, hc1⟩ := hI
  have hl : lv_has ls 5 [(2, .int (iI p1)), (1, .int (iI n1)), (0, .ref (ad 7 0))] := hl
  have hm0 := bB0 hBt
  refine lv_iload_n hx hb dX2_groups_13 rfl (lv_at hl 0 rfl) ?_
  refine lv_aload_n hx hb dX2_groups_14 rfl (lv_at hl 2 rfl) ?_
  refine bg_X2_made hx hb hts hinX2 hown hK hU (hts (.fieldLink RX2 49 "ClashBoxesModel" "made" "I") (by decide +kernel)) dX2_groups_15 ?_
  refine W.eq (g2 := F0 mI 18 ls [.int (iI (τ 0 0 0)), .int (iI p1)]) rfl ?_
  have b2 := bB0 hBt
  refine li_icmp_ge (tgt := 89) hx hb (by unfold iR; omega) (by unfold iR; omega) dX2_groups_18 (by decide) (fun h3 => ?_) (fun h3 => ?_)
  · refine lv_iload_n hx hb dX2_groups_89 rfl (lv_at hl 1 rfl) ?_
    refine bw_i hx hb hr hlocks (by first | exact hU | simpa using hU) hF hlc ?_ dX2_groups_90
    rw [hc1, show p1 = τ 0 0 0 by omega]
  · refine li_iconst hx hb dX2_groups_21 ?_
    refine lv_istore_n (lv' := [(3, .int (iI 0)), (2, .int (iI p1)), (1, .int (iI n1)), (0, .ref (ad 7 0))]) hx hb dX2_groups_22 rfl hl (by decide) rfl (fun ls hl => ?_)
    refine li_iconst hx hb dX2_groups_23 ?_
    refine lv_istore (lv' := [(4, .int (iI 0)), (3, .int (iI 0)), (2, .int (iI p1)), (1, .int (iI n1)), (0, .ref (ad 7 0))]) hx hb dX2_groups_24 hl (by decide) rfl (fun ls hl => ?_)
    refine bl_loop (V := Int × Int) (nL := 5) (I := fun v => [(4, .int (iI v.1)), (3, .int (iI v.2)), (0, .ref (ad 7 0)), (1, .int (iI n1)), (2, .int (iI p1))]) (Inv := fun v => (0 ≤ v.1 ∧ v.1 ≤ τ 0 0 0) ∧ (v.2 = cnt (mem2 τ (gnm (eff τ) N) p1) 0 v.1)) (μ := fun v => 60 - v.1) ?_ (0, 0) (show (0 ≤ 0 ∧ 0 ≤ τ 0 0 0) ∧ (0 = cnt (mem2 τ (gnm (eff τ) N) p1) 0 0) from ⟨by omega, by rw [cnt_0 _ (by omega)]⟩) ls (lv_sub hl [0, 1, 4, 3, 2] rfl)
    rintro ⟨q4, k4⟩ hI ih4 ls hl
    have hI : (0 ≤ q4 ∧ q4 ≤ τ 0 0 0) ∧ (k4 = cnt (mem2 τ (gnm (eff τ) N) p1) 0 q4) := hI
    obtain ⟨hd4, he4⟩ := hI
    have hl : lv_has ls 5 [(4, .int (iI q4)), (3, .int (iI k4)), (0, .ref (ad 7 0)), (1, .int (iI n1)), (2, .int (iI p1))] := hl
    have hm0 := bB0 hBt
    have hcb := cnt_bd (mem2 τ (gnm (eff τ) N) p1) 0 q4
    refine lv_iload hx hb dX2_groups_26 (lv_at hl 0 rfl) ?_
    refine lv_aload_n hx hb dX2_groups_28 rfl (lv_at hl 2 rfl) ?_
    refine bg_X2_made hx hb hts hinX2 hown hK hU (hts (.fieldLink RX2 49 "ClashBoxesModel" "made" "I") (by decide +kernel)) dX2_groups_29 ?_
    refine W.eq (g2 := F0 mI 32 ls [.int (iI (τ 0 0 0)), .int (iI q4)]) rfl ?_
    have b5 := bB0 hBt
    refine li_icmp_ge (tgt := 70) hx hb (by unfold iR; omega) (by unfold iR; omega) dX2_groups_32 (by decide) (fun h6 => ?_) (fun h6 => ?_)
    · refine lv_iload_n hx hb dX2_groups_70 rfl (lv_at hl 3 rfl) ?_
      refine lv_iload_n hx hb dX2_groups_71 rfl (lv_at hl 1 rfl) ?_
      refine li_iconst hx hb dX2_groups_72 ?_
      refine li_icmp_le (tgt := 80) hx hb (by unfold iR; omega) (by unfold iR; omega) dX2_groups_73 (by decide) (fun h7 => ?_) (fun h7 => ?_)
      · refine li_iconst hx hb dX2_groups_80 ?_
        refine li_iadd hx hb dX2_groups_81 ?_
        refine lv_istore_n (lv' := [(1, .int (iI (n1 + 0))), (4, .int (iI q4)), (3, .int (iI k4)), (0, .ref (ad 7 0)), (2, .int (iI p1))]) hx hb dX2_groups_82 rfl hl (by decide) rfl (fun ls hl => ?_)
        refine li_iinc (k0 := 4) (lv' := [(2, .int (iI (p1 + 1))), (1, .int (iI (n1 + 0))), (4, .int (iI q4)), (3, .int (iI k4)), (0, .ref (ad 7 0))]) hx hb dX2_groups_83 hl rfl (by decide) rfl (fun ls hl => ?_)
        refine lv_goto (tgt := 13) hx hb dX2_groups_86 (by decide) ?_
        exact ih1 (p1 + 1, n1 + 0) (show (0 ≤ (p1 + 1) ∧ (p1 + 1) ≤ τ 0 0 0) ∧ ((n1 + 0) = sm (grm τ (gnm (eff τ) N)) (p1 + 1)) from ⟨by omega, by rw [sm_s _ (by omega), show ∀ x, grm τ (gnm (eff τ) N) x = zB (1 < cnt (mem2 τ (gnm (eff τ) N) x) 0 (τ 0 0 0)) from fun _ => rfl, zB_f (show ¬ 1 < cnt _ 0 (τ 0 0 0) by rw [show τ 0 0 0 = q4 by omega, ← he4]; omega), hc1]⟩) (show 0 ≤ 60 - (p1 + 1) by omega) (show 60 - (p1 + 1) < 60 - p1 by omega) ls (lv_sub hl [0, 1, 4] rfl)
      · refine li_iconst hx hb dX2_groups_76 ?_
        refine lv_goto (tgt := 81) hx hb dX2_groups_77 (by decide) ?_
        refine li_iadd hx hb dX2_groups_81 ?_
        refine lv_istore_n (lv' := [(1, .int (iI (n1 + 1))), (4, .int (iI q4)), (3, .int (iI k4)), (0, .ref (ad 7 0)), (2, .int (iI p1))]) hx hb dX2_groups_82 rfl hl (by decide) rfl (fun ls hl => ?_)
        refine li_iinc (k0 := 4) (lv' := [(2, .int (iI (p1 + 1))), (1, .int (iI (n1 + 1))), (4, .int (iI q4)), (3, .int (iI k4)), (0, .ref (ad 7 0))]) hx hb dX2_groups_83 hl rfl (by decide) rfl (fun ls hl => ?_)
        refine lv_goto (tgt := 13) hx hb dX2_groups_86 (by decide) ?_
        exact ih1 (p1 + 1, n1 + 1) (show (0 ≤ (p1 + 1) ∧ (p1 + 1) ≤ τ 0 0 0) ∧ ((n1 + 1) = sm (grm τ (gnm (eff τ) N)) (p1 + 1)) from ⟨by omega, by rw [sm_s _ (by omega), show ∀ x, grm τ (gnm (eff τ) N) x = zB (1 < cnt (mem2 τ (gnm (eff τ) N) x) 0 (τ 0 0 0)) from fun _ => rfl, zB_t (show 1 < cnt _ 0 (τ 0 0 0) by rw [show τ 0 0 0 = q4 by omega, ← he4]; omega), hc1]⟩) (show 0 ≤ 60 - (p1 + 1) by omega) (show 60 - (p1 + 1) < 60 - p1 by omega) ls (lv_sub hl [0, 1, 4] rfl)
    · refine lv_iload_n hx hb dX2_groups_35 rfl (lv_at hl 1 rfl) ?_
      refine lv_aload_n hx hb dX2_groups_36 rfl (lv_at hl 2 rfl) ?_
      refine bg_X2_isThere hx hb hts hinX2 hown hK hU (hts (.fieldLink RX2 7 "ClashBoxesModel" "isThere" "[Z") (by decide +kernel)) dX2_groups_37 ?_
      refine lv_iload hx hb dX2_groups_40 (lv_at hl 0 rfl) ?_
      refine bl_8 hx hb hK hU (by omega) (by omega) dX2_groups_42 ?_
      refine W.eq (g2 := F0 mI 43 ls [.int (iI (τ 2 q4 0)), .int (iI k4)]) rfl ?_
      have b8 := bB2 hBt (k := q4) (by omega) (by omega)
      refine li_if_eq (tgt := 61) hx hb (by unfold iR; omega) dX2_groups_43 (by decide) (fun h9 => ?_) (fun h9 => ?_)
      · refine li_iconst hx hb dX2_groups_61 ?_
        refine li_iadd hx hb dX2_groups_62 ?_
        refine lv_istore_n (lv' := [(3, .int (iI (k4 + 0))), (4, .int (iI q4)), (0, .ref (ad 7 0)), (1, .int (iI n1)), (2, .int (iI p1))]) hx hb dX2_groups_63 rfl hl (by decide) rfl (fun ls hl => ?_)
        refine li_iinc (k0 := 1) (lv' := [(4, .int (iI (q4 + 1))), (3, .int (iI (k4 + 0))), (0, .ref (ad 7 0)), (1, .int (iI n1)), (2, .int (iI p1))]) hx hb dX2_groups_64 hl rfl (by decide) rfl (fun ls hl => ?_)
        refine lv_goto (tgt := 26) hx hb dX2_groups_67 (by decide) ?_
        exact ih4 (q4 + 1, k4 + 0) (show (0 ≤ (q4 + 1) ∧ (q4 + 1) ≤ τ 0 0 0) ∧ ((k4 + 0) = cnt (mem2 τ (gnm (eff τ) N) p1) 0 (q4 + 1)) from ⟨by omega, by rw [cnt_s _ (by omega), zB_f (fun q9 => q9.1 h9)]; omega⟩) (show 0 ≤ 60 - (q4 + 1) by omega) (show 60 - (q4 + 1) < 60 - q4 by omega) ls (lv_sub hl [0, 1, 2, 3, 4] rfl)
      · have hgb : 0 ≤ (gnm (eff τ) N) q4 ∧ (gnm (eff τ) N) q4 < τ 0 0 0 := gnm_B (eff τ) N q4 (by omega) (show q4 < τ 0 0 0 by omega)
        refine lv_aload_n hx hb dX2_groups_46 rfl (lv_at hl 2 rfl) ?_
        refine bg_X2_groups hx hb hts hinX2 hown hK hU (hts (.fieldLink RX2 35 "ClashBoxesModel" "groups" "[I") (by decide +kernel)) dX2_groups_47 ?_
        refine lv_iload hx hb dX2_groups_50 (lv_at hl 0 rfl) ?_
        refine bl_16 hx hb hK hU (by omega) (by omega) dX2_groups_52 ?_
        refine W.eq (g2 := F0 mI 53 ls [.int (iI ((gnm (eff τ) N) q4)), .int (iI k4)]) rfl ?_
        refine lv_iload_n hx hb dX2_groups_53 rfl (lv_at hl 4 rfl) ?_
        refine li_icmp_ne (tgt := 61) hx hb (by unfold iR; omega) (by unfold iR; omega) dX2_groups_54 (by decide) (fun h11 => ?_) (fun h11 => ?_)
        · refine li_iconst hx hb dX2_groups_61 ?_
          refine li_iadd hx hb dX2_groups_62 ?_
          refine lv_istore_n (lv' := [(3, .int (iI (k4 + 0))), (4, .int (iI q4)), (0, .ref (ad 7 0)), (1, .int (iI n1)), (2, .int (iI p1))]) hx hb dX2_groups_63 rfl hl (by decide) rfl (fun ls hl => ?_)
          refine li_iinc (k0 := 1) (lv' := [(4, .int (iI (q4 + 1))), (3, .int (iI (k4 + 0))), (0, .ref (ad 7 0)), (1, .int (iI n1)), (2, .int (iI p1))]) hx hb dX2_groups_64 hl rfl (by decide) rfl (fun ls hl => ?_)
          refine lv_goto (tgt := 26) hx hb dX2_groups_67 (by decide) ?_
          exact ih4 (q4 + 1, k4 + 0) (show (0 ≤ (q4 + 1) ∧ (q4 + 1) ≤ τ 0 0 0) ∧ ((k4 + 0) = cnt (mem2 τ (gnm (eff τ) N) p1) 0 (q4 + 1)) from ⟨by omega, by rw [cnt_s _ (by omega), zB_f (fun q9 => h11 q9.2)]; omega⟩) (show 0 ≤ 60 - (q4 + 1) by omega) (show 60 - (q4 + 1) < 60 - q4 by omega) ls (lv_sub hl [0, 1, 2, 3, 4] rfl)
        · refine li_iconst hx hb dX2_groups_57 ?_
          refine lv_goto (tgt := 62) hx hb dX2_groups_58 (by decide) ?_
          refine li_iadd hx hb dX2_groups_62 ?_
          refine lv_istore_n (lv' := [(3, .int (iI (k4 + 1))), (4, .int (iI q4)), (0, .ref (ad 7 0)), (1, .int (iI n1)), (2, .int (iI p1))]) hx hb dX2_groups_63 rfl hl (by decide) rfl (fun ls hl => ?_)
          refine li_iinc (k0 := 1) (lv' := [(4, .int (iI (q4 + 1))), (3, .int (iI (k4 + 1))), (0, .ref (ad 7 0)), (1, .int (iI n1)), (2, .int (iI p1))]) hx hb dX2_groups_64 hl rfl (by decide) rfl (fun ls hl => ?_)
          refine lv_goto (tgt := 26) hx hb dX2_groups_67 (by decide) ?_
          exact ih4 (q4 + 1, k4 + 1) (show (0 ≤ (q4 + 1) ∧ (q4 + 1) ≤ τ 0 0 0) ∧ ((k4 + 1) = cnt (mem2 τ (gnm (eff τ) N) p1) 0 (q4 + 1)) from ⟨by omega, by rw [cnt_s _ (by omega), zB_t ⟨h9, h11⟩]; omega⟩) (show 0 ≤ 60 - (q4 + 1) by omega) (show 60 - (q4 + 1) < 60 - q4 by omega) ls (lv_sub hl [0, 1, 2, 3, 4] rfl)

set_option maxHeartbeats 4000000 in
set_option maxRecDepth 100000 in
theorem c_X2_group_t (l : Launch) (g : bxG) (ad : bxA) (σ τ : bxS) (w : bxW) (N : Int → Int) (p : Int) (hRp : iR p) (hBt : bx_B τ) (hM : bx_M τ) (hg : 0 ≤ p ∧ p < 60 ∧ τ 2 p 0 ≠ 0) : Met l yX2_group wsX2_group ({ frames := 6, cells := 0, slots := 0, locals := 152 }) (va_Pc [.ref (ad 7 0), .int (iI p)] (fun U => bx_I g ad σ (setF τ 10 N) w U)) (bq_W (some (.int (iI ((gnm (eff τ) N) p)))) g ad σ (setF τ 10 (gnm (eff τ) N)) (w.1, 0)) 0 0 (bq_fr g) := by
  refine Met.ofW (cc := cX2_group) (maxL := 2) (ret := (some .int)) (by decide) rfl ?_
  intro Pg Ev s mI args below meth cd s₁ B hml hv
  obtain ⟨rfl, hU, hK⟩ := hv
  have hx := B.exec
  have hb := B.bytes
  have hr := B.returns
  have hts := atoms_spec (ws := wsX2_group) B.pre
  have hown : s.vm.findClass RX2 = some mI.cls := findClass_of_methodNamed B.named
  have hlocks := B.notSynchronized
  have hF : bx_F g s.heap s.heap := bx_F.rf
  have hlc : bx_Lc g [] := bx_Lc.nil
  have hl := lv_entry ([.ref (ad 7 0), .int (iI p)]) (n := 2) (Nat.le_of_ble_eq_true rfl)
  rw [lg_entry_eq]
  generalize (lg_sl ([.ref (ad 7 0), .int (iI p)]) ++ List.replicate (2 - (lg_sl ([.ref (ad 7 0), .int (iI p)])).length) Slot.unset).toArray = ls at hl ⊢
  have hl : lv_has ls 2 [(0, .ref (ad 7 0)), (1, .int (iI p))] := hl
  have hinX2 : ∀ w ∈ wsX20, w ∈ wsX2_group := by decide +kernel
  have hRp0 : -2147483648 ≤ p ∧ p < 2147483648 := hRp
  have hm0 := bB0 hBt
  have hpl := bB2 hBt (k := p) (by omega) (by omega)
  refine lv_aload_n hx hb dX2_group_0 rfl (lv_at hl 0 rfl) ?_
  refine lv_aload_n hx hb dX2_group_1 rfl (lv_at hl 0 rfl) ?_
  refine lv_iload_n hx hb dX2_group_2 rfl (lv_at hl 1 rfl) ?_
  refine bc_VB (As := [.int (iI p)]) (rest := [.ref (ad 7 0)]) (kd := 7) (k := 0) (ci := 2) ⟨hx, hb, hml, hown, hts⟩ (c_X2_isPart_N l g ad σ τ w N p (by unfold iR; omega) hBt) (cwV 1 hts gX2_group_X2_isPart rfl rfl rfl (by decide +kernel) ⟨Nat.le_of_ble_eq_true rfl, Nat.le_of_ble_eq_true rfl⟩) hK hU (bx_L0 (by omega)) rfl rfl rfl hl.1 rfl (Nat.le_of_ble_eq_true rfl) dX2_group_3 ⟨Nat.le_of_ble_eq_true rfl, Nat.le_of_ble_eq_true rfl⟩ (fun h1 => ?_) (fun h1 => ?_)
  · refine li_if_eq (tgt := 13) hx hb (by unfold iR; omega) dX2_group_6 (by decide) (fun h => absurd h (by decide)) (fun _ => ?_)
    refine li_iconst hx hb dX2_group_9 ?_
    refine lv_goto (tgt := 14) hx hb dX2_group_10 (by decide) ?_
    refine bp_X2_code hx hb hts hinX2 hown hK hU hlc (hts (.fieldLink RX2 42 "ClashBoxesModel" "code" "I") (by decide +kernel)) dX2_group_14 (fun H locs hU hF1 hlc => ?_)
    have hF := hF.tr hF1
    have hU : bx_U g ad σ (setF τ 10 N) (w.1, 0) H := hU
    refine lv_aload_n hx hb dX2_group_17 rfl (lv_at hl 0 rfl) ?_
    refine bg_X2_code hx hb hts hinX2 hown hK hU (hts (.fieldLink RX2 42 "ClashBoxesModel" "code" "I") (by decide +kernel)) dX2_group_18 ?_
    refine W.eq (g2 := F0 mI 21 ls [.int (iI 0)]) rfl ?_
    refine li_if_le (tgt := 26) hx hb (by unfold iR; omega) dX2_group_21 (by decide) (fun _ => ?_) (fun h => absurd (by decide) h)
    refine lv_aload_n hx hb dX2_group_26 rfl (lv_at hl 0 rfl) ?_
    refine bc_VW (As := []) (rest := []) (kd := 7) (k := 0) (ci := 2) ⟨hx, hb, hml, hown, hts⟩ (c_X2_findGroups l g ad σ τ (w.1, 0) N hBt hM) (cwV 0 hts gX2_group_X2_findGroups rfl rfl rfl (by decide +kernel) ⟨Nat.le_of_ble_eq_true rfl, Nat.le_of_ble_eq_true rfl⟩) hK hU hlc (bx_L0 (by omega)) rfl rfl rfl hl.1 rfl (Nat.le_of_ble_eq_true rfl) dX2_group_27 ⟨Nat.le_of_ble_eq_true rfl, Nat.le_of_ble_eq_true rfl⟩ (fun H locs hU hF1 hlc => ?_)
    have hF := hF.tr hF1
    refine lv_aload_n hx hb dX2_group_30 rfl (lv_at hl 0 rfl) ?_
    refine bg_X2_groups hx hb hts hinX2 hown hK hU (hts (.fieldLink RX2 35 "ClashBoxesModel" "groups" "[I") (by decide +kernel)) dX2_group_31 ?_
    refine lv_iload_n hx hb dX2_group_34 rfl (lv_at hl 1 rfl) ?_
    refine bl_16 hx hb hK hU (by omega) (by omega) dX2_group_35 ?_
    refine W.eq (g2 := F0 mI 36 ls [.int (iI ((gnm (eff τ) N) p))]) rfl ?_
    refine bw_i hx hb hr hlocks (by first | exact hU | simpa using hU) hF hlc ?_ dX2_group_36
    rfl
  · refine li_if_eq (tgt := 13) hx hb (by unfold iR; omega) dX2_group_6 (by decide) (fun _ => ?_) (fun h => absurd (by decide) h)
    refine li_iconst hx hb dX2_group_13 ?_
    exfalso
    omega

set_option maxHeartbeats 4000000 in
set_option maxRecDepth 100000 in
theorem c_X2_group_f (l : Launch) (g : bxG) (ad : bxA) (σ τ : bxS) (w : bxW) (p : Int) (hRp : iR p) (hBt : bx_B τ) (hg : ¬ (0 ≤ p ∧ p < 60 ∧ τ 2 p 0 ≠ 0)) : Met l yX2_group wsX2_group ({ frames := 6, cells := 0, slots := 0, locals := 152 }) (va_Pc [.ref (ad 7 0), .int (iI p)] (fun U => bx_I g ad σ τ w U)) (bq_W (some (.int (iI 0))) g ad σ τ (w.1, 1)) 0 0 (bq_fr g) := by
  refine Met.ofW (cc := cX2_group) (maxL := 2) (ret := (some .int)) (by decide) rfl ?_
  intro Pg Ev s mI args below meth cd s₁ B hml hv
  obtain ⟨rfl, hU, hK⟩ := hv
  have hx := B.exec
  have hb := B.bytes
  have hr := B.returns
  have hts := atoms_spec (ws := wsX2_group) B.pre
  have hown : s.vm.findClass RX2 = some mI.cls := findClass_of_methodNamed B.named
  have hlocks := B.notSynchronized
  have hF : bx_F g s.heap s.heap := bx_F.rf
  have hlc : bx_Lc g [] := bx_Lc.nil
  have hl := lv_entry ([.ref (ad 7 0), .int (iI p)]) (n := 2) (Nat.le_of_ble_eq_true rfl)
  rw [lg_entry_eq]
  generalize (lg_sl ([.ref (ad 7 0), .int (iI p)]) ++ List.replicate (2 - (lg_sl ([.ref (ad 7 0), .int (iI p)])).length) Slot.unset).toArray = ls at hl ⊢
  have hl : lv_has ls 2 [(0, .ref (ad 7 0)), (1, .int (iI p))] := hl
  have hinX2 : ∀ w ∈ wsX20, w ∈ wsX2_group := by decide +kernel
  have hRp0 : -2147483648 ≤ p ∧ p < 2147483648 := hRp
  refine lv_aload_n hx hb dX2_group_0 rfl (lv_at hl 0 rfl) ?_
  refine lv_aload_n hx hb dX2_group_1 rfl (lv_at hl 0 rfl) ?_
  refine lv_iload_n hx hb dX2_group_2 rfl (lv_at hl 1 rfl) ?_
  refine bc_VB (As := [.int (iI p)]) (rest := [.ref (ad 7 0)]) (kd := 7) (k := 0) (ci := 2) ⟨hx, hb, hml, hown, hts⟩ (c_X2_isPart l g ad σ τ w p (by unfold iR; omega) hBt) (cwV 1 hts gX2_group_X2_isPart rfl rfl rfl (by decide +kernel) ⟨Nat.le_of_ble_eq_true rfl, Nat.le_of_ble_eq_true rfl⟩) hK hU (bx_L0 (by omega)) rfl rfl rfl hl.1 rfl (Nat.le_of_ble_eq_true rfl) dX2_group_3 ⟨Nat.le_of_ble_eq_true rfl, Nat.le_of_ble_eq_true rfl⟩ (fun h1 => ?_) (fun h1 => ?_)
  · refine li_if_eq (tgt := 13) hx hb (by unfold iR; omega) dX2_group_6 (by decide) (fun h => absurd h (by decide)) (fun _ => ?_)
    refine li_iconst hx hb dX2_group_9 ?_
    refine lv_goto (tgt := 14) hx hb dX2_group_10 (by decide) ?_
    exfalso
    omega
  · refine li_if_eq (tgt := 13) hx hb (by unfold iR; omega) dX2_group_6 (by decide) (fun _ => ?_) (fun h => absurd (by decide) h)
    refine li_iconst hx hb dX2_group_13 ?_
    refine bp_X2_code hx hb hts hinX2 hown hK hU hlc (hts (.fieldLink RX2 42 "ClashBoxesModel" "code" "I") (by decide +kernel)) dX2_group_14 (fun H locs hU hF1 hlc => ?_)
    have hF := hF.tr hF1
    have hU : bx_U g ad σ τ (w.1, 1) H := hU
    refine lv_aload_n hx hb dX2_group_17 rfl (lv_at hl 0 rfl) ?_
    refine bg_X2_code hx hb hts hinX2 hown hK hU (hts (.fieldLink RX2 42 "ClashBoxesModel" "code" "I") (by decide +kernel)) dX2_group_18 ?_
    refine W.eq (g2 := F0 mI 21 ls [.int (iI 1)]) rfl ?_
    refine li_if_le (tgt := 26) hx hb (by unfold iR; omega) dX2_group_21 (by decide) (fun h => absurd h (by decide)) (fun _ => ?_)
    refine li_iconst hx hb dX2_group_24 ?_
    refine bw_i hx hb hr hlocks (by first | exact hU | simpa using hU) hF hlc ?_ dX2_group_25
    rfl
