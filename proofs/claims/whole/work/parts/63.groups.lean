theorem c_X1_nameGroups_Z (l : Launch) (g : bxG) (ad : bxA) (σ τ : bxS) (w : bxW) (Z N : Int → Int) (hB : bx_B σ) : Met l yX1_nameGroups wsX1_nameGroups ({ frames := 6, cells := 0, slots := 0, locals := 144 }) (va_Pc [.ref (ad 0 0)] (fun U => bx_I g ad (setF (setF σ 11 Z) 10 N) τ w U)) (bq_W none g ad (setF (setF σ 11 Z) 10 (gnm σ N)) τ w) 0 0 (bq_fr g) := by
  have h := c_X1_nameGroups l g ad (setF σ 11 Z) τ w N (bx_B.ag (ag_setF σ (by omega) Z) hB)
  rw [gnm_ag (ag_setF σ (by omega) Z)] at h
  exact h

set_option maxHeartbeats 4000000 in
set_option maxRecDepth 100000 in
theorem c_X1_groups (l : Launch) (g : bxG) (ad : bxA) (σ τ : bxS) (w : bxW) (Z : Int → Int) (N : Int → Int) (hB : bx_B σ) : Met l yX1_groups wsX1_groups ({ frames := 7, cells := 0, slots := 0, locals := 166 }) (va_Pc [.ref (ad 0 0)] (fun U => bx_I g ad (setF (setF σ 11 Z) 10 N) τ w U)) (bq_W (some (.int (iI (sm (grs (gnm σ N)) (σ 0 0 0))))) g ad (setF (setF σ 11 (szf (gnm σ N) Z (σ 0 0 0) (σ 0 0 0))) 10 (gnm σ N)) τ w) 0 0 (bq_fr g) := by
  refine Met.ofW (cc := cX1_groups) (maxL := 4) (ret := (some .int)) (by decide) rfl ?_
  intro Pg Ev s mI args below meth cd s₁ B hml hv
  obtain ⟨rfl, hU, hK⟩ := hv
  have hx := B.exec
  have hb := B.bytes
  have hr := B.returns
  have hts := atoms_spec (ws := wsX1_groups) B.pre
  have hown : s.vm.findClass RX1 = some mI.cls := findClass_of_methodNamed B.named
  have hlocks := B.notSynchronized
  have hF : bx_F g s.heap s.heap := bx_F.rf
  have hlc : bx_Lc g [] := bx_Lc.nil
  have hl := lv_entry ([.ref (ad 0 0)]) (n := 4) (Nat.le_of_ble_eq_true rfl)
  rw [lg_entry_eq]
  generalize (lg_sl ([.ref (ad 0 0)]) ++ List.replicate (4 - (lg_sl ([.ref (ad 0 0)])).length) Slot.unset).toArray = ls at hl ⊢
  have hl : lv_has ls 4 [(0, .ref (ad 0 0))] := hl
  have hinX1 : ∀ w ∈ wsX10, w ∈ wsX1_groups := by decide +kernel
  have hm0 := bB0 hB
  refine lv_aload_n hx hb dX1_groups_0 rfl (lv_at hl 0 rfl) ?_
  refine bc_VW (As := []) (rest := []) (kd := 0) (k := 0) (ci := 1) ⟨hx, hb, hml, hown, hts⟩ (c_X1_nameGroups_Z l g ad σ τ w Z N hB) (cwV 0 hts gX1_groups_X1_nameGroups rfl rfl rfl (by decide +kernel) ⟨Nat.le_of_ble_eq_true rfl, Nat.le_of_ble_eq_true rfl⟩) hK hU hlc (bx_L0 (by omega)) rfl rfl rfl hl.1 rfl (Nat.le_of_ble_eq_true rfl) dX1_groups_1 ⟨Nat.le_of_ble_eq_true rfl, Nat.le_of_ble_eq_true rfl⟩ (fun H locs hU hF1 hlc => ?_)
  have hF := hF.tr hF1
  refine li_iconst hx hb dX1_groups_4 ?_
  refine lv_istore_n (lv' := [(1, .int (iI 0)), (0, .ref (ad 0 0))]) hx hb dX1_groups_5 rfl hl (by decide) rfl (fun ls hl => ?_)
  refine bl_loopW (V := Int) (nL := 4) (S := fun v => setF (setF σ 11 (nz Z v)) 10 (gnm σ N)) (T := fun v => τ) (I := fun v => [(1, .int (iI v)), (0, .ref (ad 0 0))]) (Inv := fun v => (0 ≤ v ∧ v ≤ σ 0 0 0)) (μ := fun v => 60 - v) ?_ (0) _ _ (show (0 ≤ 0 ∧ 0 ≤ σ 0 0 0) from (by omega)) (by show bx_U g ad (setF (setF σ 11 (nz Z 0)) 10 (gnm σ N)) τ w _; rw [nz_0]; exact hU) hF hlc ls (lv_sub hl [0, 1] rfl)
  intro i1 H locs hI hU hF hlc ih1 ls hl
  have hI : (0 ≤ i1 ∧ i1 ≤ σ 0 0 0) := hI
  have ha1 := hI
  have hl : lv_has ls 4 [(1, .int (iI i1)), (0, .ref (ad 0 0))] := hl
  have hU : bx_U g ad (setF (setF σ 11 (nz Z i1)) 10 (gnm σ N)) τ w H := hU
  have hm0 := bB0 hB
  refine lv_iload_n hx hb dX1_groups_6 rfl (lv_at hl 0 rfl) ?_
  refine lv_aload_n hx hb dX1_groups_7 rfl (lv_at hl 1 rfl) ?_
  refine bg_X1_made hx hb hts hinX1 hown hK hU (hts (.fieldLink RX1 19 "ClashBoxes" "made" "I") (by decide +kernel)) dX1_groups_8 ?_
  refine W.eq (g2 := F0 mI 11 ls [.int (iI (σ 0 0 0)), .int (iI i1)]) rfl ?_
  refine li_icmp_ge (tgt := 27) hx hb (by unfold iR; omega) (by unfold iR; omega) dX1_groups_11 (by decide) (fun h2 => ?_) (fun h2 => ?_)
  · refine li_iconst hx hb dX1_groups_27 ?_
    refine lv_istore_n (lv' := [(1, .int (iI 0)), (0, .ref (ad 0 0))]) hx hb dX1_groups_28 rfl hl (by decide) rfl (fun ls hl => ?_)
    refine li_iconst hx hb dX1_groups_29 ?_
    refine lv_istore_n (lv' := [(2, .int (iI 0)), (1, .int (iI 0)), (0, .ref (ad 0 0))]) hx hb dX1_groups_30 rfl hl (by decide) rfl (fun ls hl => ?_)
    refine bl_loopW (V := Int × Int) (nL := 4) (S := fun v => setF (setF σ 11 (szf (gnm σ N) Z (σ 0 0 0) v.1)) 10 (gnm σ N)) (T := fun v => τ) (I := fun v => [(2, .int (iI v.1)), (1, .int (iI v.2)), (0, .ref (ad 0 0))]) (Inv := fun v => (0 ≤ v.1 ∧ v.1 ≤ σ 0 0 0) ∧ (v.2 = sm (grs (gnm σ N)) v.1)) (μ := fun v => 60 - v.1) ?_ (0, 0) _ _ (show (0 ≤ 0 ∧ 0 ≤ σ 0 0 0) ∧ (0 = sm (grs (gnm σ N)) 0) from ⟨by omega, rfl⟩) (by show bx_U g ad (setF (setF σ 11 (szf (gnm σ N) Z (σ 0 0 0) 0)) 10 (gnm σ N)) τ w _; rw [szf_0]; (have e9 : i1 = σ 0 0 0 := by omega); rw [e9] at hU; exact hU) hF hlc ls (lv_sub hl [0, 1, 2] rfl)
    rintro ⟨j3, k3⟩ H locs hI hU hF hlc ih3 ls hl
    have hI : (0 ≤ j3 ∧ j3 ≤ σ 0 0 0) ∧ (k3 = sm (grs (gnm σ N)) j3) := hI
    obtain ⟨hb3, hc3⟩ := hI
    have hl : lv_has ls 4 [(2, .int (iI j3)), (1, .int (iI k3)), (0, .ref (ad 0 0))] := hl
    have hU : bx_U g ad (setF (setF σ 11 (szf (gnm σ N) Z (σ 0 0 0) j3)) 10 (gnm σ N)) τ w H := hU
    have hm0 := bB0 hB
    refine lv_iload_n hx hb dX1_groups_31 rfl (lv_at hl 0 rfl) ?_
    refine lv_aload_n hx hb dX1_groups_32 rfl (lv_at hl 2 rfl) ?_
    refine bg_X1_made hx hb hts hinX1 hown hK hU (hts (.fieldLink RX1 19 "ClashBoxes" "made" "I") (by decide +kernel)) dX1_groups_33 ?_
    refine W.eq (g2 := F0 mI 36 ls [.int (iI (σ 0 0 0)), .int (iI j3)]) rfl ?_
    refine li_icmp_ge (tgt := 75) hx hb (by unfold iR; omega) (by unfold iR; omega) dX1_groups_36 (by decide) (fun h4 => ?_) (fun h4 => ?_)
    · refine lv_iload_n hx hb dX1_groups_75 rfl (lv_at hl 1 rfl) ?_
      refine bw_i hx hb hr hlocks (by (have e9 : j3 = σ 0 0 0 := by omega); rw [e9] at hU; exact hU) hF hlc ?_ dX1_groups_76
      rw [hc3, show j3 = σ 0 0 0 by omega]
    · have hgb := gnm_B σ N j3 (by omega) (by omega)
      have hsz := szf_at (gnm σ N) Z (n := σ 0 0 0) j3 hgb
      have hcb := cnt_bd (fun s => (gnm σ N) s = (gnm σ N) j3) 0 j3
      refine lv_aload_n hx hb dX1_groups_39 rfl (lv_at hl 2 rfl) ?_
      refine bg_X1_names hx hb hts hinX1 hown hK hU (hts (.fieldLink RX1 26 "ClashBoxes" "names" "[I") (by decide +kernel)) dX1_groups_40 ?_
      refine lv_iload_n hx hb dX1_groups_43 rfl (lv_at hl 0 rfl) ?_
      refine bl_3 hx hb hK hU (by omega) (by omega) dX1_groups_44 ?_
      refine W.eq (g2 := F0 mI 45 ls [.int (iI ((gnm σ N) j3))]) rfl ?_
      refine lv_istore_n (lv' := [(3, .int (iI ((gnm σ N) j3))), (2, .int (iI j3)), (1, .int (iI k3)), (0, .ref (ad 0 0))]) hx hb dX1_groups_45 rfl hl (by decide) rfl (fun ls hl => ?_)
      refine lv_aload_n hx hb dX1_groups_46 rfl (lv_at hl 3 rfl) ?_
      refine bg_X1_sizes hx hb hts hinX1 hown hK hU (hts (.fieldLink RX1 30 "ClashBoxes" "sizes" "[I") (by decide +kernel)) dX1_groups_47 ?_
      refine lv_iload_n hx hb dX1_groups_50 rfl (lv_at hl 0 rfl) ?_
      refine lv_dup2_11 hx hb dX1_groups_51 rfl rfl ?_
      refine bl_4 hx hb hK hU (by omega) (by omega) dX1_groups_52 ?_
      refine W.eq (g2 := F0 mI 53 ls [.int (iI ((szf (gnm σ N) Z (σ 0 0 0) j3) ((gnm σ N) j3))), .int (iI ((gnm σ N) j3)), .ref (ad 4 0)]) rfl ?_
      refine li_iconst hx hb dX1_groups_53 ?_
      refine li_iadd hx hb dX1_groups_54 ?_
      refine bs_4 hx hb hK hU hlc (by omega) (by omega) dX1_groups_55 (fun H locs hU hF1 hlc => ?_)
      have hF := hF.tr hF1
      have hU : bx_U g ad (setF (setF σ 11 (fun j => if j = (gnm σ N) j3 then ((szf (gnm σ N) Z (σ 0 0 0) j3) ((gnm σ N) j3)) + 1 else (szf (gnm σ N) Z (σ 0 0 0) j3) j)) 10 (gnm σ N)) τ w H := by rw [← up3_setF2 _ (by omega)]; exact hU
      refine lv_aload_n hx hb dX1_groups_56 rfl (lv_at hl 3 rfl) ?_
      refine bg_X1_sizes hx hb hts hinX1 hown hK hU (hts (.fieldLink RX1 30 "ClashBoxes" "sizes" "[I") (by decide +kernel)) dX1_groups_57 ?_
      refine lv_iload_n hx hb dX1_groups_60 rfl (lv_at hl 0 rfl) ?_
      refine bl_4 hx hb hK hU (by omega) (by omega) dX1_groups_61 ?_
      refine W.eq (g2 := F0 mI 62 ls [.int (iI ((fun j => if j = (gnm σ N) j3 then ((szf (gnm σ N) Z (σ 0 0 0) j3) ((gnm σ N) j3)) + 1 else (szf (gnm σ N) Z (σ 0 0 0) j3) j) ((gnm σ N) j3)))]) rfl ?_
      refine W.eq (g2 := F0 mI 62 ls [.int (iI (szf (gnm σ N) Z (σ 0 0 0) j3 ((gnm σ N) j3) + 1))]) (by simp only [if_true]) ?_
      refine li_iconst hx hb dX1_groups_62 ?_
      refine li_icmp_ne (tgt := 69) hx hb (by unfold iR; omega) (by unfold iR; omega) dX1_groups_63 (by decide) (fun h5 => ?_) (fun h5 => ?_)
      · refine li_iinc (k0 := 1) (lv' := [(2, .int (iI (j3 + 1))), (3, .int (iI ((gnm σ N) j3))), (1, .int (iI k3)), (0, .ref (ad 0 0))]) hx hb dX1_groups_69 hl rfl (by decide) rfl (fun ls hl => ?_)
        refine lv_goto (tgt := 31) hx hb dX1_groups_72 (by decide) ?_
        exact ih3 (j3 + 1, k3) _ _ (show (0 ≤ (j3 + 1) ∧ (j3 + 1) ≤ σ 0 0 0) ∧ (k3 = sm (grs (gnm σ N)) (j3 + 1)) from ⟨by omega, by rw [sm_s _ (by omega), show grs (gnm σ N) j3 = zB (cnt (fun u => (gnm σ N) u = (gnm σ N) j3) 0 (j3 + 1) = 2) from rfl, zB_f (by rw [cnt_s _ (by omega), zB_t rfl]; omega)]; omega⟩) (by show bx_U g ad (setF (setF σ 11 (szf (gnm σ N) Z (σ 0 0 0) (j3 + 1))) 10 (gnm σ N)) τ w _; rw [← szf_s (gnm σ N) Z (show 0 ≤ j3 by omega) hgb]; exact hU) hF hlc (show 0 ≤ 60 - (j3 + 1) by omega) (show 60 - (j3 + 1) < 60 - j3 by omega) ls (lv_sub hl [0, 2, 3] rfl)
      · refine li_iinc (k0 := 2) (lv' := [(1, .int (iI (k3 + 1))), (3, .int (iI ((gnm σ N) j3))), (2, .int (iI j3)), (0, .ref (ad 0 0))]) hx hb dX1_groups_66 hl rfl (by decide) rfl (fun ls hl => ?_)
        refine li_iinc (k0 := 2) (lv' := [(2, .int (iI (j3 + 1))), (1, .int (iI (k3 + 1))), (3, .int (iI ((gnm σ N) j3))), (0, .ref (ad 0 0))]) hx hb dX1_groups_69 hl rfl (by decide) rfl (fun ls hl => ?_)
        refine lv_goto (tgt := 31) hx hb dX1_groups_72 (by decide) ?_
        exact ih3 (j3 + 1, k3 + 1) _ _ (show (0 ≤ (j3 + 1) ∧ (j3 + 1) ≤ σ 0 0 0) ∧ ((k3 + 1) = sm (grs (gnm σ N)) (j3 + 1)) from ⟨by omega, by rw [sm_s _ (by omega), show grs (gnm σ N) j3 = zB (cnt (fun u => (gnm σ N) u = (gnm σ N) j3) 0 (j3 + 1) = 2) from rfl, zB_t (by rw [cnt_s _ (by omega), zB_t rfl]; omega)]; omega⟩) (by show bx_U g ad (setF (setF σ 11 (szf (gnm σ N) Z (σ 0 0 0) (j3 + 1))) 10 (gnm σ N)) τ w _; rw [← szf_s (gnm σ N) Z (show 0 ≤ j3 by omega) hgb]; exact hU) hF hlc (show 0 ≤ 60 - (j3 + 1) by omega) (show 60 - (j3 + 1) < 60 - j3 by omega) ls (lv_sub hl [0, 1, 3] rfl)
  · refine lv_aload_n hx hb dX1_groups_14 rfl (lv_at hl 1 rfl) ?_
    refine bg_X1_sizes hx hb hts hinX1 hown hK hU (hts (.fieldLink RX1 30 "ClashBoxes" "sizes" "[I") (by decide +kernel)) dX1_groups_15 ?_
    refine lv_iload_n hx hb dX1_groups_18 rfl (lv_at hl 0 rfl) ?_
    refine li_iconst hx hb dX1_groups_19 ?_
    refine bs_4 hx hb hK hU hlc (by omega) (by omega) dX1_groups_20 (fun H locs hU hF1 hlc => ?_)
    have hF := hF.tr hF1
    have hU : bx_U g ad (setF (setF σ 11 (fun j => if j = i1 then 0 else (nz Z i1) j)) 10 (gnm σ N)) τ w H := by rw [← up3_setF2 _ (by omega)]; exact hU
    refine li_iinc (k0 := 0) (lv' := [(1, .int (iI (i1 + 1))), (0, .ref (ad 0 0))]) hx hb dX1_groups_21 hl rfl (by decide) rfl (fun ls hl => ?_)
    refine lv_goto (tgt := 6) hx hb dX1_groups_24 (by decide) ?_
    exact ih1 (i1 + 1) _ _ (show (0 ≤ (i1 + 1) ∧ (i1 + 1) ≤ σ 0 0 0) from (by omega)) (by show bx_U g ad (setF (setF σ 11 (nz Z (i1 + 1))) 10 (gnm σ N)) τ w _; rw [← nz_s Z (show 0 ≤ i1 by omega)]; exact hU) hF hlc (show 0 ≤ 60 - (i1 + 1) by omega) (show 60 - (i1 + 1) < 60 - i1 by omega) ls (lv_sub hl [0, 1] rfl)

set_option maxHeartbeats 4000000 in
set_option maxRecDepth 100000 in
theorem c_X1_group_t (l : Launch) (g : bxG) (ad : bxA) (σ τ : bxS) (w : bxW) (N : Int → Int) (p : Int) (hRp : iR p) (hB : bx_B σ) (hg : 0 ≤ p ∧ p < 60 ∧ σ 2 p 0 ≠ 0) : Met l yX1_group wsX1_group ({ frames := 7, cells := 0, slots := 0, locals := 166 }) (va_Pc [.ref (ad 0 0), .int (iI p)] (fun U => bx_I g ad (setF σ 10 N) τ w U)) (bq_W (some (.int (iI (gnm σ N p)))) g ad (setF σ 10 (gnm σ N)) τ w) 0 0 (bq_fr g) := by
  refine Met.ofW (cc := cX1_group) (maxL := 2) (ret := (some .int)) (by decide) rfl ?_
  intro Pg Ev s mI args below meth cd s₁ B hml hv
  obtain ⟨rfl, hU, hK⟩ := hv
  have hx := B.exec
  have hb := B.bytes
  have hr := B.returns
  have hts := atoms_spec (ws := wsX1_group) B.pre
  have hown : s.vm.findClass RX1 = some mI.cls := findClass_of_methodNamed B.named
  have hlocks := B.notSynchronized
  have hF : bx_F g s.heap s.heap := bx_F.rf
  have hlc : bx_Lc g [] := bx_Lc.nil
  have hl := lv_entry ([.ref (ad 0 0), .int (iI p)]) (n := 2) (Nat.le_of_ble_eq_true rfl)
  rw [lg_entry_eq]
  generalize (lg_sl ([.ref (ad 0 0), .int (iI p)]) ++ List.replicate (2 - (lg_sl ([.ref (ad 0 0), .int (iI p)])).length) Slot.unset).toArray = ls at hl ⊢
  have hl : lv_has ls 2 [(0, .ref (ad 0 0)), (1, .int (iI p))] := hl
  have hinX1 : ∀ w ∈ wsX10, w ∈ wsX1_group := by decide +kernel
  have hRp0 : -2147483648 ≤ p ∧ p < 2147483648 := hRp
  have hm0 := bB0 hB
  have hpl := bB2 hB (k := p) (by omega) (by omega)
  refine lv_aload_n hx hb dX1_group_0 rfl (lv_at hl 0 rfl) ?_
  refine lv_iload_n hx hb dX1_group_1 rfl (lv_at hl 1 rfl) ?_
  refine bc_VB (As := [.int (iI p)]) (rest := []) (kd := 0) (k := 0) (ci := 1) ⟨hx, hb, hml, hown, hts⟩ (c_X1_isThere_N l g ad σ τ w N p (by unfold iR; omega)) (cwV 1 hts gX1_group_X1_isThere rfl rfl rfl (by decide +kernel) ⟨Nat.le_of_ble_eq_true rfl, Nat.le_of_ble_eq_true rfl⟩) hK hU (bx_L0 (by omega)) rfl rfl rfl hl.1 rfl (Nat.le_of_ble_eq_true rfl) dX1_group_2 ⟨Nat.le_of_ble_eq_true rfl, Nat.le_of_ble_eq_true rfl⟩ (fun h1 => ?_) (fun h1 => ?_)
  · refine bc_SN (As := [.int (iI 1)]) (rest := []) ⟨hx, hb, hml, hown, hts⟩ (c_X1_need_t l g ad (setF σ 10 N) τ w) (va_cwS 1 hts gX1_group_X1_need rfl rfl rfl (by decide +kernel) ⟨Nat.le_of_ble_eq_true rfl, Nat.le_of_ble_eq_true rfl⟩) hK hU rfl hl.1 rfl (Nat.le_of_ble_eq_true rfl) dX1_group_5 ⟨Nat.le_of_ble_eq_true rfl, Nat.le_of_ble_eq_true rfl⟩ ?_
    refine lv_aload_n hx hb dX1_group_8 rfl (lv_at hl 0 rfl) ?_
    refine bc_VW (As := []) (rest := []) (kd := 0) (k := 0) (ci := 1) ⟨hx, hb, hml, hown, hts⟩ (c_X1_nameGroups l g ad σ τ w N hB) (cwV 0 hts gX1_group_X1_nameGroups rfl rfl rfl (by decide +kernel) ⟨Nat.le_of_ble_eq_true rfl, Nat.le_of_ble_eq_true rfl⟩) hK hU hlc (bx_L0 (by omega)) rfl rfl rfl hl.1 rfl (Nat.le_of_ble_eq_true rfl) dX1_group_9 ⟨Nat.le_of_ble_eq_true rfl, Nat.le_of_ble_eq_true rfl⟩ (fun H locs hU hF1 hlc => ?_)
    have hF := hF.tr hF1
    refine lv_aload_n hx hb dX1_group_12 rfl (lv_at hl 0 rfl) ?_
    refine bg_X1_names hx hb hts hinX1 hown hK hU (hts (.fieldLink RX1 26 "ClashBoxes" "names" "[I") (by decide +kernel)) dX1_group_13 ?_
    refine lv_iload_n hx hb dX1_group_16 rfl (lv_at hl 1 rfl) ?_
    refine bl_3 hx hb hK hU (by omega) (by omega) dX1_group_17 ?_
    refine W.eq (g2 := F0 mI 18 ls [.int (iI ((gnm σ N) p))]) rfl ?_
    refine bw_i hx hb hr hlocks (by first | exact hU | simpa using hU) hF hlc ?_ dX1_group_18
    rfl
  · exfalso
    omega

set_option maxHeartbeats 4000000 in
set_option maxRecDepth 100000 in
theorem c_X1_group_f (l : Launch) (hst : l.stackTraces = false) (g : bxG) (ad : bxA) (σ τ : bxS) (w : bxW) (sa : Nat → Nat) (p : Int) (hRp : iR p) (hB : bx_B σ) (hg : ¬ (0 ≤ p ∧ p < 60 ∧ σ 2 p 0 ≠ 0)) : vx_Met l yX1_group wsX1_group ({ frames := 7, cells := 1, slots := 6, locals := 166 }) (va_Pc [.ref (ad 0 0), .int (iI p)] (fun U => bt_I g ad σ τ w sa U)) bq_no (bq_X g ad σ τ w (fun E => E = bt_iae)) 1 6 (bq_fr g) := by
  refine vx_ofW (cc := cX1_group) (maxL := 2) (ret := (some .int)) (by decide) rfl ?_
  intro Pg Ev s mI args below meth cd s₁ B hml hout hv
  obtain ⟨rfl, ⟨hU, hK⟩, hT⟩ := hv
  have hx := B.exec
  have hb := B.bytes
  have hr := B.returns
  have hts := atoms_spec (ws := wsX1_group) B.pre
  have hown : s.vm.findClass RX1 = some mI.cls := findClass_of_methodNamed B.named
  have hlocks := B.notSynchronized
  have hl := lv_entry ([.ref (ad 0 0), .int (iI p)]) (n := 2) (Nat.le_of_ble_eq_true rfl)
  rw [lg_entry_eq]
  generalize (lg_sl ([.ref (ad 0 0), .int (iI p)]) ++ List.replicate (2 - (lg_sl ([.ref (ad 0 0), .int (iI p)])).length) Slot.unset).toArray = ls at hl ⊢
  have hl : lv_has ls 2 [(0, .ref (ad 0 0)), (1, .int (iI p))] := hl
  have hRp0 : -2147483648 ≤ p ∧ p < 2147483648 := hRp
  refine lv_aload_n hx hb dX1_group_0 rfl (lv_at hl 0 rfl) ?_
  refine lv_iload_n hx hb dX1_group_1 rfl (lv_at hl 1 rfl) ?_
  refine bc_VB (As := [.int (iI p)]) (rest := []) (kd := 0) (k := 0) (ci := 1) ⟨hx, hb, hml, hown, hts⟩ (c_X1_isThere l g ad σ τ w p (by unfold iR; omega)) (cwV 1 hts gX1_group_X1_isThere rfl rfl rfl (by decide +kernel) ⟨Nat.le_of_ble_eq_true rfl, Nat.le_of_ble_eq_true rfl⟩) hK hU (bx_L0 (by omega)) rfl rfl rfl hl.1 rfl (Nat.le_of_ble_eq_true rfl) dX1_group_2 ⟨Nat.zero_le _, Nat.zero_le _⟩ (fun h1 => ?_) (fun h1 => ?_)
  · refine bc_SN (As := [.int (iI 1)]) (rest := []) ⟨hx, hb, hml, hown, hts⟩ (c_X1_need_t l g ad σ τ w) (va_cwS 1 hts gX1_group_X1_need rfl rfl rfl (by decide +kernel) ⟨Nat.le_of_ble_eq_true rfl, Nat.le_of_ble_eq_true rfl⟩) hK hU rfl hl.1 rfl (Nat.le_of_ble_eq_true rfl) dX1_group_5 ⟨Nat.zero_le _, Nat.zero_le _⟩ ?_
    refine lv_aload_n hx hb dX1_group_8 rfl (lv_at hl 0 rfl) ?_
    exfalso
    omega
  · exact bt_S (As := [.int (iI 0)]) (rest := []) ⟨hx, hb, hml, hown, hts⟩ (c_X1_need_f l hst g ad σ τ w sa) (va_cwS 1 hts gX1_group_X1_need rfl rfl rfl (by decide +kernel) ⟨Nat.le_of_ble_eq_true rfl, Nat.le_of_ble_eq_true rfl⟩) hK hU hT bx_F.rf bx_Lc.nil rfl hl.1 rfl (Nat.le_of_ble_eq_true rfl) dX1_group_5 ⟨Nat.le_of_ble_eq_true rfl, Nat.le_of_ble_eq_true rfl⟩ hout hlocks (Nat.le_of_ble_eq_true rfl) (Nat.le_of_ble_eq_true rfl)
