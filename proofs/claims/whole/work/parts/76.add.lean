set_option maxHeartbeats 4000000 in
set_option maxRecDepth 100000 in
theorem c_X1_box_t (l : Launch) (g : bxG) (ad : bxA) (σ τ : bxS) (w : bxW) (k x y z dx dy dz : Int) (hRk : iR k) (hRx : iR x) (hRy : iR y) (hRz : iR z) (hRdx : iR dx) (hRdy : iR dy) (hRdz : iR dz) (hB : bx_B σ) (hg : ((0 ≤ k ∧ k ≤ 7) ∧ (0 ≤ x ∧ x ≤ 1000 ∧ 1 ≤ dx ∧ dx ≤ 1000 ∧ x + dx ≤ 1000) ∧ (0 ≤ y ∧ y ≤ 1000 ∧ 1 ≤ dy ∧ dy ≤ 1000 ∧ y + dy ≤ 1000) ∧ (0 ≤ z ∧ z ≤ 1000 ∧ 1 ≤ dz ∧ dz ≤ 1000 ∧ z + dz ≤ 1000)) ∧ σ 0 0 0 < 60) : Met l yX1_box wsX1_box ({ frames := 7, cells := 3, slots := 12, locals := 110 }) (va_Pc [.ref (ad 0 0), .int (iI k), .int (iI x), .int (iI y), .int (iI z), .int (iI dx), .int (iI dy), .int (iI dz)] (fun U => bx_I g ad σ τ w U)) (bq_H (some (.int (iI (σ 0 0 0)))) g (fun H => ∃ ad1, adS ad ad1 ∧ bx_U g ad1 (boxC σ k x y z dx dy dz) τ w H)) 3 12 (bq_fr g) := by
  refine Met.ofW (cc := cX1_box) (maxL := 9) (ret := (some .int)) (by decide) rfl ?_
  intro Pg Ev s mI args below meth cd s₁ B hml hv
  obtain ⟨rfl, hU, hK⟩ := hv
  have hx := B.exec
  have hb := B.bytes
  have hr := B.returns
  have hts := atoms_spec (ws := wsX1_box) B.pre
  have hown : s.vm.findClass RX1 = some mI.cls := findClass_of_methodNamed B.named
  have hlocks := B.notSynchronized
  have hF : bx_F g s.heap s.heap := bx_F.rf
  have hlc : bx_Lc g [] := bx_Lc.nil
  have hl := lv_entry ([.ref (ad 0 0), .int (iI k), .int (iI x), .int (iI y), .int (iI z), .int (iI dx), .int (iI dy), .int (iI dz)]) (n := 9) (Nat.le_of_ble_eq_true rfl)
  rw [lg_entry_eq]
  generalize (lg_sl ([.ref (ad 0 0), .int (iI k), .int (iI x), .int (iI y), .int (iI z), .int (iI dx), .int (iI dy), .int (iI dz)]) ++ List.replicate (9 - (lg_sl ([.ref (ad 0 0), .int (iI k), .int (iI x), .int (iI y), .int (iI z), .int (iI dx), .int (iI dy), .int (iI dz)])).length) Slot.unset).toArray = ls at hl ⊢
  have hl : lv_has ls 9 [(0, .ref (ad 0 0)), (1, .int (iI k)), (2, .int (iI x)), (3, .int (iI y)), (4, .int (iI z)), (5, .int (iI dx)), (6, .int (iI dy)), (7, .int (iI dz))] := hl
  have hinX0 : ∀ w ∈ wsX00, w ∈ wsX1_box := by decide +kernel
  have hRk0 : -2147483648 ≤ k ∧ k < 2147483648 := hRk
  have hRx0 : -2147483648 ≤ x ∧ x < 2147483648 := hRx
  have hRy0 : -2147483648 ≤ y ∧ y < 2147483648 := hRy
  have hRz0 : -2147483648 ≤ z ∧ z < 2147483648 := hRz
  have hRdx0 : -2147483648 ≤ dx ∧ dx < 2147483648 := hRdx
  have hRdy0 : -2147483648 ≤ dy ∧ dy < 2147483648 := hRdy
  have hRdz0 : -2147483648 ≤ dz ∧ dz < 2147483648 := hRdz
  have hm0 := bB0 hB
  have hm2 := bB2 hB (k := σ 0 0 0) (by omega) (by omega)
  refine lv_iload_n hx hb dX1_box_0 rfl (lv_at hl 1 rfl) ?_
  refine bc_SB (As := [.int (iI k)]) (rest := []) ⟨hx, hb, hml, hown, hts⟩ (c_X1_isKind l g ad σ τ w k (by unfold iR; omega)) (va_cwS 1 hts gX1_box_X1_isKind rfl rfl rfl (by decide +kernel) ⟨Nat.le_of_ble_eq_true rfl, Nat.le_of_ble_eq_true rfl⟩) hK hU  rfl hl.1 rfl (Nat.le_of_ble_eq_true rfl) dX1_box_1 ⟨Nat.le_of_ble_eq_true rfl, Nat.le_of_ble_eq_true rfl⟩ (fun h1 => ?_) (fun h1 => ?_)
  · refine bc_SN (As := [.int (iI 1)]) (rest := []) ⟨hx, hb, hml, hown, hts⟩ (c_X1_need_t l g ad σ τ w) (va_cwS 1 hts gX1_box_X1_need rfl rfl rfl (by decide +kernel) ⟨Nat.le_of_ble_eq_true rfl, Nat.le_of_ble_eq_true rfl⟩) hK hU rfl hl.1 rfl (Nat.le_of_ble_eq_true rfl) dX1_box_4 ⟨Nat.le_of_ble_eq_true rfl, Nat.le_of_ble_eq_true rfl⟩ ?_
    refine lv_iload_n hx hb dX1_box_7 rfl (lv_at hl 2 rfl) ?_
    refine lv_iload hx hb dX1_box_8 (lv_at hl 5 rfl) ?_
    refine bc_SB (As := [.int (iI x), .int (iI dx)]) (rest := []) ⟨hx, hb, hml, hown, hts⟩ (c_X1_isSpan l g ad σ τ w x dx (by unfold iR; omega) (by unfold iR; omega)) (va_cwS 2 hts gX1_box_X1_isSpan rfl rfl rfl (by decide +kernel) ⟨Nat.le_of_ble_eq_true rfl, Nat.le_of_ble_eq_true rfl⟩) hK hU  rfl hl.1 rfl (Nat.le_of_ble_eq_true rfl) dX1_box_10 ⟨Nat.le_of_ble_eq_true rfl, Nat.le_of_ble_eq_true rfl⟩ (fun h2 => ?_) (fun h2 => ?_)
    · refine li_if_eq (tgt := 39) hx hb (by unfold iR; omega) dX1_box_13 (by decide) (fun h => absurd h (by decide)) (fun _ => ?_)
      refine lv_iload_n hx hb dX1_box_16 rfl (lv_at hl 3 rfl) ?_
      refine lv_iload hx hb dX1_box_17 (lv_at hl 6 rfl) ?_
      refine bc_SB (As := [.int (iI y), .int (iI dy)]) (rest := []) ⟨hx, hb, hml, hown, hts⟩ (c_X1_isSpan l g ad σ τ w y dy (by unfold iR; omega) (by unfold iR; omega)) (va_cwS 2 hts gX1_box_X1_isSpan rfl rfl rfl (by decide +kernel) ⟨Nat.le_of_ble_eq_true rfl, Nat.le_of_ble_eq_true rfl⟩) hK hU  rfl hl.1 rfl (Nat.le_of_ble_eq_true rfl) dX1_box_19 ⟨Nat.le_of_ble_eq_true rfl, Nat.le_of_ble_eq_true rfl⟩ (fun h3 => ?_) (fun h3 => ?_)
      · refine li_if_eq (tgt := 39) hx hb (by unfold iR; omega) dX1_box_22 (by decide) (fun h => absurd h (by decide)) (fun _ => ?_)
        refine lv_iload hx hb dX1_box_25 (lv_at hl 4 rfl) ?_
        refine lv_iload hx hb dX1_box_27 (lv_at hl 7 rfl) ?_
        refine bc_SB (As := [.int (iI z), .int (iI dz)]) (rest := []) ⟨hx, hb, hml, hown, hts⟩ (c_X1_isSpan l g ad σ τ w z dz (by unfold iR; omega) (by unfold iR; omega)) (va_cwS 2 hts gX1_box_X1_isSpan rfl rfl rfl (by decide +kernel) ⟨Nat.le_of_ble_eq_true rfl, Nat.le_of_ble_eq_true rfl⟩) hK hU  rfl hl.1 rfl (Nat.le_of_ble_eq_true rfl) dX1_box_29 ⟨Nat.le_of_ble_eq_true rfl, Nat.le_of_ble_eq_true rfl⟩ (fun h4 => ?_) (fun h4 => ?_)
        · refine li_if_eq (tgt := 39) hx hb (by unfold iR; omega) dX1_box_32 (by decide) (fun h => absurd h (by decide)) (fun _ => ?_)
          refine li_iconst hx hb dX1_box_35 ?_
          refine lv_goto (tgt := 40) hx hb dX1_box_36 (by decide) ?_
          refine bc_SN (As := [.int (iI 1)]) (rest := []) ⟨hx, hb, hml, hown, hts⟩ (c_X1_need_t l g ad σ τ w) (va_cwS 1 hts gX1_box_X1_need rfl rfl rfl (by decide +kernel) ⟨Nat.le_of_ble_eq_true rfl, Nat.le_of_ble_eq_true rfl⟩) hK hU rfl hl.1 rfl (Nat.le_of_ble_eq_true rfl) dX1_box_40 ⟨Nat.le_of_ble_eq_true rfl, Nat.le_of_ble_eq_true rfl⟩ ?_
          refine lv_aload_n hx hb dX1_box_43 rfl (lv_at hl 0 rfl) ?_
          by_cases hm5 : σ 0 0 0 < 60
          · refine bc_VN (As := []) (rest := []) (kd := 0) (k := 0) (ci := 1) ⟨hx, hb, hml, hown, hts⟩ (c_X1_needRoom_t l g ad σ τ w hm5 hB) (cwV 0 hts gX1_box_X1_needRoom rfl rfl rfl (by decide +kernel) ⟨Nat.le_of_ble_eq_true rfl, Nat.le_of_ble_eq_true rfl⟩) hK hU (bx_L0 (by omega)) rfl rfl rfl hl.1 rfl (Nat.le_of_ble_eq_true rfl) dX1_box_44 ⟨Nat.le_of_ble_eq_true rfl, Nat.le_of_ble_eq_true rfl⟩ ?_
            refine bn_new hx hb hts hinX0 hown (hts (.classLink RX1 9 RX0) (by decide +kernel)) (hts (.instantiable RX0 6) (by decide +kernel)) (hts (.initialized RX0) (by decide +kernel)) hK hU (Nat.le_of_ble_eq_true rfl) (Nat.le_of_ble_eq_true rfl) dX1_box_47 (fun qn H hU hF1 hPn hnn hgn => ?_)
            have hF := hF.tr hF1
            refine lv_dup hx hb dX1_box_50 rfl ?_
            refine lv_iload_n hx hb dX1_box_51 rfl (lv_at hl 1 rfl) ?_
            refine li_iconst hx hb dX1_box_52 ?_
            refine li_iconst hx hb dX1_box_53 ?_
            refine bn_init (rest := [.ref qn]) (K := σ 0 0 0) (k := k) (ax := -1) (r := 0) ⟨hx, hb, hml, hown, hts⟩ (cwI 3 hts gX1_box_X0_init rfl rfl rfl (hts (.initialized RX0) (by decide +kernel)) (hts (.methodLink RX1 54 yX0_init) (by decide +kernel)) (hts (.instanceMethod yX0_init) (by decide +kernel)) rfl (by decide +kernel) ⟨Nat.le_of_ble_eq_true rfl, Nat.le_of_ble_eq_true rfl⟩) hK hU hF hlc hPn hnn hgn (by omega) (by omega) hl.1 rfl (Nat.le_of_ble_eq_true rfl) dX1_box_54 ⟨Nat.le_of_ble_eq_true rfl, Nat.le_of_ble_eq_true rfl⟩ (fun ad1 H locs e0 e20 hU hF1 hlc => ?_)
            have hF := hF.tr hF1
            rw [← e0 0 (by omega)] at hl
            subst e20
            have hp14 : 0 ≤ σ 0 0 0 ∧ σ 0 0 0 < 60 ∧ newS σ (σ 0 0 0) k (-1) 0 14 (σ 0 0 0) 0 ≠ 0 := ⟨by omega, by omega, newS_14 _ _ _ _ _⟩
            refine lv_astore (lv' := [(8, .ref (ad1 20 (σ 0 0 0))), (0, .ref (ad1 0 0)), (1, .int (iI k)), (2, .int (iI x)), (3, .int (iI y)), (4, .int (iI z)), (5, .int (iI dx)), (6, .int (iI dy)), (7, .int (iI dz))]) hx hb dX1_box_57 hl (by decide) rfl (fun ls hl => ?_)
            refine lv_aload hx hb dX1_box_59 (lv_at hl 0 rfl) ?_
            refine li_iconst hx hb dX1_box_61 ?_
            refine lv_iload_n hx hb dX1_box_62 rfl (lv_at hl 3 rfl) ?_
            refine lv_iload_n hx hb dX1_box_63 rfl (lv_at hl 3 rfl) ?_
            refine lv_iload hx hb dX1_box_64 (lv_at hl 6 rfl) ?_
            refine li_iadd hx hb dX1_box_66 ?_
            refine bc_VW (As := [.int (iI 0), .int (iI x), .int (iI (x + dx))]) (rest := []) (kd := 20) (k := σ 0 0 0) (ci := 0) ⟨hx, hb, hml, hown, hts⟩ (c_X0_setCore_n l g ad1 (newS σ (σ 0 0 0) k (-1) 0) τ w (σ 0 0 0) 0 x (x + dx) hp14 (by omega)) (cwV 3 hts gX1_box_X0_setCore rfl rfl rfl (by decide +kernel) ⟨Nat.le_of_ble_eq_true rfl, Nat.le_of_ble_eq_true rfl⟩) hK hU hlc (bx_Ln (by omega) (by omega) hp14) rfl rfl rfl hl.1 rfl (Nat.le_of_ble_eq_true rfl) dX1_box_67 ⟨Nat.le_of_ble_eq_true rfl, Nat.le_of_ble_eq_true rfl⟩ (fun H locs hU hF1 hlc => ?_)
            have hF := hF.tr hF1
            refine lv_aload hx hb dX1_box_70 (lv_at hl 0 rfl) ?_
            refine li_iconst hx hb dX1_box_72 ?_
            refine lv_iload_n hx hb dX1_box_73 rfl (lv_at hl 4 rfl) ?_
            refine lv_iload_n hx hb dX1_box_74 rfl (lv_at hl 4 rfl) ?_
            refine lv_iload hx hb dX1_box_75 (lv_at hl 7 rfl) ?_
            refine li_iadd hx hb dX1_box_77 ?_
            refine bc_VW (As := [.int (iI 1), .int (iI y), .int (iI (y + dy))]) (rest := []) (kd := 20) (k := σ 0 0 0) (ci := 0) ⟨hx, hb, hml, hown, hts⟩ (c_X0_setCore_n l g ad1 (up3 (up3 (newS σ (σ 0 0 0) k (-1) 0) 7 (σ 0 0 0) 0 x) 8 (σ 0 0 0) 0 (x + dx)) τ w (σ 0 0 0) 1 y (y + dy) hp14 (by omega)) (cwV 3 hts gX1_box_X0_setCore rfl rfl rfl (by decide +kernel) ⟨Nat.le_of_ble_eq_true rfl, Nat.le_of_ble_eq_true rfl⟩) hK hU hlc (bx_Ln (by omega) (by omega) hp14) rfl rfl rfl hl.1 rfl (Nat.le_of_ble_eq_true rfl) dX1_box_78 ⟨Nat.le_of_ble_eq_true rfl, Nat.le_of_ble_eq_true rfl⟩ (fun H locs hU hF1 hlc => ?_)
            have hF := hF.tr hF1
            refine lv_aload hx hb dX1_box_81 (lv_at hl 0 rfl) ?_
            refine li_iconst hx hb dX1_box_83 ?_
            refine lv_iload hx hb dX1_box_84 (lv_at hl 5 rfl) ?_
            refine lv_iload hx hb dX1_box_86 (lv_at hl 5 rfl) ?_
            refine lv_iload hx hb dX1_box_88 (lv_at hl 8 rfl) ?_
            refine li_iadd hx hb dX1_box_90 ?_
            refine bc_VW (As := [.int (iI 2), .int (iI z), .int (iI (z + dz))]) (rest := []) (kd := 20) (k := σ 0 0 0) (ci := 0) ⟨hx, hb, hml, hown, hts⟩ (c_X0_setCore_n l g ad1 (up3 (up3 (up3 (up3 (newS σ (σ 0 0 0) k (-1) 0) 7 (σ 0 0 0) 0 x) 8 (σ 0 0 0) 0 (x + dx)) 7 (σ 0 0 0) 1 y) 8 (σ 0 0 0) 1 (y + dy)) τ w (σ 0 0 0) 2 z (z + dz) hp14 (by omega)) (cwV 3 hts gX1_box_X0_setCore rfl rfl rfl (by decide +kernel) ⟨Nat.le_of_ble_eq_true rfl, Nat.le_of_ble_eq_true rfl⟩) hK hU hlc (bx_Ln (by omega) (by omega) hp14) rfl rfl rfl hl.1 rfl (Nat.le_of_ble_eq_true rfl) dX1_box_91 ⟨Nat.le_of_ble_eq_true rfl, Nat.le_of_ble_eq_true rfl⟩ (fun H locs hU hF1 hlc => ?_)
            have hF := hF.tr hF1
            refine lv_aload_n hx hb dX1_box_94 rfl (lv_at hl 1 rfl) ?_
            refine lv_aload hx hb dX1_box_95 (lv_at hl 0 rfl) ?_
            refine bc_VW (As := [.ref (ad1 20 (σ 0 0 0))]) (rest := []) (kd := 0) (k := 0) (ci := 1) ⟨hx, hb, hml, hown, hts⟩ (c_X1_add l g ad1 (up3 (up3 (up3 (up3 (up3 (up3 (newS σ (σ 0 0 0) k (-1) 0) 7 (σ 0 0 0) 0 x) 8 (σ 0 0 0) 0 (x + dx)) 7 (σ 0 0 0) 1 y) 8 (σ 0 0 0) 1 (y + dy)) 7 (σ 0 0 0) 2 z) 8 (σ 0 0 0) 2 (z + dz)) τ w (σ 0 0 0) hp14 rfl) (cwV 1 hts gX1_box_X1_add rfl rfl rfl (by decide +kernel) ⟨Nat.le_of_ble_eq_true rfl, Nat.le_of_ble_eq_true rfl⟩) hK hU hlc (bx_L0 (by omega)) rfl rfl rfl hl.1 rfl (Nat.le_of_ble_eq_true rfl) dX1_box_97 ⟨Nat.le_of_ble_eq_true rfl, Nat.le_of_ble_eq_true rfl⟩ (fun H locs hU hF1 hlc => ?_)
            have hF := hF.tr hF1
            exact bh_i hx hb hr hlocks ⟨ad1, e0, hU⟩ hF hlc rfl dX1_box_100
          · exfalso
            omega
        · refine li_if_eq (tgt := 39) hx hb (by unfold iR; omega) dX1_box_32 (by decide) (fun _ => ?_) (fun h => absurd (by decide) h)
          refine li_iconst hx hb dX1_box_39 ?_
          exfalso
          omega
      · refine li_if_eq (tgt := 39) hx hb (by unfold iR; omega) dX1_box_22 (by decide) (fun _ => ?_) (fun h => absurd (by decide) h)
        refine li_iconst hx hb dX1_box_39 ?_
        exfalso
        omega
    · refine li_if_eq (tgt := 39) hx hb (by unfold iR; omega) dX1_box_13 (by decide) (fun _ => ?_) (fun h => absurd (by decide) h)
      refine li_iconst hx hb dX1_box_39 ?_
      exfalso
      omega
  · exfalso
    omega

set_option maxHeartbeats 4000000 in
set_option maxRecDepth 100000 in
theorem c_X1_box_f (l : Launch) (hst : l.stackTraces = false) (g : bxG) (ad : bxA) (σ τ : bxS) (w : bxW) (sa : Nat → Nat) (k x y z dx dy dz : Int) (hRk : iR k) (hRx : iR x) (hRy : iR y) (hRz : iR z) (hRdx : iR dx) (hRdy : iR dy) (hRdz : iR dz) (hB : bx_B σ) (hg : ¬ ((0 ≤ k ∧ k ≤ 7) ∧ (0 ≤ x ∧ x ≤ 1000 ∧ 1 ≤ dx ∧ dx ≤ 1000 ∧ x + dx ≤ 1000) ∧ (0 ≤ y ∧ y ≤ 1000 ∧ 1 ≤ dy ∧ dy ≤ 1000 ∧ y + dy ≤ 1000) ∧ (0 ≤ z ∧ z ≤ 1000 ∧ 1 ≤ dz ∧ dz ≤ 1000 ∧ z + dz ≤ 1000))) : vx_Met l yX1_box wsX1_box ({ frames := 7, cells := 1, slots := 6, locals := 110 }) (va_Pc [.ref (ad 0 0), .int (iI k), .int (iI x), .int (iI y), .int (iI z), .int (iI dx), .int (iI dy), .int (iI dz)] (fun U => bt_I g ad σ τ w sa U)) bq_no (bq_X g ad σ τ w (fun E => E = bt_iae)) 1 6 (bq_fr g) := by
  refine vx_ofW (cc := cX1_box) (maxL := 9) (ret := (some .int)) (by decide) rfl ?_
  intro Pg Ev s mI args below meth cd s₁ B hml hout hv
  obtain ⟨rfl, ⟨hU, hK⟩, hT⟩ := hv
  have hx := B.exec
  have hb := B.bytes
  have hr := B.returns
  have hts := atoms_spec (ws := wsX1_box) B.pre
  have hown : s.vm.findClass RX1 = some mI.cls := findClass_of_methodNamed B.named
  have hlocks := B.notSynchronized
  have hl := lv_entry ([.ref (ad 0 0), .int (iI k), .int (iI x), .int (iI y), .int (iI z), .int (iI dx), .int (iI dy), .int (iI dz)]) (n := 9) (Nat.le_of_ble_eq_true rfl)
  rw [lg_entry_eq]
  generalize (lg_sl ([.ref (ad 0 0), .int (iI k), .int (iI x), .int (iI y), .int (iI z), .int (iI dx), .int (iI dy), .int (iI dz)]) ++ List.replicate (9 - (lg_sl ([.ref (ad 0 0), .int (iI k), .int (iI x), .int (iI y), .int (iI z), .int (iI dx), .int (iI dy), .int (iI dz)])).length) Slot.unset).toArray = ls at hl ⊢
  have hl : lv_has ls 9 [(0, .ref (ad 0 0)), (1, .int (iI k)), (2, .int (iI x)), (3, .int (iI y)), (4, .int (iI z)), (5, .int (iI dx)), (6, .int (iI dy)), (7, .int (iI dz))] := hl
  have hRk0 : -2147483648 ≤ k ∧ k < 2147483648 := hRk
  have hRx0 : -2147483648 ≤ x ∧ x < 2147483648 := hRx
  have hRy0 : -2147483648 ≤ y ∧ y < 2147483648 := hRy
  have hRz0 : -2147483648 ≤ z ∧ z < 2147483648 := hRz
  have hRdx0 : -2147483648 ≤ dx ∧ dx < 2147483648 := hRdx
  have hRdy0 : -2147483648 ≤ dy ∧ dy < 2147483648 := hRdy
  have hRdz0 : -2147483648 ≤ dz ∧ dz < 2147483648 := hRdz
  have hm0 := bB0 hB
  refine lv_iload_n hx hb dX1_box_0 rfl (lv_at hl 1 rfl) ?_
  refine bc_SB (As := [.int (iI k)]) (rest := []) ⟨hx, hb, hml, hown, hts⟩ (c_X1_isKind l g ad σ τ w k (by unfold iR; omega)) (va_cwS 1 hts gX1_box_X1_isKind rfl rfl rfl (by decide +kernel) ⟨Nat.le_of_ble_eq_true rfl, Nat.le_of_ble_eq_true rfl⟩) hK hU  rfl hl.1 rfl (Nat.le_of_ble_eq_true rfl) dX1_box_1 ⟨Nat.zero_le _, Nat.zero_le _⟩ (fun h1 => ?_) (fun h1 => ?_)
  · refine bc_SN (As := [.int (iI 1)]) (rest := []) ⟨hx, hb, hml, hown, hts⟩ (c_X1_need_t l g ad σ τ w) (va_cwS 1 hts gX1_box_X1_need rfl rfl rfl (by decide +kernel) ⟨Nat.le_of_ble_eq_true rfl, Nat.le_of_ble_eq_true rfl⟩) hK hU rfl hl.1 rfl (Nat.le_of_ble_eq_true rfl) dX1_box_4 ⟨Nat.zero_le _, Nat.zero_le _⟩ ?_
    refine lv_iload_n hx hb dX1_box_7 rfl (lv_at hl 2 rfl) ?_
    refine lv_iload hx hb dX1_box_8 (lv_at hl 5 rfl) ?_
    refine bc_SB (As := [.int (iI x), .int (iI dx)]) (rest := []) ⟨hx, hb, hml, hown, hts⟩ (c_X1_isSpan l g ad σ τ w x dx (by unfold iR; omega) (by unfold iR; omega)) (va_cwS 2 hts gX1_box_X1_isSpan rfl rfl rfl (by decide +kernel) ⟨Nat.le_of_ble_eq_true rfl, Nat.le_of_ble_eq_true rfl⟩) hK hU  rfl hl.1 rfl (Nat.le_of_ble_eq_true rfl) dX1_box_10 ⟨Nat.zero_le _, Nat.zero_le _⟩ (fun h2 => ?_) (fun h2 => ?_)
    · refine li_if_eq (tgt := 39) hx hb (by unfold iR; omega) dX1_box_13 (by decide) (fun h => absurd h (by decide)) (fun _ => ?_)
      refine lv_iload_n hx hb dX1_box_16 rfl (lv_at hl 3 rfl) ?_
      refine lv_iload hx hb dX1_box_17 (lv_at hl 6 rfl) ?_
      refine bc_SB (As := [.int (iI y), .int (iI dy)]) (rest := []) ⟨hx, hb, hml, hown, hts⟩ (c_X1_isSpan l g ad σ τ w y dy (by unfold iR; omega) (by unfold iR; omega)) (va_cwS 2 hts gX1_box_X1_isSpan rfl rfl rfl (by decide +kernel) ⟨Nat.le_of_ble_eq_true rfl, Nat.le_of_ble_eq_true rfl⟩) hK hU  rfl hl.1 rfl (Nat.le_of_ble_eq_true rfl) dX1_box_19 ⟨Nat.zero_le _, Nat.zero_le _⟩ (fun h3 => ?_) (fun h3 => ?_)
      · refine li_if_eq (tgt := 39) hx hb (by unfold iR; omega) dX1_box_22 (by decide) (fun h => absurd h (by decide)) (fun _ => ?_)
        refine lv_iload hx hb dX1_box_25 (lv_at hl 4 rfl) ?_
        refine lv_iload hx hb dX1_box_27 (lv_at hl 7 rfl) ?_
        refine bc_SB (As := [.int (iI z), .int (iI dz)]) (rest := []) ⟨hx, hb, hml, hown, hts⟩ (c_X1_isSpan l g ad σ τ w z dz (by unfold iR; omega) (by unfold iR; omega)) (va_cwS 2 hts gX1_box_X1_isSpan rfl rfl rfl (by decide +kernel) ⟨Nat.le_of_ble_eq_true rfl, Nat.le_of_ble_eq_true rfl⟩) hK hU  rfl hl.1 rfl (Nat.le_of_ble_eq_true rfl) dX1_box_29 ⟨Nat.zero_le _, Nat.zero_le _⟩ (fun h4 => ?_) (fun h4 => ?_)
        · refine li_if_eq (tgt := 39) hx hb (by unfold iR; omega) dX1_box_32 (by decide) (fun h => absurd h (by decide)) (fun _ => ?_)
          refine li_iconst hx hb dX1_box_35 ?_
          refine lv_goto (tgt := 40) hx hb dX1_box_36 (by decide) ?_
          refine bc_SN (As := [.int (iI 1)]) (rest := []) ⟨hx, hb, hml, hown, hts⟩ (c_X1_need_t l g ad σ τ w) (va_cwS 1 hts gX1_box_X1_need rfl rfl rfl (by decide +kernel) ⟨Nat.le_of_ble_eq_true rfl, Nat.le_of_ble_eq_true rfl⟩) hK hU rfl hl.1 rfl (Nat.le_of_ble_eq_true rfl) dX1_box_40 ⟨Nat.zero_le _, Nat.zero_le _⟩ ?_
          exfalso
          omega
        · refine li_if_eq (tgt := 39) hx hb (by unfold iR; omega) dX1_box_32 (by decide) (fun _ => ?_) (fun h => absurd (by decide) h)
          refine li_iconst hx hb dX1_box_39 ?_
          exact bt_S (As := [.int (iI 0)]) (rest := []) ⟨hx, hb, hml, hown, hts⟩ (c_X1_need_f l hst g ad σ τ w sa) (va_cwS 1 hts gX1_box_X1_need rfl rfl rfl (by decide +kernel) ⟨Nat.le_of_ble_eq_true rfl, Nat.le_of_ble_eq_true rfl⟩) hK hU hT bx_F.rf bx_Lc.nil rfl hl.1 rfl (Nat.le_of_ble_eq_true rfl) dX1_box_40 ⟨Nat.le_of_ble_eq_true rfl, Nat.le_of_ble_eq_true rfl⟩ hout hlocks (Nat.le_of_ble_eq_true rfl) (Nat.le_of_ble_eq_true rfl)
      · refine li_if_eq (tgt := 39) hx hb (by unfold iR; omega) dX1_box_22 (by decide) (fun _ => ?_) (fun h => absurd (by decide) h)
        refine li_iconst hx hb dX1_box_39 ?_
        exact bt_S (As := [.int (iI 0)]) (rest := []) ⟨hx, hb, hml, hown, hts⟩ (c_X1_need_f l hst g ad σ τ w sa) (va_cwS 1 hts gX1_box_X1_need rfl rfl rfl (by decide +kernel) ⟨Nat.le_of_ble_eq_true rfl, Nat.le_of_ble_eq_true rfl⟩) hK hU hT bx_F.rf bx_Lc.nil rfl hl.1 rfl (Nat.le_of_ble_eq_true rfl) dX1_box_40 ⟨Nat.le_of_ble_eq_true rfl, Nat.le_of_ble_eq_true rfl⟩ hout hlocks (Nat.le_of_ble_eq_true rfl) (Nat.le_of_ble_eq_true rfl)
    · refine li_if_eq (tgt := 39) hx hb (by unfold iR; omega) dX1_box_13 (by decide) (fun _ => ?_) (fun h => absurd (by decide) h)
      refine li_iconst hx hb dX1_box_39 ?_
      exact bt_S (As := [.int (iI 0)]) (rest := []) ⟨hx, hb, hml, hown, hts⟩ (c_X1_need_f l hst g ad σ τ w sa) (va_cwS 1 hts gX1_box_X1_need rfl rfl rfl (by decide +kernel) ⟨Nat.le_of_ble_eq_true rfl, Nat.le_of_ble_eq_true rfl⟩) hK hU hT bx_F.rf bx_Lc.nil rfl hl.1 rfl (Nat.le_of_ble_eq_true rfl) dX1_box_40 ⟨Nat.le_of_ble_eq_true rfl, Nat.le_of_ble_eq_true rfl⟩ hout hlocks (Nat.le_of_ble_eq_true rfl) (Nat.le_of_ble_eq_true rfl)
  · exact bt_S (As := [.int (iI 0)]) (rest := []) ⟨hx, hb, hml, hown, hts⟩ (c_X1_need_f l hst g ad σ τ w sa) (va_cwS 1 hts gX1_box_X1_need rfl rfl rfl (by decide +kernel) ⟨Nat.le_of_ble_eq_true rfl, Nat.le_of_ble_eq_true rfl⟩) hK hU hT bx_F.rf bx_Lc.nil rfl hl.1 rfl (Nat.le_of_ble_eq_true rfl) dX1_box_4 ⟨Nat.le_of_ble_eq_true rfl, Nat.le_of_ble_eq_true rfl⟩ hout hlocks (Nat.le_of_ble_eq_true rfl) (Nat.le_of_ble_eq_true rfl)

set_option maxHeartbeats 4000000 in
set_option maxRecDepth 100000 in
theorem c_X1_box_s (l : Launch) (hst : l.stackTraces = false) (g : bxG) (ad : bxA) (σ τ : bxS) (w : bxW) (sa : Nat → Nat) (k x y z dx dy dz : Int) (hRk : iR k) (hRx : iR x) (hRy : iR y) (hRz : iR z) (hRdx : iR dx) (hRdy : iR dy) (hRdz : iR dz) (hB : bx_B σ) (hg : ((0 ≤ k ∧ k ≤ 7) ∧ (0 ≤ x ∧ x ≤ 1000 ∧ 1 ≤ dx ∧ dx ≤ 1000 ∧ x + dx ≤ 1000) ∧ (0 ≤ y ∧ y ≤ 1000 ∧ 1 ≤ dy ∧ dy ≤ 1000 ∧ y + dy ≤ 1000) ∧ (0 ≤ z ∧ z ≤ 1000 ∧ 1 ≤ dz ∧ dz ≤ 1000 ∧ z + dz ≤ 1000)) ∧ ¬ σ 0 0 0 < 60) : vx_Met l yX1_box wsX1_box ({ frames := 7, cells := 1, slots := 6, locals := 110 }) (va_Pc [.ref (ad 0 0), .int (iI k), .int (iI x), .int (iI y), .int (iI z), .int (iI dx), .int (iI dy), .int (iI dz)] (fun U => bt_I g ad σ τ w sa U)) bq_no (bq_X g ad σ τ w (fun E => E = bt_ise)) 1 6 (bq_fr g) := by
  refine vx_ofW (cc := cX1_box) (maxL := 9) (ret := (some .int)) (by decide) rfl ?_
  intro Pg Ev s mI args below meth cd s₁ B hml hout hv
  obtain ⟨rfl, ⟨hU, hK⟩, hT⟩ := hv
  have hx := B.exec
  have hb := B.bytes
  have hr := B.returns
  have hts := atoms_spec (ws := wsX1_box) B.pre
  have hown : s.vm.findClass RX1 = some mI.cls := findClass_of_methodNamed B.named
  have hlocks := B.notSynchronized
  have hl := lv_entry ([.ref (ad 0 0), .int (iI k), .int (iI x), .int (iI y), .int (iI z), .int (iI dx), .int (iI dy), .int (iI dz)]) (n := 9) (Nat.le_of_ble_eq_true rfl)
  rw [lg_entry_eq]
  generalize (lg_sl ([.ref (ad 0 0), .int (iI k), .int (iI x), .int (iI y), .int (iI z), .int (iI dx), .int (iI dy), .int (iI dz)]) ++ List.replicate (9 - (lg_sl ([.ref (ad 0 0), .int (iI k), .int (iI x), .int (iI y), .int (iI z), .int (iI dx), .int (iI dy), .int (iI dz)])).length) Slot.unset).toArray = ls at hl ⊢
  have hl : lv_has ls 9 [(0, .ref (ad 0 0)), (1, .int (iI k)), (2, .int (iI x)), (3, .int (iI y)), (4, .int (iI z)), (5, .int (iI dx)), (6, .int (iI dy)), (7, .int (iI dz))] := hl
  have hRk0 : -2147483648 ≤ k ∧ k < 2147483648 := hRk
  have hRx0 : -2147483648 ≤ x ∧ x < 2147483648 := hRx
  have hRy0 : -2147483648 ≤ y ∧ y < 2147483648 := hRy
  have hRz0 : -2147483648 ≤ z ∧ z < 2147483648 := hRz
  have hRdx0 : -2147483648 ≤ dx ∧ dx < 2147483648 := hRdx
  have hRdy0 : -2147483648 ≤ dy ∧ dy < 2147483648 := hRdy
  have hRdz0 : -2147483648 ≤ dz ∧ dz < 2147483648 := hRdz
  have hm0 := bB0 hB
  refine lv_iload_n hx hb dX1_box_0 rfl (lv_at hl 1 rfl) ?_
  refine bc_SB (As := [.int (iI k)]) (rest := []) ⟨hx, hb, hml, hown, hts⟩ (c_X1_isKind l g ad σ τ w k (by unfold iR; omega)) (va_cwS 1 hts gX1_box_X1_isKind rfl rfl rfl (by decide +kernel) ⟨Nat.le_of_ble_eq_true rfl, Nat.le_of_ble_eq_true rfl⟩) hK hU  rfl hl.1 rfl (Nat.le_of_ble_eq_true rfl) dX1_box_1 ⟨Nat.zero_le _, Nat.zero_le _⟩ (fun h1 => ?_) (fun h1 => ?_)
  · refine bc_SN (As := [.int (iI 1)]) (rest := []) ⟨hx, hb, hml, hown, hts⟩ (c_X1_need_t l g ad σ τ w) (va_cwS 1 hts gX1_box_X1_need rfl rfl rfl (by decide +kernel) ⟨Nat.le_of_ble_eq_true rfl, Nat.le_of_ble_eq_true rfl⟩) hK hU rfl hl.1 rfl (Nat.le_of_ble_eq_true rfl) dX1_box_4 ⟨Nat.zero_le _, Nat.zero_le _⟩ ?_
    refine lv_iload_n hx hb dX1_box_7 rfl (lv_at hl 2 rfl) ?_
    refine lv_iload hx hb dX1_box_8 (lv_at hl 5 rfl) ?_
    refine bc_SB (As := [.int (iI x), .int (iI dx)]) (rest := []) ⟨hx, hb, hml, hown, hts⟩ (c_X1_isSpan l g ad σ τ w x dx (by unfold iR; omega) (by unfold iR; omega)) (va_cwS 2 hts gX1_box_X1_isSpan rfl rfl rfl (by decide +kernel) ⟨Nat.le_of_ble_eq_true rfl, Nat.le_of_ble_eq_true rfl⟩) hK hU  rfl hl.1 rfl (Nat.le_of_ble_eq_true rfl) dX1_box_10 ⟨Nat.zero_le _, Nat.zero_le _⟩ (fun h2 => ?_) (fun h2 => ?_)
    · refine li_if_eq (tgt := 39) hx hb (by unfold iR; omega) dX1_box_13 (by decide) (fun h => absurd h (by decide)) (fun _ => ?_)
      refine lv_iload_n hx hb dX1_box_16 rfl (lv_at hl 3 rfl) ?_
      refine lv_iload hx hb dX1_box_17 (lv_at hl 6 rfl) ?_
      refine bc_SB (As := [.int (iI y), .int (iI dy)]) (rest := []) ⟨hx, hb, hml, hown, hts⟩ (c_X1_isSpan l g ad σ τ w y dy (by unfold iR; omega) (by unfold iR; omega)) (va_cwS 2 hts gX1_box_X1_isSpan rfl rfl rfl (by decide +kernel) ⟨Nat.le_of_ble_eq_true rfl, Nat.le_of_ble_eq_true rfl⟩) hK hU  rfl hl.1 rfl (Nat.le_of_ble_eq_true rfl) dX1_box_19 ⟨Nat.zero_le _, Nat.zero_le _⟩ (fun h3 => ?_) (fun h3 => ?_)
      · refine li_if_eq (tgt := 39) hx hb (by unfold iR; omega) dX1_box_22 (by decide) (fun h => absurd h (by decide)) (fun _ => ?_)
        refine lv_iload hx hb dX1_box_25 (lv_at hl 4 rfl) ?_
        refine lv_iload hx hb dX1_box_27 (lv_at hl 7 rfl) ?_
        refine bc_SB (As := [.int (iI z), .int (iI dz)]) (rest := []) ⟨hx, hb, hml, hown, hts⟩ (c_X1_isSpan l g ad σ τ w z dz (by unfold iR; omega) (by unfold iR; omega)) (va_cwS 2 hts gX1_box_X1_isSpan rfl rfl rfl (by decide +kernel) ⟨Nat.le_of_ble_eq_true rfl, Nat.le_of_ble_eq_true rfl⟩) hK hU  rfl hl.1 rfl (Nat.le_of_ble_eq_true rfl) dX1_box_29 ⟨Nat.zero_le _, Nat.zero_le _⟩ (fun h4 => ?_) (fun h4 => ?_)
        · refine li_if_eq (tgt := 39) hx hb (by unfold iR; omega) dX1_box_32 (by decide) (fun h => absurd h (by decide)) (fun _ => ?_)
          refine li_iconst hx hb dX1_box_35 ?_
          refine lv_goto (tgt := 40) hx hb dX1_box_36 (by decide) ?_
          refine bc_SN (As := [.int (iI 1)]) (rest := []) ⟨hx, hb, hml, hown, hts⟩ (c_X1_need_t l g ad σ τ w) (va_cwS 1 hts gX1_box_X1_need rfl rfl rfl (by decide +kernel) ⟨Nat.le_of_ble_eq_true rfl, Nat.le_of_ble_eq_true rfl⟩) hK hU rfl hl.1 rfl (Nat.le_of_ble_eq_true rfl) dX1_box_40 ⟨Nat.zero_le _, Nat.zero_le _⟩ ?_
          refine lv_aload_n hx hb dX1_box_43 rfl (lv_at hl 0 rfl) ?_
          by_cases hm5 : σ 0 0 0 < 60
          · refine bc_VN (As := []) (rest := []) (kd := 0) (k := 0) (ci := 1) ⟨hx, hb, hml, hown, hts⟩ (c_X1_needRoom_t l g ad σ τ w hm5 hB) (cwV 0 hts gX1_box_X1_needRoom rfl rfl rfl (by decide +kernel) ⟨Nat.le_of_ble_eq_true rfl, Nat.le_of_ble_eq_true rfl⟩) hK hU (bx_L0 (by omega)) rfl rfl rfl hl.1 rfl (Nat.le_of_ble_eq_true rfl) dX1_box_44 ⟨Nat.zero_le _, Nat.zero_le _⟩ ?_
            exfalso
            omega
          · exact bt_V (As := []) (rest := []) (kd := 0) (k := 0) (ci := 1) ⟨hx, hb, hml, hown, hts⟩ (c_X1_needRoom_f l hst g ad σ τ w sa hm5 hB) (cwV 0 hts gX1_box_X1_needRoom rfl rfl rfl (by decide +kernel) ⟨Nat.le_of_ble_eq_true rfl, Nat.le_of_ble_eq_true rfl⟩) hK hU hT bx_F.rf bx_Lc.nil (bx_L0 (by omega)) rfl rfl rfl hl.1 rfl (Nat.le_of_ble_eq_true rfl) dX1_box_44 ⟨Nat.le_of_ble_eq_true rfl, Nat.le_of_ble_eq_true rfl⟩ hout hlocks (Nat.le_of_ble_eq_true rfl) (Nat.le_of_ble_eq_true rfl)
        · refine li_if_eq (tgt := 39) hx hb (by unfold iR; omega) dX1_box_32 (by decide) (fun _ => ?_) (fun h => absurd (by decide) h)
          refine li_iconst hx hb dX1_box_39 ?_
          exfalso
          omega
      · refine li_if_eq (tgt := 39) hx hb (by unfold iR; omega) dX1_box_22 (by decide) (fun _ => ?_) (fun h => absurd (by decide) h)
        refine li_iconst hx hb dX1_box_39 ?_
        exfalso
        omega
    · refine li_if_eq (tgt := 39) hx hb (by unfold iR; omega) dX1_box_13 (by decide) (fun _ => ?_) (fun h => absurd (by decide) h)
      refine li_iconst hx hb dX1_box_39 ?_
      exfalso
      omega
  · exfalso
    omega

set_option maxHeartbeats 4000000 in
set_option maxRecDepth 100000 in
theorem c_X1_tube_t (l : Launch) (g : bxG) (ad : bxA) (σ τ : bxS) (w : bxW) (k a f n u v r : Int) (hRk : iR k) (hRa : iR a) (hRf : iR f) (hRn : iR n) (hRu : iR u) (hRv : iR v) (hRr : iR r) (hB : bx_B σ) (hg : ((0 ≤ k ∧ k ≤ 7) ∧ (0 ≤ a ∧ a ≤ 2) ∧ (0 ≤ f ∧ f ≤ 1000 ∧ 1 ≤ n ∧ n ≤ 1000 ∧ f + n ≤ 1000) ∧ (0 ≤ u ∧ u ≤ 1000) ∧ (0 ≤ v ∧ v ≤ 1000) ∧ 1 ≤ r ∧ r ≤ 200) ∧ σ 0 0 0 < 60) : Met l yX1_tube wsX1_tube ({ frames := 7, cells := 3, slots := 12, locals := 110 }) (va_Pc [.ref (ad 0 0), .int (iI k), .int (iI a), .int (iI f), .int (iI n), .int (iI u), .int (iI v), .int (iI r)] (fun U => bx_I g ad σ τ w U)) (bq_H (some (.int (iI (σ 0 0 0)))) g (fun H => ∃ ad1, adS ad ad1 ∧ bx_U g ad1 (tubC σ k a f n u v r) τ w H)) 3 12 (bq_fr g) := by
  refine Met.ofW (cc := cX1_tube) (maxL := 11) (ret := (some .int)) (by decide) rfl ?_
  intro Pg Ev s mI args below meth cd s₁ B hml hv
  obtain ⟨rfl, hU, hK⟩ := hv
  have hx := B.exec
  have hb := B.bytes
  have hr := B.returns
  have hts := atoms_spec (ws := wsX1_tube) B.pre
  have hown : s.vm.findClass RX1 = some mI.cls := findClass_of_methodNamed B.named
  have hlocks := B.notSynchronized
  have hF : bx_F g s.heap s.heap := bx_F.rf
  have hlc : bx_Lc g [] := bx_Lc.nil
  have hl := lv_entry ([.ref (ad 0 0), .int (iI k), .int (iI a), .int (iI f), .int (iI n), .int (iI u), .int (iI v), .int (iI r)]) (n := 11) (Nat.le_of_ble_eq_true rfl)
  rw [lg_entry_eq]
  generalize (lg_sl ([.ref (ad 0 0), .int (iI k), .int (iI a), .int (iI f), .int (iI n), .int (iI u), .int (iI v), .int (iI r)]) ++ List.replicate (11 - (lg_sl ([.ref (ad 0 0), .int (iI k), .int (iI a), .int (iI f), .int (iI n), .int (iI u), .int (iI v), .int (iI r)])).length) Slot.unset).toArray = ls at hl ⊢
  have hl : lv_has ls 11 [(0, .ref (ad 0 0)), (1, .int (iI k)), (2, .int (iI a)), (3, .int (iI f)), (4, .int (iI n)), (5, .int (iI u)), (6, .int (iI v)), (7, .int (iI r))] := hl
  have hinX0 : ∀ w ∈ wsX00, w ∈ wsX1_tube := by decide +kernel
  have hRk0 : -2147483648 ≤ k ∧ k < 2147483648 := hRk
  have hRa0 : -2147483648 ≤ a ∧ a < 2147483648 := hRa
  have hRf0 : -2147483648 ≤ f ∧ f < 2147483648 := hRf
  have hRn0 : -2147483648 ≤ n ∧ n < 2147483648 := hRn
  have hRu0 : -2147483648 ≤ u ∧ u < 2147483648 := hRu
  have hRv0 : -2147483648 ≤ v ∧ v < 2147483648 := hRv
  have hRr0 : -2147483648 ≤ r ∧ r < 2147483648 := hRr
  have hm0 := bB0 hB
  have hm2 := bB2 hB (k := σ 0 0 0) (by omega) (by omega)
  refine lv_iload_n hx hb dX1_tube_0 rfl (lv_at hl 1 rfl) ?_
  refine bc_SB (As := [.int (iI k)]) (rest := []) ⟨hx, hb, hml, hown, hts⟩ (c_X1_isKind l g ad σ τ w k (by unfold iR; omega)) (va_cwS 1 hts gX1_tube_X1_isKind rfl rfl rfl (by decide +kernel) ⟨Nat.le_of_ble_eq_true rfl, Nat.le_of_ble_eq_true rfl⟩) hK hU  rfl hl.1 rfl (Nat.le_of_ble_eq_true rfl) dX1_tube_1 ⟨Nat.le_of_ble_eq_true rfl, Nat.le_of_ble_eq_true rfl⟩ (fun h1 => ?_) (fun h1 => ?_)
  · refine li_if_eq (tgt := 18) hx hb (by unfold iR; omega) dX1_tube_4 (by decide) (fun h => absurd h (by decide)) (fun _ => ?_)
    refine lv_iload_n hx hb dX1_tube_7 rfl (lv_at hl 2 rfl) ?_
    refine bc_SB (As := [.int (iI a)]) (rest := []) ⟨hx, hb, hml, hown, hts⟩ (c_X1_isAxis l g ad σ τ w a (by unfold iR; omega)) (va_cwS 1 hts gX1_tube_X1_isAxis rfl rfl rfl (by decide +kernel) ⟨Nat.le_of_ble_eq_true rfl, Nat.le_of_ble_eq_true rfl⟩) hK hU  rfl hl.1 rfl (Nat.le_of_ble_eq_true rfl) dX1_tube_8 ⟨Nat.le_of_ble_eq_true rfl, Nat.le_of_ble_eq_true rfl⟩ (fun h2 => ?_) (fun h2 => ?_)
    · refine li_if_eq (tgt := 18) hx hb (by unfold iR; omega) dX1_tube_11 (by decide) (fun h => absurd h (by decide)) (fun _ => ?_)
      refine li_iconst hx hb dX1_tube_14 ?_
      refine lv_goto (tgt := 19) hx hb dX1_tube_15 (by decide) ?_
      refine bc_SN (As := [.int (iI 1)]) (rest := []) ⟨hx, hb, hml, hown, hts⟩ (c_X1_need_t l g ad σ τ w) (va_cwS 1 hts gX1_tube_X1_need rfl rfl rfl (by decide +kernel) ⟨Nat.le_of_ble_eq_true rfl, Nat.le_of_ble_eq_true rfl⟩) hK hU rfl hl.1 rfl (Nat.le_of_ble_eq_true rfl) dX1_tube_19 ⟨Nat.le_of_ble_eq_true rfl, Nat.le_of_ble_eq_true rfl⟩ ?_
      refine lv_iload_n hx hb dX1_tube_22 rfl (lv_at hl 3 rfl) ?_
      refine lv_iload hx hb dX1_tube_23 (lv_at hl 4 rfl) ?_
      refine bc_SB (As := [.int (iI f), .int (iI n)]) (rest := []) ⟨hx, hb, hml, hown, hts⟩ (c_X1_isSpan l g ad σ τ w f n (by unfold iR; omega) (by unfold iR; omega)) (va_cwS 2 hts gX1_tube_X1_isSpan rfl rfl rfl (by decide +kernel) ⟨Nat.le_of_ble_eq_true rfl, Nat.le_of_ble_eq_true rfl⟩) hK hU  rfl hl.1 rfl (Nat.le_of_ble_eq_true rfl) dX1_tube_25 ⟨Nat.le_of_ble_eq_true rfl, Nat.le_of_ble_eq_true rfl⟩ (fun h3 => ?_) (fun h3 => ?_)
      · refine bc_SN (As := [.int (iI 1)]) (rest := []) ⟨hx, hb, hml, hown, hts⟩ (c_X1_need_t l g ad σ τ w) (va_cwS 1 hts gX1_tube_X1_need rfl rfl rfl (by decide +kernel) ⟨Nat.le_of_ble_eq_true rfl, Nat.le_of_ble_eq_true rfl⟩) hK hU rfl hl.1 rfl (Nat.le_of_ble_eq_true rfl) dX1_tube_28 ⟨Nat.le_of_ble_eq_true rfl, Nat.le_of_ble_eq_true rfl⟩ ?_
        refine lv_iload hx hb dX1_tube_31 (lv_at hl 5 rfl) ?_
        refine li_iconst hx hb dX1_tube_33 ?_
        refine li_sipush hx hb dX1_tube_34 (by decide) ?_
        refine bc_SB (As := [.int (iI u), .int (iI 0), .int (iI 1000)]) (rest := []) ⟨hx, hb, hml, hown, hts⟩ (c_X1_isWithin l g ad σ τ w u 0 1000 (by unfold iR; omega) (by unfold iR; omega) (by unfold iR; omega)) (va_cwS 3 hts gX1_tube_X1_isWithin rfl rfl rfl (by decide +kernel) ⟨Nat.le_of_ble_eq_true rfl, Nat.le_of_ble_eq_true rfl⟩) hK hU  rfl hl.1 rfl (Nat.le_of_ble_eq_true rfl) dX1_tube_37 ⟨Nat.le_of_ble_eq_true rfl, Nat.le_of_ble_eq_true rfl⟩ (fun h4 => ?_) (fun h4 => ?_)
        · refine li_if_eq (tgt := 59) hx hb (by unfold iR; omega) dX1_tube_40 (by decide) (fun h => absurd h (by decide)) (fun _ => ?_)
          refine lv_iload hx hb dX1_tube_43 (lv_at hl 6 rfl) ?_
          refine li_iconst hx hb dX1_tube_45 ?_
          refine li_sipush hx hb dX1_tube_46 (by decide) ?_
          refine bc_SB (As := [.int (iI v), .int (iI 0), .int (iI 1000)]) (rest := []) ⟨hx, hb, hml, hown, hts⟩ (c_X1_isWithin l g ad σ τ w v 0 1000 (by unfold iR; omega) (by unfold iR; omega) (by unfold iR; omega)) (va_cwS 3 hts gX1_tube_X1_isWithin rfl rfl rfl (by decide +kernel) ⟨Nat.le_of_ble_eq_true rfl, Nat.le_of_ble_eq_true rfl⟩) hK hU  rfl hl.1 rfl (Nat.le_of_ble_eq_true rfl) dX1_tube_49 ⟨Nat.le_of_ble_eq_true rfl, Nat.le_of_ble_eq_true rfl⟩ (fun h5 => ?_) (fun h5 => ?_)
          · refine li_if_eq (tgt := 59) hx hb (by unfold iR; omega) dX1_tube_52 (by decide) (fun h => absurd h (by decide)) (fun _ => ?_)
            refine li_iconst hx hb dX1_tube_55 ?_
            refine lv_goto (tgt := 60) hx hb dX1_tube_56 (by decide) ?_
            refine bc_SN (As := [.int (iI 1)]) (rest := []) ⟨hx, hb, hml, hown, hts⟩ (c_X1_need_t l g ad σ τ w) (va_cwS 1 hts gX1_tube_X1_need rfl rfl rfl (by decide +kernel) ⟨Nat.le_of_ble_eq_true rfl, Nat.le_of_ble_eq_true rfl⟩) hK hU rfl hl.1 rfl (Nat.le_of_ble_eq_true rfl) dX1_tube_60 ⟨Nat.le_of_ble_eq_true rfl, Nat.le_of_ble_eq_true rfl⟩ ?_
            refine lv_iload hx hb dX1_tube_63 (lv_at hl 7 rfl) ?_
            refine li_iconst hx hb dX1_tube_65 ?_
            refine li_sipush hx hb dX1_tube_66 (by decide) ?_
            refine bc_SB (As := [.int (iI r), .int (iI 1), .int (iI 200)]) (rest := []) ⟨hx, hb, hml, hown, hts⟩ (c_X1_isWithin l g ad σ τ w r 1 200 (by unfold iR; omega) (by unfold iR; omega) (by unfold iR; omega)) (va_cwS 3 hts gX1_tube_X1_isWithin rfl rfl rfl (by decide +kernel) ⟨Nat.le_of_ble_eq_true rfl, Nat.le_of_ble_eq_true rfl⟩) hK hU  rfl hl.1 rfl (Nat.le_of_ble_eq_true rfl) dX1_tube_69 ⟨Nat.le_of_ble_eq_true rfl, Nat.le_of_ble_eq_true rfl⟩ (fun h6 => ?_) (fun h6 => ?_)
            · refine bc_SN (As := [.int (iI 1)]) (rest := []) ⟨hx, hb, hml, hown, hts⟩ (c_X1_need_t l g ad σ τ w) (va_cwS 1 hts gX1_tube_X1_need rfl rfl rfl (by decide +kernel) ⟨Nat.le_of_ble_eq_true rfl, Nat.le_of_ble_eq_true rfl⟩) hK hU rfl hl.1 rfl (Nat.le_of_ble_eq_true rfl) dX1_tube_72 ⟨Nat.le_of_ble_eq_true rfl, Nat.le_of_ble_eq_true rfl⟩ ?_
              refine lv_aload_n hx hb dX1_tube_75 rfl (lv_at hl 0 rfl) ?_
              by_cases hm7 : σ 0 0 0 < 60
              · refine bc_VN (As := []) (rest := []) (kd := 0) (k := 0) (ci := 1) ⟨hx, hb, hml, hown, hts⟩ (c_X1_needRoom_t l g ad σ τ w hm7 hB) (cwV 0 hts gX1_tube_X1_needRoom rfl rfl rfl (by decide +kernel) ⟨Nat.le_of_ble_eq_true rfl, Nat.le_of_ble_eq_true rfl⟩) hK hU (bx_L0 (by omega)) rfl rfl rfl hl.1 rfl (Nat.le_of_ble_eq_true rfl) dX1_tube_76 ⟨Nat.le_of_ble_eq_true rfl, Nat.le_of_ble_eq_true rfl⟩ ?_
                refine bn_new hx hb hts hinX0 hown (hts (.classLink RX1 9 RX0) (by decide +kernel)) (hts (.instantiable RX0 6) (by decide +kernel)) (hts (.initialized RX0) (by decide +kernel)) hK hU (Nat.le_of_ble_eq_true rfl) (Nat.le_of_ble_eq_true rfl) dX1_tube_79 (fun qn H hU hF1 hPn hnn hgn => ?_)
                have hF := hF.tr hF1
                refine lv_dup hx hb dX1_tube_82 rfl ?_
                refine lv_iload_n hx hb dX1_tube_83 rfl (lv_at hl 1 rfl) ?_
                refine lv_iload_n hx hb dX1_tube_84 rfl (lv_at hl 2 rfl) ?_
                refine lv_iload hx hb dX1_tube_85 (lv_at hl 7 rfl) ?_
                refine bn_init (rest := [.ref qn]) (K := σ 0 0 0) (k := k) (ax := a) (r := r) ⟨hx, hb, hml, hown, hts⟩ (cwI 3 hts gX1_tube_X0_init rfl rfl rfl (hts (.initialized RX0) (by decide +kernel)) (hts (.methodLink RX1 54 yX0_init) (by decide +kernel)) (hts (.instanceMethod yX0_init) (by decide +kernel)) rfl (by decide +kernel) ⟨Nat.le_of_ble_eq_true rfl, Nat.le_of_ble_eq_true rfl⟩) hK hU hF hlc hPn hnn hgn (by omega) (by omega) hl.1 rfl (Nat.le_of_ble_eq_true rfl) dX1_tube_87 ⟨Nat.le_of_ble_eq_true rfl, Nat.le_of_ble_eq_true rfl⟩ (fun ad1 H locs e0 e20 hU hF1 hlc => ?_)
                have hF := hF.tr hF1
                rw [← e0 0 (by omega)] at hl
                subst e20
                have hp14 : 0 ≤ σ 0 0 0 ∧ σ 0 0 0 < 60 ∧ newS σ (σ 0 0 0) k a r 14 (σ 0 0 0) 0 ≠ 0 := ⟨by omega, by omega, newS_14 _ _ _ _ _⟩
                refine lv_astore (lv' := [(8, .ref (ad1 20 (σ 0 0 0))), (0, .ref (ad1 0 0)), (1, .int (iI k)), (2, .int (iI a)), (3, .int (iI f)), (4, .int (iI n)), (5, .int (iI u)), (6, .int (iI v)), (7, .int (iI r))]) hx hb dX1_tube_90 hl (by decide) rfl (fun ls hl => ?_)
                refine lv_iload_n hx hb dX1_tube_92 rfl (lv_at hl 3 rfl) ?_
                refine li_if_ne (tgt := 100) hx hb (by unfold iR; omega) dX1_tube_93 (by decide) (fun h8 => ?_) (fun h8 => ?_)
                · refine li_iconst hx hb dX1_tube_100 ?_
                  refine lv_istore (lv' := [(9, .int (iI 0)), (8, .ref (ad1 20 (σ 0 0 0))), (0, .ref (ad1 0 0)), (1, .int (iI k)), (2, .int (iI a)), (3, .int (iI f)), (4, .int (iI n)), (5, .int (iI u)), (6, .int (iI v)), (7, .int (iI r))]) hx hb dX1_tube_101 hl (by decide) rfl (fun ls hl => ?_)
                  refine lv_iload_n hx hb dX1_tube_103 rfl (lv_at hl 4 rfl) ?_
                  refine li_iconst hx hb dX1_tube_104 ?_
                  refine li_icmp_ne (tgt := 112) hx hb (by unfold iR; omega) (by unfold iR; omega) dX1_tube_105 (by decide) (fun h9 => ?_) (fun h9 => ?_)
                  · refine li_iconst hx hb dX1_tube_112 ?_
                    refine lv_istore (lv' := [(10, .int (iI 2)), (9, .int (iI 0)), (8, .ref (ad1 20 (σ 0 0 0))), (0, .ref (ad1 0 0)), (1, .int (iI k)), (2, .int (iI a)), (3, .int (iI f)), (4, .int (iI n)), (5, .int (iI u)), (6, .int (iI v)), (7, .int (iI r))]) hx hb dX1_tube_113 hl (by decide) rfl (fun ls hl => ?_)
                    refine lv_aload hx hb dX1_tube_115 (lv_at hl 2 rfl) ?_
                    refine lv_iload_n hx hb dX1_tube_117 rfl (lv_at hl 5 rfl) ?_
                    refine lv_iload_n hx hb dX1_tube_118 rfl (lv_at hl 6 rfl) ?_
                    refine lv_iload_n hx hb dX1_tube_119 rfl (lv_at hl 6 rfl) ?_
                    refine lv_iload hx hb dX1_tube_120 (lv_at hl 7 rfl) ?_
                    refine li_iadd hx hb dX1_tube_122 ?_
                    refine bc_VW (As := [.int (iI a), .int (iI f), .int (iI (f + n))]) (rest := []) (kd := 20) (k := σ 0 0 0) (ci := 0) ⟨hx, hb, hml, hown, hts⟩ (c_X0_setCore_n l g ad1 (newS σ (σ 0 0 0) k a r) τ w (σ 0 0 0) a f (f + n) hp14 (by omega)) (cwV 3 hts gX1_tube_X0_setCore rfl rfl rfl (by decide +kernel) ⟨Nat.le_of_ble_eq_true rfl, Nat.le_of_ble_eq_true rfl⟩) hK hU hlc (bx_Ln (by omega) (by omega) hp14) rfl rfl rfl hl.1 rfl (Nat.le_of_ble_eq_true rfl) dX1_tube_123 ⟨Nat.le_of_ble_eq_true rfl, Nat.le_of_ble_eq_true rfl⟩ (fun H locs hU hF1 hlc => ?_)
                    have hF := hF.tr hF1
                    refine lv_aload hx hb dX1_tube_126 (lv_at hl 2 rfl) ?_
                    refine lv_iload hx hb dX1_tube_128 (lv_at hl 1 rfl) ?_
                    refine lv_iload hx hb dX1_tube_130 (lv_at hl 8 rfl) ?_
                    refine lv_iload hx hb dX1_tube_132 (lv_at hl 8 rfl) ?_
                    refine bc_VW (As := [.int (iI 0), .int (iI u), .int (iI u)]) (rest := []) (kd := 20) (k := σ 0 0 0) (ci := 0) ⟨hx, hb, hml, hown, hts⟩ (c_X0_setCore_n l g ad1 (up3 (up3 (newS σ (σ 0 0 0) k a r) 7 (σ 0 0 0) a f) 8 (σ 0 0 0) a (f + n)) τ w (σ 0 0 0) 0 u u hp14 (by omega)) (cwV 3 hts gX1_tube_X0_setCore rfl rfl rfl (by decide +kernel) ⟨Nat.le_of_ble_eq_true rfl, Nat.le_of_ble_eq_true rfl⟩) hK hU hlc (bx_Ln (by omega) (by omega) hp14) rfl rfl rfl hl.1 rfl (Nat.le_of_ble_eq_true rfl) dX1_tube_134 ⟨Nat.le_of_ble_eq_true rfl, Nat.le_of_ble_eq_true rfl⟩ (fun H locs hU hF1 hlc => ?_)
                    have hF := hF.tr hF1
                    refine lv_aload hx hb dX1_tube_137 (lv_at hl 2 rfl) ?_
                    refine lv_iload hx hb dX1_tube_139 (lv_at hl 0 rfl) ?_
                    refine lv_iload hx hb dX1_tube_141 (lv_at hl 9 rfl) ?_
                    refine lv_iload hx hb dX1_tube_143 (lv_at hl 9 rfl) ?_
                    refine bc_VW (As := [.int (iI 2), .int (iI v), .int (iI v)]) (rest := []) (kd := 20) (k := σ 0 0 0) (ci := 0) ⟨hx, hb, hml, hown, hts⟩ (c_X0_setCore_n l g ad1 (up3 (up3 (up3 (up3 (newS σ (σ 0 0 0) k a r) 7 (σ 0 0 0) a f) 8 (σ 0 0 0) a (f + n)) 7 (σ 0 0 0) 0 u) 8 (σ 0 0 0) 0 u) τ w (σ 0 0 0) 2 v v hp14 (by omega)) (cwV 3 hts gX1_tube_X0_setCore rfl rfl rfl (by decide +kernel) ⟨Nat.le_of_ble_eq_true rfl, Nat.le_of_ble_eq_true rfl⟩) hK hU hlc (bx_Ln (by omega) (by omega) hp14) rfl rfl rfl hl.1 rfl (Nat.le_of_ble_eq_true rfl) dX1_tube_145 ⟨Nat.le_of_ble_eq_true rfl, Nat.le_of_ble_eq_true rfl⟩ (fun H locs hU hF1 hlc => ?_)
                    have hF := hF.tr hF1
                    refine lv_aload_n hx hb dX1_tube_148 rfl (lv_at hl 3 rfl) ?_
                    refine lv_aload hx hb dX1_tube_149 (lv_at hl 2 rfl) ?_
                    refine bc_VW (As := [.ref (ad1 20 (σ 0 0 0))]) (rest := []) (kd := 0) (k := 0) (ci := 1) ⟨hx, hb, hml, hown, hts⟩ (c_X1_add l g ad1 (up3 (up3 (up3 (up3 (up3 (up3 (newS σ (σ 0 0 0) k a r) 7 (σ 0 0 0) a f) 8 (σ 0 0 0) a (f + n)) 7 (σ 0 0 0) 0 u) 8 (σ 0 0 0) 0 u) 7 (σ 0 0 0) 2 v) 8 (σ 0 0 0) 2 v) τ w (σ 0 0 0) hp14 rfl) (cwV 1 hts gX1_tube_X1_add rfl rfl rfl (by decide +kernel) ⟨Nat.le_of_ble_eq_true rfl, Nat.le_of_ble_eq_true rfl⟩) hK hU hlc (bx_L0 (by omega)) rfl rfl rfl hl.1 rfl (Nat.le_of_ble_eq_true rfl) dX1_tube_151 ⟨Nat.le_of_ble_eq_true rfl, Nat.le_of_ble_eq_true rfl⟩ (fun H locs hU hF1 hlc => ?_)
                    have hF := hF.tr hF1
                    exact bh_i hx hb hr hlocks ⟨ad1, e0, (by show bx_U g ad1 (addC (setC (setC (setC (newS σ (σ 0 0 0) k a r) (σ 0 0 0) a f (f + n)) (σ 0 0 0) (uA a) u u) (σ 0 0 0) (vA a) v v)) τ w _; rw [show uA a = _ from if_neg h8, show vA a = _ from if_neg h9]; exact hU)⟩ hF hlc rfl dX1_tube_154
                  · refine li_iconst hx hb dX1_tube_108 ?_
                    refine lv_goto (tgt := 113) hx hb dX1_tube_109 (by decide) ?_
                    refine lv_istore (lv' := [(10, .int (iI 1)), (9, .int (iI 0)), (8, .ref (ad1 20 (σ 0 0 0))), (0, .ref (ad1 0 0)), (1, .int (iI k)), (2, .int (iI a)), (3, .int (iI f)), (4, .int (iI n)), (5, .int (iI u)), (6, .int (iI v)), (7, .int (iI r))]) hx hb dX1_tube_113 hl (by decide) rfl (fun ls hl => ?_)
                    refine lv_aload hx hb dX1_tube_115 (lv_at hl 2 rfl) ?_
                    refine lv_iload_n hx hb dX1_tube_117 rfl (lv_at hl 5 rfl) ?_
                    refine lv_iload_n hx hb dX1_tube_118 rfl (lv_at hl 6 rfl) ?_
                    refine lv_iload_n hx hb dX1_tube_119 rfl (lv_at hl 6 rfl) ?_
                    refine lv_iload hx hb dX1_tube_120 (lv_at hl 7 rfl) ?_
                    refine li_iadd hx hb dX1_tube_122 ?_
                    refine bc_VW (As := [.int (iI a), .int (iI f), .int (iI (f + n))]) (rest := []) (kd := 20) (k := σ 0 0 0) (ci := 0) ⟨hx, hb, hml, hown, hts⟩ (c_X0_setCore_n l g ad1 (newS σ (σ 0 0 0) k a r) τ w (σ 0 0 0) a f (f + n) hp14 (by omega)) (cwV 3 hts gX1_tube_X0_setCore rfl rfl rfl (by decide +kernel) ⟨Nat.le_of_ble_eq_true rfl, Nat.le_of_ble_eq_true rfl⟩) hK hU hlc (bx_Ln (by omega) (by omega) hp14) rfl rfl rfl hl.1 rfl (Nat.le_of_ble_eq_true rfl) dX1_tube_123 ⟨Nat.le_of_ble_eq_true rfl, Nat.le_of_ble_eq_true rfl⟩ (fun H locs hU hF1 hlc => ?_)
                    have hF := hF.tr hF1
                    refine lv_aload hx hb dX1_tube_126 (lv_at hl 2 rfl) ?_
                    refine lv_iload hx hb dX1_tube_128 (lv_at hl 1 rfl) ?_
                    refine lv_iload hx hb dX1_tube_130 (lv_at hl 8 rfl) ?_
                    refine lv_iload hx hb dX1_tube_132 (lv_at hl 8 rfl) ?_
                    refine bc_VW (As := [.int (iI 0), .int (iI u), .int (iI u)]) (rest := []) (kd := 20) (k := σ 0 0 0) (ci := 0) ⟨hx, hb, hml, hown, hts⟩ (c_X0_setCore_n l g ad1 (up3 (up3 (newS σ (σ 0 0 0) k a r) 7 (σ 0 0 0) a f) 8 (σ 0 0 0) a (f + n)) τ w (σ 0 0 0) 0 u u hp14 (by omega)) (cwV 3 hts gX1_tube_X0_setCore rfl rfl rfl (by decide +kernel) ⟨Nat.le_of_ble_eq_true rfl, Nat.le_of_ble_eq_true rfl⟩) hK hU hlc (bx_Ln (by omega) (by omega) hp14) rfl rfl rfl hl.1 rfl (Nat.le_of_ble_eq_true rfl) dX1_tube_134 ⟨Nat.le_of_ble_eq_true rfl, Nat.le_of_ble_eq_true rfl⟩ (fun H locs hU hF1 hlc => ?_)
                    have hF := hF.tr hF1
                    refine lv_aload hx hb dX1_tube_137 (lv_at hl 2 rfl) ?_
                    refine lv_iload hx hb dX1_tube_139 (lv_at hl 0 rfl) ?_
                    refine lv_iload hx hb dX1_tube_141 (lv_at hl 9 rfl) ?_
                    refine lv_iload hx hb dX1_tube_143 (lv_at hl 9 rfl) ?_
                    refine bc_VW (As := [.int (iI 1), .int (iI v), .int (iI v)]) (rest := []) (kd := 20) (k := σ 0 0 0) (ci := 0) ⟨hx, hb, hml, hown, hts⟩ (c_X0_setCore_n l g ad1 (up3 (up3 (up3 (up3 (newS σ (σ 0 0 0) k a r) 7 (σ 0 0 0) a f) 8 (σ 0 0 0) a (f + n)) 7 (σ 0 0 0) 0 u) 8 (σ 0 0 0) 0 u) τ w (σ 0 0 0) 1 v v hp14 (by omega)) (cwV 3 hts gX1_tube_X0_setCore rfl rfl rfl (by decide +kernel) ⟨Nat.le_of_ble_eq_true rfl, Nat.le_of_ble_eq_true rfl⟩) hK hU hlc (bx_Ln (by omega) (by omega) hp14) rfl rfl rfl hl.1 rfl (Nat.le_of_ble_eq_true rfl) dX1_tube_145 ⟨Nat.le_of_ble_eq_true rfl, Nat.le_of_ble_eq_true rfl⟩ (fun H locs hU hF1 hlc => ?_)
                    have hF := hF.tr hF1
                    refine lv_aload_n hx hb dX1_tube_148 rfl (lv_at hl 3 rfl) ?_
                    refine lv_aload hx hb dX1_tube_149 (lv_at hl 2 rfl) ?_
                    refine bc_VW (As := [.ref (ad1 20 (σ 0 0 0))]) (rest := []) (kd := 0) (k := 0) (ci := 1) ⟨hx, hb, hml, hown, hts⟩ (c_X1_add l g ad1 (up3 (up3 (up3 (up3 (up3 (up3 (newS σ (σ 0 0 0) k a r) 7 (σ 0 0 0) a f) 8 (σ 0 0 0) a (f + n)) 7 (σ 0 0 0) 0 u) 8 (σ 0 0 0) 0 u) 7 (σ 0 0 0) 1 v) 8 (σ 0 0 0) 1 v) τ w (σ 0 0 0) hp14 rfl) (cwV 1 hts gX1_tube_X1_add rfl rfl rfl (by decide +kernel) ⟨Nat.le_of_ble_eq_true rfl, Nat.le_of_ble_eq_true rfl⟩) hK hU hlc (bx_L0 (by omega)) rfl rfl rfl hl.1 rfl (Nat.le_of_ble_eq_true rfl) dX1_tube_151 ⟨Nat.le_of_ble_eq_true rfl, Nat.le_of_ble_eq_true rfl⟩ (fun H locs hU hF1 hlc => ?_)
                    have hF := hF.tr hF1
                    exact bh_i hx hb hr hlocks ⟨ad1, e0, (by show bx_U g ad1 (addC (setC (setC (setC (newS σ (σ 0 0 0) k a r) (σ 0 0 0) a f (f + n)) (σ 0 0 0) (uA a) u u) (σ 0 0 0) (vA a) v v)) τ w _; rw [show uA a = _ from if_neg h8, show vA a = _ from if_pos h9]; exact hU)⟩ hF hlc rfl dX1_tube_154
                · refine li_iconst hx hb dX1_tube_96 ?_
                  refine lv_goto (tgt := 101) hx hb dX1_tube_97 (by decide) ?_
                  refine lv_istore (lv' := [(9, .int (iI 1)), (8, .ref (ad1 20 (σ 0 0 0))), (0, .ref (ad1 0 0)), (1, .int (iI k)), (2, .int (iI a)), (3, .int (iI f)), (4, .int (iI n)), (5, .int (iI u)), (6, .int (iI v)), (7, .int (iI r))]) hx hb dX1_tube_101 hl (by decide) rfl (fun ls hl => ?_)
                  refine lv_iload_n hx hb dX1_tube_103 rfl (lv_at hl 4 rfl) ?_
                  refine li_iconst hx hb dX1_tube_104 ?_
                  refine li_icmp_ne (tgt := 112) hx hb (by unfold iR; omega) (by unfold iR; omega) dX1_tube_105 (by decide) (fun h10 => ?_) (fun h10 => ?_)
                  · refine li_iconst hx hb dX1_tube_112 ?_
                    refine lv_istore (lv' := [(10, .int (iI 2)), (9, .int (iI 1)), (8, .ref (ad1 20 (σ 0 0 0))), (0, .ref (ad1 0 0)), (1, .int (iI k)), (2, .int (iI a)), (3, .int (iI f)), (4, .int (iI n)), (5, .int (iI u)), (6, .int (iI v)), (7, .int (iI r))]) hx hb dX1_tube_113 hl (by decide) rfl (fun ls hl => ?_)
                    refine lv_aload hx hb dX1_tube_115 (lv_at hl 2 rfl) ?_
                    refine lv_iload_n hx hb dX1_tube_117 rfl (lv_at hl 5 rfl) ?_
                    refine lv_iload_n hx hb dX1_tube_118 rfl (lv_at hl 6 rfl) ?_
                    refine lv_iload_n hx hb dX1_tube_119 rfl (lv_at hl 6 rfl) ?_
                    refine lv_iload hx hb dX1_tube_120 (lv_at hl 7 rfl) ?_
                    refine li_iadd hx hb dX1_tube_122 ?_
                    refine bc_VW (As := [.int (iI a), .int (iI f), .int (iI (f + n))]) (rest := []) (kd := 20) (k := σ 0 0 0) (ci := 0) ⟨hx, hb, hml, hown, hts⟩ (c_X0_setCore_n l g ad1 (newS σ (σ 0 0 0) k a r) τ w (σ 0 0 0) a f (f + n) hp14 (by omega)) (cwV 3 hts gX1_tube_X0_setCore rfl rfl rfl (by decide +kernel) ⟨Nat.le_of_ble_eq_true rfl, Nat.le_of_ble_eq_true rfl⟩) hK hU hlc (bx_Ln (by omega) (by omega) hp14) rfl rfl rfl hl.1 rfl (Nat.le_of_ble_eq_true rfl) dX1_tube_123 ⟨Nat.le_of_ble_eq_true rfl, Nat.le_of_ble_eq_true rfl⟩ (fun H locs hU hF1 hlc => ?_)
                    have hF := hF.tr hF1
                    refine lv_aload hx hb dX1_tube_126 (lv_at hl 2 rfl) ?_
                    refine lv_iload hx hb dX1_tube_128 (lv_at hl 1 rfl) ?_
                    refine lv_iload hx hb dX1_tube_130 (lv_at hl 8 rfl) ?_
                    refine lv_iload hx hb dX1_tube_132 (lv_at hl 8 rfl) ?_
                    refine bc_VW (As := [.int (iI 1), .int (iI u), .int (iI u)]) (rest := []) (kd := 20) (k := σ 0 0 0) (ci := 0) ⟨hx, hb, hml, hown, hts⟩ (c_X0_setCore_n l g ad1 (up3 (up3 (newS σ (σ 0 0 0) k a r) 7 (σ 0 0 0) a f) 8 (σ 0 0 0) a (f + n)) τ w (σ 0 0 0) 1 u u hp14 (by omega)) (cwV 3 hts gX1_tube_X0_setCore rfl rfl rfl (by decide +kernel) ⟨Nat.le_of_ble_eq_true rfl, Nat.le_of_ble_eq_true rfl⟩) hK hU hlc (bx_Ln (by omega) (by omega) hp14) rfl rfl rfl hl.1 rfl (Nat.le_of_ble_eq_true rfl) dX1_tube_134 ⟨Nat.le_of_ble_eq_true rfl, Nat.le_of_ble_eq_true rfl⟩ (fun H locs hU hF1 hlc => ?_)
                    have hF := hF.tr hF1
                    refine lv_aload hx hb dX1_tube_137 (lv_at hl 2 rfl) ?_
                    refine lv_iload hx hb dX1_tube_139 (lv_at hl 0 rfl) ?_
                    refine lv_iload hx hb dX1_tube_141 (lv_at hl 9 rfl) ?_
                    refine lv_iload hx hb dX1_tube_143 (lv_at hl 9 rfl) ?_
                    refine bc_VW (As := [.int (iI 2), .int (iI v), .int (iI v)]) (rest := []) (kd := 20) (k := σ 0 0 0) (ci := 0) ⟨hx, hb, hml, hown, hts⟩ (c_X0_setCore_n l g ad1 (up3 (up3 (up3 (up3 (newS σ (σ 0 0 0) k a r) 7 (σ 0 0 0) a f) 8 (σ 0 0 0) a (f + n)) 7 (σ 0 0 0) 1 u) 8 (σ 0 0 0) 1 u) τ w (σ 0 0 0) 2 v v hp14 (by omega)) (cwV 3 hts gX1_tube_X0_setCore rfl rfl rfl (by decide +kernel) ⟨Nat.le_of_ble_eq_true rfl, Nat.le_of_ble_eq_true rfl⟩) hK hU hlc (bx_Ln (by omega) (by omega) hp14) rfl rfl rfl hl.1 rfl (Nat.le_of_ble_eq_true rfl) dX1_tube_145 ⟨Nat.le_of_ble_eq_true rfl, Nat.le_of_ble_eq_true rfl⟩ (fun H locs hU hF1 hlc => ?_)
                    have hF := hF.tr hF1
                    refine lv_aload_n hx hb dX1_tube_148 rfl (lv_at hl 3 rfl) ?_
                    refine lv_aload hx hb dX1_tube_149 (lv_at hl 2 rfl) ?_
                    refine bc_VW (As := [.ref (ad1 20 (σ 0 0 0))]) (rest := []) (kd := 0) (k := 0) (ci := 1) ⟨hx, hb, hml, hown, hts⟩ (c_X1_add l g ad1 (up3 (up3 (up3 (up3 (up3 (up3 (newS σ (σ 0 0 0) k a r) 7 (σ 0 0 0) a f) 8 (σ 0 0 0) a (f + n)) 7 (σ 0 0 0) 1 u) 8 (σ 0 0 0) 1 u) 7 (σ 0 0 0) 2 v) 8 (σ 0 0 0) 2 v) τ w (σ 0 0 0) hp14 rfl) (cwV 1 hts gX1_tube_X1_add rfl rfl rfl (by decide +kernel) ⟨Nat.le_of_ble_eq_true rfl, Nat.le_of_ble_eq_true rfl⟩) hK hU hlc (bx_L0 (by omega)) rfl rfl rfl hl.1 rfl (Nat.le_of_ble_eq_true rfl) dX1_tube_151 ⟨Nat.le_of_ble_eq_true rfl, Nat.le_of_ble_eq_true rfl⟩ (fun H locs hU hF1 hlc => ?_)
                    have hF := hF.tr hF1
                    exact bh_i hx hb hr hlocks ⟨ad1, e0, (by show bx_U g ad1 (addC (setC (setC (setC (newS σ (σ 0 0 0) k a r) (σ 0 0 0) a f (f + n)) (σ 0 0 0) (uA a) u u) (σ 0 0 0) (vA a) v v)) τ w _; rw [show uA a = _ from if_pos h8, show vA a = _ from if_neg h10]; exact hU)⟩ hF hlc rfl dX1_tube_154
                  · refine li_iconst hx hb dX1_tube_108 ?_
                    refine lv_goto (tgt := 113) hx hb dX1_tube_109 (by decide) ?_
                    refine lv_istore (lv' := [(10, .int (iI 1)), (9, .int (iI 1)), (8, .ref (ad1 20 (σ 0 0 0))), (0, .ref (ad1 0 0)), (1, .int (iI k)), (2, .int (iI a)), (3, .int (iI f)), (4, .int (iI n)), (5, .int (iI u)), (6, .int (iI v)), (7, .int (iI r))]) hx hb dX1_tube_113 hl (by decide) rfl (fun ls hl => ?_)
                    refine lv_aload hx hb dX1_tube_115 (lv_at hl 2 rfl) ?_
                    refine lv_iload_n hx hb dX1_tube_117 rfl (lv_at hl 5 rfl) ?_
                    refine lv_iload_n hx hb dX1_tube_118 rfl (lv_at hl 6 rfl) ?_
                    refine lv_iload_n hx hb dX1_tube_119 rfl (lv_at hl 6 rfl) ?_
                    refine lv_iload hx hb dX1_tube_120 (lv_at hl 7 rfl) ?_
                    refine li_iadd hx hb dX1_tube_122 ?_
                    refine bc_VW (As := [.int (iI a), .int (iI f), .int (iI (f + n))]) (rest := []) (kd := 20) (k := σ 0 0 0) (ci := 0) ⟨hx, hb, hml, hown, hts⟩ (c_X0_setCore_n l g ad1 (newS σ (σ 0 0 0) k a r) τ w (σ 0 0 0) a f (f + n) hp14 (by omega)) (cwV 3 hts gX1_tube_X0_setCore rfl rfl rfl (by decide +kernel) ⟨Nat.le_of_ble_eq_true rfl, Nat.le_of_ble_eq_true rfl⟩) hK hU hlc (bx_Ln (by omega) (by omega) hp14) rfl rfl rfl hl.1 rfl (Nat.le_of_ble_eq_true rfl) dX1_tube_123 ⟨Nat.le_of_ble_eq_true rfl, Nat.le_of_ble_eq_true rfl⟩ (fun H locs hU hF1 hlc => ?_)
                    have hF := hF.tr hF1
                    refine lv_aload hx hb dX1_tube_126 (lv_at hl 2 rfl) ?_
                    refine lv_iload hx hb dX1_tube_128 (lv_at hl 1 rfl) ?_
                    refine lv_iload hx hb dX1_tube_130 (lv_at hl 8 rfl) ?_
                    refine lv_iload hx hb dX1_tube_132 (lv_at hl 8 rfl) ?_
                    refine bc_VW (As := [.int (iI 1), .int (iI u), .int (iI u)]) (rest := []) (kd := 20) (k := σ 0 0 0) (ci := 0) ⟨hx, hb, hml, hown, hts⟩ (c_X0_setCore_n l g ad1 (up3 (up3 (newS σ (σ 0 0 0) k a r) 7 (σ 0 0 0) a f) 8 (σ 0 0 0) a (f + n)) τ w (σ 0 0 0) 1 u u hp14 (by omega)) (cwV 3 hts gX1_tube_X0_setCore rfl rfl rfl (by decide +kernel) ⟨Nat.le_of_ble_eq_true rfl, Nat.le_of_ble_eq_true rfl⟩) hK hU hlc (bx_Ln (by omega) (by omega) hp14) rfl rfl rfl hl.1 rfl (Nat.le_of_ble_eq_true rfl) dX1_tube_134 ⟨Nat.le_of_ble_eq_true rfl, Nat.le_of_ble_eq_true rfl⟩ (fun H locs hU hF1 hlc => ?_)
                    have hF := hF.tr hF1
                    refine lv_aload hx hb dX1_tube_137 (lv_at hl 2 rfl) ?_
                    refine lv_iload hx hb dX1_tube_139 (lv_at hl 0 rfl) ?_
                    refine lv_iload hx hb dX1_tube_141 (lv_at hl 9 rfl) ?_
                    refine lv_iload hx hb dX1_tube_143 (lv_at hl 9 rfl) ?_
                    refine bc_VW (As := [.int (iI 1), .int (iI v), .int (iI v)]) (rest := []) (kd := 20) (k := σ 0 0 0) (ci := 0) ⟨hx, hb, hml, hown, hts⟩ (c_X0_setCore_n l g ad1 (up3 (up3 (up3 (up3 (newS σ (σ 0 0 0) k a r) 7 (σ 0 0 0) a f) 8 (σ 0 0 0) a (f + n)) 7 (σ 0 0 0) 1 u) 8 (σ 0 0 0) 1 u) τ w (σ 0 0 0) 1 v v hp14 (by omega)) (cwV 3 hts gX1_tube_X0_setCore rfl rfl rfl (by decide +kernel) ⟨Nat.le_of_ble_eq_true rfl, Nat.le_of_ble_eq_true rfl⟩) hK hU hlc (bx_Ln (by omega) (by omega) hp14) rfl rfl rfl hl.1 rfl (Nat.le_of_ble_eq_true rfl) dX1_tube_145 ⟨Nat.le_of_ble_eq_true rfl, Nat.le_of_ble_eq_true rfl⟩ (fun H locs hU hF1 hlc => ?_)
                    have hF := hF.tr hF1
                    refine lv_aload_n hx hb dX1_tube_148 rfl (lv_at hl 3 rfl) ?_
                    refine lv_aload hx hb dX1_tube_149 (lv_at hl 2 rfl) ?_
                    refine bc_VW (As := [.ref (ad1 20 (σ 0 0 0))]) (rest := []) (kd := 0) (k := 0) (ci := 1) ⟨hx, hb, hml, hown, hts⟩ (c_X1_add l g ad1 (up3 (up3 (up3 (up3 (up3 (up3 (newS σ (σ 0 0 0) k a r) 7 (σ 0 0 0) a f) 8 (σ 0 0 0) a (f + n)) 7 (σ 0 0 0) 1 u) 8 (σ 0 0 0) 1 u) 7 (σ 0 0 0) 1 v) 8 (σ 0 0 0) 1 v) τ w (σ 0 0 0) hp14 rfl) (cwV 1 hts gX1_tube_X1_add rfl rfl rfl (by decide +kernel) ⟨Nat.le_of_ble_eq_true rfl, Nat.le_of_ble_eq_true rfl⟩) hK hU hlc (bx_L0 (by omega)) rfl rfl rfl hl.1 rfl (Nat.le_of_ble_eq_true rfl) dX1_tube_151 ⟨Nat.le_of_ble_eq_true rfl, Nat.le_of_ble_eq_true rfl⟩ (fun H locs hU hF1 hlc => ?_)
                    have hF := hF.tr hF1
                    exact bh_i hx hb hr hlocks ⟨ad1, e0, (by show bx_U g ad1 (addC (setC (setC (setC (newS σ (σ 0 0 0) k a r) (σ 0 0 0) a f (f + n)) (σ 0 0 0) (uA a) u u) (σ 0 0 0) (vA a) v v)) τ w _; rw [show uA a = _ from if_pos h8, show vA a = _ from if_pos h10]; exact hU)⟩ hF hlc rfl dX1_tube_154
              · exfalso
                omega
            · exfalso
              omega
          · refine li_if_eq (tgt := 59) hx hb (by unfold iR; omega) dX1_tube_52 (by decide) (fun _ => ?_) (fun h => absurd (by decide) h)
            refine li_iconst hx hb dX1_tube_59 ?_
            exfalso
            omega
        · refine li_if_eq (tgt := 59) hx hb (by unfold iR; omega) dX1_tube_40 (by decide) (fun _ => ?_) (fun h => absurd (by decide) h)
          refine li_iconst hx hb dX1_tube_59 ?_
          exfalso
          omega
      · exfalso
        omega
    · refine li_if_eq (tgt := 18) hx hb (by unfold iR; omega) dX1_tube_11 (by decide) (fun _ => ?_) (fun h => absurd (by decide) h)
      refine li_iconst hx hb dX1_tube_18 ?_
      exfalso
      omega
  · refine li_if_eq (tgt := 18) hx hb (by unfold iR; omega) dX1_tube_4 (by decide) (fun _ => ?_) (fun h => absurd (by decide) h)
    refine li_iconst hx hb dX1_tube_18 ?_
    exfalso
    omega

set_option maxHeartbeats 4000000 in
set_option maxRecDepth 100000 in
theorem c_X1_tube_f (l : Launch) (hst : l.stackTraces = false) (g : bxG) (ad : bxA) (σ τ : bxS) (w : bxW) (sa : Nat → Nat) (k a f n u v r : Int) (hRk : iR k) (hRa : iR a) (hRf : iR f) (hRn : iR n) (hRu : iR u) (hRv : iR v) (hRr : iR r) (hB : bx_B σ) (hg : ¬ ((0 ≤ k ∧ k ≤ 7) ∧ (0 ≤ a ∧ a ≤ 2) ∧ (0 ≤ f ∧ f ≤ 1000 ∧ 1 ≤ n ∧ n ≤ 1000 ∧ f + n ≤ 1000) ∧ (0 ≤ u ∧ u ≤ 1000) ∧ (0 ≤ v ∧ v ≤ 1000) ∧ 1 ≤ r ∧ r ≤ 200)) : vx_Met l yX1_tube wsX1_tube ({ frames := 7, cells := 1, slots := 6, locals := 110 }) (va_Pc [.ref (ad 0 0), .int (iI k), .int (iI a), .int (iI f), .int (iI n), .int (iI u), .int (iI v), .int (iI r)] (fun U => bt_I g ad σ τ w sa U)) bq_no (bq_X g ad σ τ w (fun E => E = bt_iae)) 1 6 (bq_fr g) := by
  refine vx_ofW (cc := cX1_tube) (maxL := 11) (ret := (some .int)) (by decide) rfl ?_
  intro Pg Ev s mI args below meth cd s₁ B hml hout hv
  obtain ⟨rfl, ⟨hU, hK⟩, hT⟩ := hv
  have hx := B.exec
  have hb := B.bytes
  have hr := B.returns
  have hts := atoms_spec (ws := wsX1_tube) B.pre
  have hown : s.vm.findClass RX1 = some mI.cls := findClass_of_methodNamed B.named
  have hlocks := B.notSynchronized
  have hl := lv_entry ([.ref (ad 0 0), .int (iI k), .int (iI a), .int (iI f), .int (iI n), .int (iI u), .int (iI v), .int (iI r)]) (n := 11) (Nat.le_of_ble_eq_true rfl)
  rw [lg_entry_eq]
  generalize (lg_sl ([.ref (ad 0 0), .int (iI k), .int (iI a), .int (iI f), .int (iI n), .int (iI u), .int (iI v), .int (iI r)]) ++ List.replicate (11 - (lg_sl ([.ref (ad 0 0), .int (iI k), .int (iI a), .int (iI f), .int (iI n), .int (iI u), .int (iI v), .int (iI r)])).length) Slot.unset).toArray = ls at hl ⊢
  have hl : lv_has ls 11 [(0, .ref (ad 0 0)), (1, .int (iI k)), (2, .int (iI a)), (3, .int (iI f)), (4, .int (iI n)), (5, .int (iI u)), (6, .int (iI v)), (7, .int (iI r))] := hl
  have hRk0 : -2147483648 ≤ k ∧ k < 2147483648 := hRk
  have hRa0 : -2147483648 ≤ a ∧ a < 2147483648 := hRa
  have hRf0 : -2147483648 ≤ f ∧ f < 2147483648 := hRf
  have hRn0 : -2147483648 ≤ n ∧ n < 2147483648 := hRn
  have hRu0 : -2147483648 ≤ u ∧ u < 2147483648 := hRu
  have hRv0 : -2147483648 ≤ v ∧ v < 2147483648 := hRv
  have hRr0 : -2147483648 ≤ r ∧ r < 2147483648 := hRr
  have hm0 := bB0 hB
  refine lv_iload_n hx hb dX1_tube_0 rfl (lv_at hl 1 rfl) ?_
  refine bc_SB (As := [.int (iI k)]) (rest := []) ⟨hx, hb, hml, hown, hts⟩ (c_X1_isKind l g ad σ τ w k (by unfold iR; omega)) (va_cwS 1 hts gX1_tube_X1_isKind rfl rfl rfl (by decide +kernel) ⟨Nat.le_of_ble_eq_true rfl, Nat.le_of_ble_eq_true rfl⟩) hK hU  rfl hl.1 rfl (Nat.le_of_ble_eq_true rfl) dX1_tube_1 ⟨Nat.zero_le _, Nat.zero_le _⟩ (fun h1 => ?_) (fun h1 => ?_)
  · refine li_if_eq (tgt := 18) hx hb (by unfold iR; omega) dX1_tube_4 (by decide) (fun h => absurd h (by decide)) (fun _ => ?_)
    refine lv_iload_n hx hb dX1_tube_7 rfl (lv_at hl 2 rfl) ?_
    refine bc_SB (As := [.int (iI a)]) (rest := []) ⟨hx, hb, hml, hown, hts⟩ (c_X1_isAxis l g ad σ τ w a (by unfold iR; omega)) (va_cwS 1 hts gX1_tube_X1_isAxis rfl rfl rfl (by decide +kernel) ⟨Nat.le_of_ble_eq_true rfl, Nat.le_of_ble_eq_true rfl⟩) hK hU  rfl hl.1 rfl (Nat.le_of_ble_eq_true rfl) dX1_tube_8 ⟨Nat.zero_le _, Nat.zero_le _⟩ (fun h2 => ?_) (fun h2 => ?_)
    · refine li_if_eq (tgt := 18) hx hb (by unfold iR; omega) dX1_tube_11 (by decide) (fun h => absurd h (by decide)) (fun _ => ?_)
      refine li_iconst hx hb dX1_tube_14 ?_
      refine lv_goto (tgt := 19) hx hb dX1_tube_15 (by decide) ?_
      refine bc_SN (As := [.int (iI 1)]) (rest := []) ⟨hx, hb, hml, hown, hts⟩ (c_X1_need_t l g ad σ τ w) (va_cwS 1 hts gX1_tube_X1_need rfl rfl rfl (by decide +kernel) ⟨Nat.le_of_ble_eq_true rfl, Nat.le_of_ble_eq_true rfl⟩) hK hU rfl hl.1 rfl (Nat.le_of_ble_eq_true rfl) dX1_tube_19 ⟨Nat.zero_le _, Nat.zero_le _⟩ ?_
      refine lv_iload_n hx hb dX1_tube_22 rfl (lv_at hl 3 rfl) ?_
      refine lv_iload hx hb dX1_tube_23 (lv_at hl 4 rfl) ?_
      refine bc_SB (As := [.int (iI f), .int (iI n)]) (rest := []) ⟨hx, hb, hml, hown, hts⟩ (c_X1_isSpan l g ad σ τ w f n (by unfold iR; omega) (by unfold iR; omega)) (va_cwS 2 hts gX1_tube_X1_isSpan rfl rfl rfl (by decide +kernel) ⟨Nat.le_of_ble_eq_true rfl, Nat.le_of_ble_eq_true rfl⟩) hK hU  rfl hl.1 rfl (Nat.le_of_ble_eq_true rfl) dX1_tube_25 ⟨Nat.zero_le _, Nat.zero_le _⟩ (fun h3 => ?_) (fun h3 => ?_)
      · refine bc_SN (As := [.int (iI 1)]) (rest := []) ⟨hx, hb, hml, hown, hts⟩ (c_X1_need_t l g ad σ τ w) (va_cwS 1 hts gX1_tube_X1_need rfl rfl rfl (by decide +kernel) ⟨Nat.le_of_ble_eq_true rfl, Nat.le_of_ble_eq_true rfl⟩) hK hU rfl hl.1 rfl (Nat.le_of_ble_eq_true rfl) dX1_tube_28 ⟨Nat.zero_le _, Nat.zero_le _⟩ ?_
        refine lv_iload hx hb dX1_tube_31 (lv_at hl 5 rfl) ?_
        refine li_iconst hx hb dX1_tube_33 ?_
        refine li_sipush hx hb dX1_tube_34 (by decide) ?_
        refine bc_SB (As := [.int (iI u), .int (iI 0), .int (iI 1000)]) (rest := []) ⟨hx, hb, hml, hown, hts⟩ (c_X1_isWithin l g ad σ τ w u 0 1000 (by unfold iR; omega) (by unfold iR; omega) (by unfold iR; omega)) (va_cwS 3 hts gX1_tube_X1_isWithin rfl rfl rfl (by decide +kernel) ⟨Nat.le_of_ble_eq_true rfl, Nat.le_of_ble_eq_true rfl⟩) hK hU  rfl hl.1 rfl (Nat.le_of_ble_eq_true rfl) dX1_tube_37 ⟨Nat.zero_le _, Nat.zero_le _⟩ (fun h4 => ?_) (fun h4 => ?_)
        · refine li_if_eq (tgt := 59) hx hb (by unfold iR; omega) dX1_tube_40 (by decide) (fun h => absurd h (by decide)) (fun _ => ?_)
          refine lv_iload hx hb dX1_tube_43 (lv_at hl 6 rfl) ?_
          refine li_iconst hx hb dX1_tube_45 ?_
          refine li_sipush hx hb dX1_tube_46 (by decide) ?_
          refine bc_SB (As := [.int (iI v), .int (iI 0), .int (iI 1000)]) (rest := []) ⟨hx, hb, hml, hown, hts⟩ (c_X1_isWithin l g ad σ τ w v 0 1000 (by unfold iR; omega) (by unfold iR; omega) (by unfold iR; omega)) (va_cwS 3 hts gX1_tube_X1_isWithin rfl rfl rfl (by decide +kernel) ⟨Nat.le_of_ble_eq_true rfl, Nat.le_of_ble_eq_true rfl⟩) hK hU  rfl hl.1 rfl (Nat.le_of_ble_eq_true rfl) dX1_tube_49 ⟨Nat.zero_le _, Nat.zero_le _⟩ (fun h5 => ?_) (fun h5 => ?_)
          · refine li_if_eq (tgt := 59) hx hb (by unfold iR; omega) dX1_tube_52 (by decide) (fun h => absurd h (by decide)) (fun _ => ?_)
            refine li_iconst hx hb dX1_tube_55 ?_
            refine lv_goto (tgt := 60) hx hb dX1_tube_56 (by decide) ?_
            refine bc_SN (As := [.int (iI 1)]) (rest := []) ⟨hx, hb, hml, hown, hts⟩ (c_X1_need_t l g ad σ τ w) (va_cwS 1 hts gX1_tube_X1_need rfl rfl rfl (by decide +kernel) ⟨Nat.le_of_ble_eq_true rfl, Nat.le_of_ble_eq_true rfl⟩) hK hU rfl hl.1 rfl (Nat.le_of_ble_eq_true rfl) dX1_tube_60 ⟨Nat.zero_le _, Nat.zero_le _⟩ ?_
            refine lv_iload hx hb dX1_tube_63 (lv_at hl 7 rfl) ?_
            refine li_iconst hx hb dX1_tube_65 ?_
            refine li_sipush hx hb dX1_tube_66 (by decide) ?_
            refine bc_SB (As := [.int (iI r), .int (iI 1), .int (iI 200)]) (rest := []) ⟨hx, hb, hml, hown, hts⟩ (c_X1_isWithin l g ad σ τ w r 1 200 (by unfold iR; omega) (by unfold iR; omega) (by unfold iR; omega)) (va_cwS 3 hts gX1_tube_X1_isWithin rfl rfl rfl (by decide +kernel) ⟨Nat.le_of_ble_eq_true rfl, Nat.le_of_ble_eq_true rfl⟩) hK hU  rfl hl.1 rfl (Nat.le_of_ble_eq_true rfl) dX1_tube_69 ⟨Nat.zero_le _, Nat.zero_le _⟩ (fun h6 => ?_) (fun h6 => ?_)
            · refine bc_SN (As := [.int (iI 1)]) (rest := []) ⟨hx, hb, hml, hown, hts⟩ (c_X1_need_t l g ad σ τ w) (va_cwS 1 hts gX1_tube_X1_need rfl rfl rfl (by decide +kernel) ⟨Nat.le_of_ble_eq_true rfl, Nat.le_of_ble_eq_true rfl⟩) hK hU rfl hl.1 rfl (Nat.le_of_ble_eq_true rfl) dX1_tube_72 ⟨Nat.zero_le _, Nat.zero_le _⟩ ?_
              exfalso
              omega
            · exact bt_S (As := [.int (iI 0)]) (rest := []) ⟨hx, hb, hml, hown, hts⟩ (c_X1_need_f l hst g ad σ τ w sa) (va_cwS 1 hts gX1_tube_X1_need rfl rfl rfl (by decide +kernel) ⟨Nat.le_of_ble_eq_true rfl, Nat.le_of_ble_eq_true rfl⟩) hK hU hT bx_F.rf bx_Lc.nil rfl hl.1 rfl (Nat.le_of_ble_eq_true rfl) dX1_tube_72 ⟨Nat.le_of_ble_eq_true rfl, Nat.le_of_ble_eq_true rfl⟩ hout hlocks (Nat.le_of_ble_eq_true rfl) (Nat.le_of_ble_eq_true rfl)
          · refine li_if_eq (tgt := 59) hx hb (by unfold iR; omega) dX1_tube_52 (by decide) (fun _ => ?_) (fun h => absurd (by decide) h)
            refine li_iconst hx hb dX1_tube_59 ?_
            exact bt_S (As := [.int (iI 0)]) (rest := []) ⟨hx, hb, hml, hown, hts⟩ (c_X1_need_f l hst g ad σ τ w sa) (va_cwS 1 hts gX1_tube_X1_need rfl rfl rfl (by decide +kernel) ⟨Nat.le_of_ble_eq_true rfl, Nat.le_of_ble_eq_true rfl⟩) hK hU hT bx_F.rf bx_Lc.nil rfl hl.1 rfl (Nat.le_of_ble_eq_true rfl) dX1_tube_60 ⟨Nat.le_of_ble_eq_true rfl, Nat.le_of_ble_eq_true rfl⟩ hout hlocks (Nat.le_of_ble_eq_true rfl) (Nat.le_of_ble_eq_true rfl)
        · refine li_if_eq (tgt := 59) hx hb (by unfold iR; omega) dX1_tube_40 (by decide) (fun _ => ?_) (fun h => absurd (by decide) h)
          refine li_iconst hx hb dX1_tube_59 ?_
          exact bt_S (As := [.int (iI 0)]) (rest := []) ⟨hx, hb, hml, hown, hts⟩ (c_X1_need_f l hst g ad σ τ w sa) (va_cwS 1 hts gX1_tube_X1_need rfl rfl rfl (by decide +kernel) ⟨Nat.le_of_ble_eq_true rfl, Nat.le_of_ble_eq_true rfl⟩) hK hU hT bx_F.rf bx_Lc.nil rfl hl.1 rfl (Nat.le_of_ble_eq_true rfl) dX1_tube_60 ⟨Nat.le_of_ble_eq_true rfl, Nat.le_of_ble_eq_true rfl⟩ hout hlocks (Nat.le_of_ble_eq_true rfl) (Nat.le_of_ble_eq_true rfl)
      · exact bt_S (As := [.int (iI 0)]) (rest := []) ⟨hx, hb, hml, hown, hts⟩ (c_X1_need_f l hst g ad σ τ w sa) (va_cwS 1 hts gX1_tube_X1_need rfl rfl rfl (by decide +kernel) ⟨Nat.le_of_ble_eq_true rfl, Nat.le_of_ble_eq_true rfl⟩) hK hU hT bx_F.rf bx_Lc.nil rfl hl.1 rfl (Nat.le_of_ble_eq_true rfl) dX1_tube_28 ⟨Nat.le_of_ble_eq_true rfl, Nat.le_of_ble_eq_true rfl⟩ hout hlocks (Nat.le_of_ble_eq_true rfl) (Nat.le_of_ble_eq_true rfl)
    · refine li_if_eq (tgt := 18) hx hb (by unfold iR; omega) dX1_tube_11 (by decide) (fun _ => ?_) (fun h => absurd (by decide) h)
      refine li_iconst hx hb dX1_tube_18 ?_
      exact bt_S (As := [.int (iI 0)]) (rest := []) ⟨hx, hb, hml, hown, hts⟩ (c_X1_need_f l hst g ad σ τ w sa) (va_cwS 1 hts gX1_tube_X1_need rfl rfl rfl (by decide +kernel) ⟨Nat.le_of_ble_eq_true rfl, Nat.le_of_ble_eq_true rfl⟩) hK hU hT bx_F.rf bx_Lc.nil rfl hl.1 rfl (Nat.le_of_ble_eq_true rfl) dX1_tube_19 ⟨Nat.le_of_ble_eq_true rfl, Nat.le_of_ble_eq_true rfl⟩ hout hlocks (Nat.le_of_ble_eq_true rfl) (Nat.le_of_ble_eq_true rfl)
  · refine li_if_eq (tgt := 18) hx hb (by unfold iR; omega) dX1_tube_4 (by decide) (fun _ => ?_) (fun h => absurd (by decide) h)
    refine li_iconst hx hb dX1_tube_18 ?_
    exact bt_S (As := [.int (iI 0)]) (rest := []) ⟨hx, hb, hml, hown, hts⟩ (c_X1_need_f l hst g ad σ τ w sa) (va_cwS 1 hts gX1_tube_X1_need rfl rfl rfl (by decide +kernel) ⟨Nat.le_of_ble_eq_true rfl, Nat.le_of_ble_eq_true rfl⟩) hK hU hT bx_F.rf bx_Lc.nil rfl hl.1 rfl (Nat.le_of_ble_eq_true rfl) dX1_tube_19 ⟨Nat.le_of_ble_eq_true rfl, Nat.le_of_ble_eq_true rfl⟩ hout hlocks (Nat.le_of_ble_eq_true rfl) (Nat.le_of_ble_eq_true rfl)

set_option maxHeartbeats 4000000 in
set_option maxRecDepth 100000 in
theorem c_X1_tube_s (l : Launch) (hst : l.stackTraces = false) (g : bxG) (ad : bxA) (σ τ : bxS) (w : bxW) (sa : Nat → Nat) (k a f n u v r : Int) (hRk : iR k) (hRa : iR a) (hRf : iR f) (hRn : iR n) (hRu : iR u) (hRv : iR v) (hRr : iR r) (hB : bx_B σ) (hg : ((0 ≤ k ∧ k ≤ 7) ∧ (0 ≤ a ∧ a ≤ 2) ∧ (0 ≤ f ∧ f ≤ 1000 ∧ 1 ≤ n ∧ n ≤ 1000 ∧ f + n ≤ 1000) ∧ (0 ≤ u ∧ u ≤ 1000) ∧ (0 ≤ v ∧ v ≤ 1000) ∧ 1 ≤ r ∧ r ≤ 200) ∧ ¬ σ 0 0 0 < 60) : vx_Met l yX1_tube wsX1_tube ({ frames := 7, cells := 1, slots := 6, locals := 110 }) (va_Pc [.ref (ad 0 0), .int (iI k), .int (iI a), .int (iI f), .int (iI n), .int (iI u), .int (iI v), .int (iI r)] (fun U => bt_I g ad σ τ w sa U)) bq_no (bq_X g ad σ τ w (fun E => E = bt_ise)) 1 6 (bq_fr g) := by
  refine vx_ofW (cc := cX1_tube) (maxL := 11) (ret := (some .int)) (by decide) rfl ?_
  intro Pg Ev s mI args below meth cd s₁ B hml hout hv
  obtain ⟨rfl, ⟨hU, hK⟩, hT⟩ := hv
  have hx := B.exec
  have hb := B.bytes
  have hr := B.returns
  have hts := atoms_spec (ws := wsX1_tube) B.pre
  have hown : s.vm.findClass RX1 = some mI.cls := findClass_of_methodNamed B.named
  have hlocks := B.notSynchronized
  have hl := lv_entry ([.ref (ad 0 0), .int (iI k), .int (iI a), .int (iI f), .int (iI n), .int (iI u), .int (iI v), .int (iI r)]) (n := 11) (Nat.le_of_ble_eq_true rfl)
  rw [lg_entry_eq]
  generalize (lg_sl ([.ref (ad 0 0), .int (iI k), .int (iI a), .int (iI f), .int (iI n), .int (iI u), .int (iI v), .int (iI r)]) ++ List.replicate (11 - (lg_sl ([.ref (ad 0 0), .int (iI k), .int (iI a), .int (iI f), .int (iI n), .int (iI u), .int (iI v), .int (iI r)])).length) Slot.unset).toArray = ls at hl ⊢
  have hl : lv_has ls 11 [(0, .ref (ad 0 0)), (1, .int (iI k)), (2, .int (iI a)), (3, .int (iI f)), (4, .int (iI n)), (5, .int (iI u)), (6, .int (iI v)), (7, .int (iI r))] := hl
  have hRk0 : -2147483648 ≤ k ∧ k < 2147483648 := hRk
  have hRa0 : -2147483648 ≤ a ∧ a < 2147483648 := hRa
  have hRf0 : -2147483648 ≤ f ∧ f < 2147483648 := hRf
  have hRn0 : -2147483648 ≤ n ∧ n < 2147483648 := hRn
  have hRu0 : -2147483648 ≤ u ∧ u < 2147483648 := hRu
  have hRv0 : -2147483648 ≤ v ∧ v < 2147483648 := hRv
  have hRr0 : -2147483648 ≤ r ∧ r < 2147483648 := hRr
  have hm0 := bB0 hB
  refine lv_iload_n hx hb dX1_tube_0 rfl (lv_at hl 1 rfl) ?_
  refine bc_SB (As := [.int (iI k)]) (rest := []) ⟨hx, hb, hml, hown, hts⟩ (c_X1_isKind l g ad σ τ w k (by unfold iR; omega)) (va_cwS 1 hts gX1_tube_X1_isKind rfl rfl rfl (by decide +kernel) ⟨Nat.le_of_ble_eq_true rfl, Nat.le_of_ble_eq_true rfl⟩) hK hU  rfl hl.1 rfl (Nat.le_of_ble_eq_true rfl) dX1_tube_1 ⟨Nat.zero_le _, Nat.zero_le _⟩ (fun h1 => ?_) (fun h1 => ?_)
  · refine li_if_eq (tgt := 18) hx hb (by unfold iR; omega) dX1_tube_4 (by decide) (fun h => absurd h (by decide)) (fun _ => ?_)
    refine lv_iload_n hx hb dX1_tube_7 rfl (lv_at hl 2 rfl) ?_
    refine bc_SB (As := [.int (iI a)]) (rest := []) ⟨hx, hb, hml, hown, hts⟩ (c_X1_isAxis l g ad σ τ w a (by unfold iR; omega)) (va_cwS 1 hts gX1_tube_X1_isAxis rfl rfl rfl (by decide +kernel) ⟨Nat.le_of_ble_eq_true rfl, Nat.le_of_ble_eq_true rfl⟩) hK hU  rfl hl.1 rfl (Nat.le_of_ble_eq_true rfl) dX1_tube_8 ⟨Nat.zero_le _, Nat.zero_le _⟩ (fun h2 => ?_) (fun h2 => ?_)
    · refine li_if_eq (tgt := 18) hx hb (by unfold iR; omega) dX1_tube_11 (by decide) (fun h => absurd h (by decide)) (fun _ => ?_)
      refine li_iconst hx hb dX1_tube_14 ?_
      refine lv_goto (tgt := 19) hx hb dX1_tube_15 (by decide) ?_
      refine bc_SN (As := [.int (iI 1)]) (rest := []) ⟨hx, hb, hml, hown, hts⟩ (c_X1_need_t l g ad σ τ w) (va_cwS 1 hts gX1_tube_X1_need rfl rfl rfl (by decide +kernel) ⟨Nat.le_of_ble_eq_true rfl, Nat.le_of_ble_eq_true rfl⟩) hK hU rfl hl.1 rfl (Nat.le_of_ble_eq_true rfl) dX1_tube_19 ⟨Nat.zero_le _, Nat.zero_le _⟩ ?_
      refine lv_iload_n hx hb dX1_tube_22 rfl (lv_at hl 3 rfl) ?_
      refine lv_iload hx hb dX1_tube_23 (lv_at hl 4 rfl) ?_
      refine bc_SB (As := [.int (iI f), .int (iI n)]) (rest := []) ⟨hx, hb, hml, hown, hts⟩ (c_X1_isSpan l g ad σ τ w f n (by unfold iR; omega) (by unfold iR; omega)) (va_cwS 2 hts gX1_tube_X1_isSpan rfl rfl rfl (by decide +kernel) ⟨Nat.le_of_ble_eq_true rfl, Nat.le_of_ble_eq_true rfl⟩) hK hU  rfl hl.1 rfl (Nat.le_of_ble_eq_true rfl) dX1_tube_25 ⟨Nat.zero_le _, Nat.zero_le _⟩ (fun h3 => ?_) (fun h3 => ?_)
      · refine bc_SN (As := [.int (iI 1)]) (rest := []) ⟨hx, hb, hml, hown, hts⟩ (c_X1_need_t l g ad σ τ w) (va_cwS 1 hts gX1_tube_X1_need rfl rfl rfl (by decide +kernel) ⟨Nat.le_of_ble_eq_true rfl, Nat.le_of_ble_eq_true rfl⟩) hK hU rfl hl.1 rfl (Nat.le_of_ble_eq_true rfl) dX1_tube_28 ⟨Nat.zero_le _, Nat.zero_le _⟩ ?_
        refine lv_iload hx hb dX1_tube_31 (lv_at hl 5 rfl) ?_
        refine li_iconst hx hb dX1_tube_33 ?_
        refine li_sipush hx hb dX1_tube_34 (by decide) ?_
        refine bc_SB (As := [.int (iI u), .int (iI 0), .int (iI 1000)]) (rest := []) ⟨hx, hb, hml, hown, hts⟩ (c_X1_isWithin l g ad σ τ w u 0 1000 (by unfold iR; omega) (by unfold iR; omega) (by unfold iR; omega)) (va_cwS 3 hts gX1_tube_X1_isWithin rfl rfl rfl (by decide +kernel) ⟨Nat.le_of_ble_eq_true rfl, Nat.le_of_ble_eq_true rfl⟩) hK hU  rfl hl.1 rfl (Nat.le_of_ble_eq_true rfl) dX1_tube_37 ⟨Nat.zero_le _, Nat.zero_le _⟩ (fun h4 => ?_) (fun h4 => ?_)
        · refine li_if_eq (tgt := 59) hx hb (by unfold iR; omega) dX1_tube_40 (by decide) (fun h => absurd h (by decide)) (fun _ => ?_)
          refine lv_iload hx hb dX1_tube_43 (lv_at hl 6 rfl) ?_
          refine li_iconst hx hb dX1_tube_45 ?_
          refine li_sipush hx hb dX1_tube_46 (by decide) ?_
          refine bc_SB (As := [.int (iI v), .int (iI 0), .int (iI 1000)]) (rest := []) ⟨hx, hb, hml, hown, hts⟩ (c_X1_isWithin l g ad σ τ w v 0 1000 (by unfold iR; omega) (by unfold iR; omega) (by unfold iR; omega)) (va_cwS 3 hts gX1_tube_X1_isWithin rfl rfl rfl (by decide +kernel) ⟨Nat.le_of_ble_eq_true rfl, Nat.le_of_ble_eq_true rfl⟩) hK hU  rfl hl.1 rfl (Nat.le_of_ble_eq_true rfl) dX1_tube_49 ⟨Nat.zero_le _, Nat.zero_le _⟩ (fun h5 => ?_) (fun h5 => ?_)
          · refine li_if_eq (tgt := 59) hx hb (by unfold iR; omega) dX1_tube_52 (by decide) (fun h => absurd h (by decide)) (fun _ => ?_)
            refine li_iconst hx hb dX1_tube_55 ?_
            refine lv_goto (tgt := 60) hx hb dX1_tube_56 (by decide) ?_
            refine bc_SN (As := [.int (iI 1)]) (rest := []) ⟨hx, hb, hml, hown, hts⟩ (c_X1_need_t l g ad σ τ w) (va_cwS 1 hts gX1_tube_X1_need rfl rfl rfl (by decide +kernel) ⟨Nat.le_of_ble_eq_true rfl, Nat.le_of_ble_eq_true rfl⟩) hK hU rfl hl.1 rfl (Nat.le_of_ble_eq_true rfl) dX1_tube_60 ⟨Nat.zero_le _, Nat.zero_le _⟩ ?_
            refine lv_iload hx hb dX1_tube_63 (lv_at hl 7 rfl) ?_
            refine li_iconst hx hb dX1_tube_65 ?_
            refine li_sipush hx hb dX1_tube_66 (by decide) ?_
            refine bc_SB (As := [.int (iI r), .int (iI 1), .int (iI 200)]) (rest := []) ⟨hx, hb, hml, hown, hts⟩ (c_X1_isWithin l g ad σ τ w r 1 200 (by unfold iR; omega) (by unfold iR; omega) (by unfold iR; omega)) (va_cwS 3 hts gX1_tube_X1_isWithin rfl rfl rfl (by decide +kernel) ⟨Nat.le_of_ble_eq_true rfl, Nat.le_of_ble_eq_true rfl⟩) hK hU  rfl hl.1 rfl (Nat.le_of_ble_eq_true rfl) dX1_tube_69 ⟨Nat.zero_le _, Nat.zero_le _⟩ (fun h6 => ?_) (fun h6 => ?_)
            · refine bc_SN (As := [.int (iI 1)]) (rest := []) ⟨hx, hb, hml, hown, hts⟩ (c_X1_need_t l g ad σ τ w) (va_cwS 1 hts gX1_tube_X1_need rfl rfl rfl (by decide +kernel) ⟨Nat.le_of_ble_eq_true rfl, Nat.le_of_ble_eq_true rfl⟩) hK hU rfl hl.1 rfl (Nat.le_of_ble_eq_true rfl) dX1_tube_72 ⟨Nat.zero_le _, Nat.zero_le _⟩ ?_
              refine lv_aload_n hx hb dX1_tube_75 rfl (lv_at hl 0 rfl) ?_
              by_cases hm7 : σ 0 0 0 < 60
              · refine bc_VN (As := []) (rest := []) (kd := 0) (k := 0) (ci := 1) ⟨hx, hb, hml, hown, hts⟩ (c_X1_needRoom_t l g ad σ τ w hm7 hB) (cwV 0 hts gX1_tube_X1_needRoom rfl rfl rfl (by decide +kernel) ⟨Nat.le_of_ble_eq_true rfl, Nat.le_of_ble_eq_true rfl⟩) hK hU (bx_L0 (by omega)) rfl rfl rfl hl.1 rfl (Nat.le_of_ble_eq_true rfl) dX1_tube_76 ⟨Nat.zero_le _, Nat.zero_le _⟩ ?_
                exfalso
                omega
              · exact bt_V (As := []) (rest := []) (kd := 0) (k := 0) (ci := 1) ⟨hx, hb, hml, hown, hts⟩ (c_X1_needRoom_f l hst g ad σ τ w sa hm7 hB) (cwV 0 hts gX1_tube_X1_needRoom rfl rfl rfl (by decide +kernel) ⟨Nat.le_of_ble_eq_true rfl, Nat.le_of_ble_eq_true rfl⟩) hK hU hT bx_F.rf bx_Lc.nil (bx_L0 (by omega)) rfl rfl rfl hl.1 rfl (Nat.le_of_ble_eq_true rfl) dX1_tube_76 ⟨Nat.le_of_ble_eq_true rfl, Nat.le_of_ble_eq_true rfl⟩ hout hlocks (Nat.le_of_ble_eq_true rfl) (Nat.le_of_ble_eq_true rfl)
            · exfalso
              omega
          · refine li_if_eq (tgt := 59) hx hb (by unfold iR; omega) dX1_tube_52 (by decide) (fun _ => ?_) (fun h => absurd (by decide) h)
            refine li_iconst hx hb dX1_tube_59 ?_
            exfalso
            omega
        · refine li_if_eq (tgt := 59) hx hb (by unfold iR; omega) dX1_tube_40 (by decide) (fun _ => ?_) (fun h => absurd (by decide) h)
          refine li_iconst hx hb dX1_tube_59 ?_
          exfalso
          omega
      · exfalso
        omega
    · refine li_if_eq (tgt := 18) hx hb (by unfold iR; omega) dX1_tube_11 (by decide) (fun _ => ?_) (fun h => absurd (by decide) h)
      refine li_iconst hx hb dX1_tube_18 ?_
      exfalso
      omega
  · refine li_if_eq (tgt := 18) hx hb (by unfold iR; omega) dX1_tube_4 (by decide) (fun _ => ?_) (fun h => absurd (by decide) h)
    refine li_iconst hx hb dX1_tube_18 ?_
    exfalso
    omega
