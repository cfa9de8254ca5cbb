set_option maxHeartbeats 4000000 in
set_option maxRecDepth 100000 in
theorem c_X2_pair_t (l : Launch) (g : bxG) (ad : bxA) (σ τ : bxS) (w : bxW) (p q : Int) (hRp : iR p) (hRq : iR q) (hBt : bx_B τ) (hM : bx_M τ) (hg : (0 ≤ p ∧ p < 60 ∧ τ 2 p 0 ≠ 0) ∧ (0 ≤ q ∧ q < 60 ∧ τ 2 q 0 ≠ 0) ∧ p ≠ q) : Met l yX2_pair wsX2_pair ({ frames := 5, cells := 0, slots := 0, locals := 127 }) (va_Pc [.ref (ad 7 0), .int (iI p), .int (iI q)] (fun U => bx_I g ad σ τ w U)) (bq_W (some (.int (iI (stO (eff τ) p q)))) g ad σ τ (w.1, 0)) 0 0 (bq_fr g) := by
  refine Met.ofW (cc := cX2_pair) (maxL := 3) (ret := (some .int)) (by decide) rfl ?_
  intro Pg Ev s mI args below meth cd s₁ B hml hv
  obtain ⟨rfl, hU, hK⟩ := hv
  have hx := B.exec
  have hb := B.bytes
  have hr := B.returns
  have hts := atoms_spec (ws := wsX2_pair) B.pre
  have hown : s.vm.findClass RX2 = some mI.cls := findClass_of_methodNamed B.named
  have hlocks := B.notSynchronized
  have hF : bx_F g s.heap s.heap := bx_F.rf
  have hlc : bx_Lc g [] := bx_Lc.nil
  have hl := lv_entry ([.ref (ad 7 0), .int (iI p), .int (iI q)]) (n := 3) (Nat.le_of_ble_eq_true rfl)
  rw [lg_entry_eq]
  generalize (lg_sl ([.ref (ad 7 0), .int (iI p), .int (iI q)]) ++ List.replicate (3 - (lg_sl ([.ref (ad 7 0), .int (iI p), .int (iI q)])).length) Slot.unset).toArray = ls at hl ⊢
  have hl : lv_has ls 3 [(0, .ref (ad 7 0)), (1, .int (iI p)), (2, .int (iI q))] := hl
  have hinX2 : ∀ w ∈ wsX20, w ∈ wsX2_pair := by decide +kernel
  have hRp0 : -2147483648 ≤ p ∧ p < 2147483648 := hRp
  have hRq0 : -2147483648 ≤ q ∧ q < 2147483648 := hRq
  refine lv_aload_n hx hb dX2_pair_0 rfl (lv_at hl 0 rfl) ?_
  refine lv_aload_n hx hb dX2_pair_1 rfl (lv_at hl 0 rfl) ?_
  refine lv_iload_n hx hb dX2_pair_2 rfl (lv_at hl 1 rfl) ?_
  refine bc_VB (As := [.int (iI p)]) (rest := [.ref (ad 7 0)]) (kd := 7) (k := 0) (ci := 2) ⟨hx, hb, hml, hown, hts⟩ (c_X2_isPart l g ad σ τ w p (by unfold iR; omega) hBt) (cwV 1 hts gX2_pair_X2_isPart rfl rfl rfl (by decide +kernel) ⟨Nat.le_of_ble_eq_true rfl, Nat.le_of_ble_eq_true rfl⟩) hK hU (bx_L0 (by omega)) rfl rfl rfl hl.1 rfl (Nat.le_of_ble_eq_true rfl) dX2_pair_3 ⟨Nat.le_of_ble_eq_true rfl, Nat.le_of_ble_eq_true rfl⟩ (fun h1 => ?_) (fun h1 => ?_)
  · refine li_if_eq (tgt := 22) hx hb (by unfold iR; omega) dX2_pair_6 (by decide) (fun h => absurd h (by decide)) (fun _ => ?_)
    refine lv_aload_n hx hb dX2_pair_9 rfl (lv_at hl 0 rfl) ?_
    refine lv_iload_n hx hb dX2_pair_10 rfl (lv_at hl 2 rfl) ?_
    refine bc_VB (As := [.int (iI q)]) (rest := [.ref (ad 7 0)]) (kd := 7) (k := 0) (ci := 2) ⟨hx, hb, hml, hown, hts⟩ (c_X2_isPart l g ad σ τ w q (by unfold iR; omega) hBt) (cwV 1 hts gX2_pair_X2_isPart rfl rfl rfl (by decide +kernel) ⟨Nat.le_of_ble_eq_true rfl, Nat.le_of_ble_eq_true rfl⟩) hK hU (bx_L0 (by omega)) rfl rfl rfl hl.1 rfl (Nat.le_of_ble_eq_true rfl) dX2_pair_11 ⟨Nat.le_of_ble_eq_true rfl, Nat.le_of_ble_eq_true rfl⟩ (fun h2 => ?_) (fun h2 => ?_)
    · refine li_if_eq (tgt := 22) hx hb (by unfold iR; omega) dX2_pair_14 (by decide) (fun h => absurd h (by decide)) (fun _ => ?_)
      refine lv_iload_n hx hb dX2_pair_17 rfl (lv_at hl 1 rfl) ?_
      refine lv_iload_n hx hb dX2_pair_18 rfl (lv_at hl 2 rfl) ?_
      refine li_icmp_ne (tgt := 26) hx hb (by unfold iR; omega) (by unfold iR; omega) dX2_pair_19 (by decide) (fun h3 => ?_) (fun h3 => ?_)
      · refine li_iconst hx hb dX2_pair_26 ?_
        refine bp_X2_code hx hb hts hinX2 hown hK hU hlc (hts (.fieldLink RX2 42 "ClashBoxesModel" "code" "I") (by decide +kernel)) dX2_pair_27 (fun H locs hU hF1 hlc => ?_)
        have hF := hF.tr hF1
        have hU : bx_U g ad σ τ (w.1, 0) H := hU
        refine lv_aload_n hx hb dX2_pair_30 rfl (lv_at hl 0 rfl) ?_
        refine bg_X2_code hx hb hts hinX2 hown hK hU (hts (.fieldLink RX2 42 "ClashBoxesModel" "code" "I") (by decide +kernel)) dX2_pair_31 ?_
        refine W.eq (g2 := F0 mI 34 ls [.int (iI 0)]) rfl ?_
        refine li_if_le (tgt := 41) hx hb (by unfold iR; omega) dX2_pair_34 (by decide) (fun _ => ?_) (fun h => absurd (by decide) h)
        refine lv_aload_n hx hb dX2_pair_41 rfl (lv_at hl 0 rfl) ?_
        refine lv_iload_n hx hb dX2_pair_42 rfl (lv_at hl 1 rfl) ?_
        refine lv_iload_n hx hb dX2_pair_43 rfl (lv_at hl 2 rfl) ?_
        refine bc_V (As := [.int (iI p), .int (iI q)]) (rest := []) (kd := 7) (k := 0) (ci := 2) ⟨hx, hb, hml, hown, hts⟩ (c_X2_stateOf l g ad σ τ (w.1, 0) p q h1 h2 hBt hM) (cwV 2 hts gX2_pair_X2_stateOf rfl rfl rfl (by decide +kernel) ⟨Nat.le_of_ble_eq_true rfl, Nat.le_of_ble_eq_true rfl⟩) hK hU (bx_L0 (by omega)) rfl rfl rfl hl.1 rfl (Nat.le_of_ble_eq_true rfl) dX2_pair_44 ⟨Nat.le_of_ble_eq_true rfl, Nat.le_of_ble_eq_true rfl⟩ ?_
        have h4 := stO_bd (eff τ) p q
        refine bw_i hx hb hr hlocks (by first | exact hU | simpa using hU) hF hlc ?_ dX2_pair_47
        rfl
      · refine li_iconst hx hb dX2_pair_22 ?_
        refine lv_goto (tgt := 27) hx hb dX2_pair_23 (by decide) ?_
        exfalso
        omega
    · refine li_if_eq (tgt := 22) hx hb (by unfold iR; omega) dX2_pair_14 (by decide) (fun _ => ?_) (fun h => absurd (by decide) h)
      refine li_iconst hx hb dX2_pair_22 ?_
      refine lv_goto (tgt := 27) hx hb dX2_pair_23 (by decide) ?_
      exfalso
      omega
  · refine li_if_eq (tgt := 22) hx hb (by unfold iR; omega) dX2_pair_6 (by decide) (fun _ => ?_) (fun h => absurd (by decide) h)
    refine li_iconst hx hb dX2_pair_22 ?_
    refine lv_goto (tgt := 27) hx hb dX2_pair_23 (by decide) ?_
    exfalso
    omega

set_option maxHeartbeats 4000000 in
set_option maxRecDepth 100000 in
theorem c_X2_pair_f (l : Launch) (g : bxG) (ad : bxA) (σ τ : bxS) (w : bxW) (p q : Int) (hRp : iR p) (hRq : iR q) (hBt : bx_B τ) (hM : bx_M τ) (hg : ¬ ((0 ≤ p ∧ p < 60 ∧ τ 2 p 0 ≠ 0) ∧ (0 ≤ q ∧ q < 60 ∧ τ 2 q 0 ≠ 0) ∧ p ≠ q)) : Met l yX2_pair wsX2_pair ({ frames := 5, cells := 0, slots := 0, locals := 127 }) (va_Pc [.ref (ad 7 0), .int (iI p), .int (iI q)] (fun U => bx_I g ad σ τ w U)) (bq_W (some (.int (iI 0))) g ad σ τ (w.1, 1)) 0 0 (bq_fr g) := by
  refine Met.ofW (cc := cX2_pair) (maxL := 3) (ret := (some .int)) (by decide) rfl ?_
  intro Pg Ev s mI args below meth cd s₁ B hml hv
  obtain ⟨rfl, hU, hK⟩ := hv
  have hx := B.exec
  have hb := B.bytes
  have hr := B.returns
  have hts := atoms_spec (ws := wsX2_pair) B.pre
  have hown : s.vm.findClass RX2 = some mI.cls := findClass_of_methodNamed B.named
  have hlocks := B.notSynchronized
  have hF : bx_F g s.heap s.heap := bx_F.rf
  have hlc : bx_Lc g [] := bx_Lc.nil
  have hl := lv_entry ([.ref (ad 7 0), .int (iI p), .int (iI q)]) (n := 3) (Nat.le_of_ble_eq_true rfl)
  rw [lg_entry_eq]
  generalize (lg_sl ([.ref (ad 7 0), .int (iI p), .int (iI q)]) ++ List.replicate (3 - (lg_sl ([.ref (ad 7 0), .int (iI p), .int (iI q)])).length) Slot.unset).toArray = ls at hl ⊢
  have hl : lv_has ls 3 [(0, .ref (ad 7 0)), (1, .int (iI p)), (2, .int (iI q))] := hl
  have hinX2 : ∀ w ∈ wsX20, w ∈ wsX2_pair := by decide +kernel
  have hRp0 : -2147483648 ≤ p ∧ p < 2147483648 := hRp
  have hRq0 : -2147483648 ≤ q ∧ q < 2147483648 := hRq
  refine lv_aload_n hx hb dX2_pair_0 rfl (lv_at hl 0 rfl) ?_
  refine lv_aload_n hx hb dX2_pair_1 rfl (lv_at hl 0 rfl) ?_
  refine lv_iload_n hx hb dX2_pair_2 rfl (lv_at hl 1 rfl) ?_
  refine bc_VB (As := [.int (iI p)]) (rest := [.ref (ad 7 0)]) (kd := 7) (k := 0) (ci := 2) ⟨hx, hb, hml, hown, hts⟩ (c_X2_isPart l g ad σ τ w p (by unfold iR; omega) hBt) (cwV 1 hts gX2_pair_X2_isPart rfl rfl rfl (by decide +kernel) ⟨Nat.le_of_ble_eq_true rfl, Nat.le_of_ble_eq_true rfl⟩) hK hU (bx_L0 (by omega)) rfl rfl rfl hl.1 rfl (Nat.le_of_ble_eq_true rfl) dX2_pair_3 ⟨Nat.le_of_ble_eq_true rfl, Nat.le_of_ble_eq_true rfl⟩ (fun h1 => ?_) (fun h1 => ?_)
  · refine li_if_eq (tgt := 22) hx hb (by unfold iR; omega) dX2_pair_6 (by decide) (fun h => absurd h (by decide)) (fun _ => ?_)
    refine lv_aload_n hx hb dX2_pair_9 rfl (lv_at hl 0 rfl) ?_
    refine lv_iload_n hx hb dX2_pair_10 rfl (lv_at hl 2 rfl) ?_
    refine bc_VB (As := [.int (iI q)]) (rest := [.ref (ad 7 0)]) (kd := 7) (k := 0) (ci := 2) ⟨hx, hb, hml, hown, hts⟩ (c_X2_isPart l g ad σ τ w q (by unfold iR; omega) hBt) (cwV 1 hts gX2_pair_X2_isPart rfl rfl rfl (by decide +kernel) ⟨Nat.le_of_ble_eq_true rfl, Nat.le_of_ble_eq_true rfl⟩) hK hU (bx_L0 (by omega)) rfl rfl rfl hl.1 rfl (Nat.le_of_ble_eq_true rfl) dX2_pair_11 ⟨Nat.le_of_ble_eq_true rfl, Nat.le_of_ble_eq_true rfl⟩ (fun h2 => ?_) (fun h2 => ?_)
    · refine li_if_eq (tgt := 22) hx hb (by unfold iR; omega) dX2_pair_14 (by decide) (fun h => absurd h (by decide)) (fun _ => ?_)
      refine lv_iload_n hx hb dX2_pair_17 rfl (lv_at hl 1 rfl) ?_
      refine lv_iload_n hx hb dX2_pair_18 rfl (lv_at hl 2 rfl) ?_
      refine li_icmp_ne (tgt := 26) hx hb (by unfold iR; omega) (by unfold iR; omega) dX2_pair_19 (by decide) (fun h3 => ?_) (fun h3 => ?_)
      · refine li_iconst hx hb dX2_pair_26 ?_
        exfalso
        omega
      · refine li_iconst hx hb dX2_pair_22 ?_
        refine lv_goto (tgt := 27) hx hb dX2_pair_23 (by decide) ?_
        refine bp_X2_code hx hb hts hinX2 hown hK hU hlc (hts (.fieldLink RX2 42 "ClashBoxesModel" "code" "I") (by decide +kernel)) dX2_pair_27 (fun H locs hU hF1 hlc => ?_)
        have hF := hF.tr hF1
        have hU : bx_U g ad σ τ (w.1, 1) H := hU
        refine lv_aload_n hx hb dX2_pair_30 rfl (lv_at hl 0 rfl) ?_
        refine bg_X2_code hx hb hts hinX2 hown hK hU (hts (.fieldLink RX2 42 "ClashBoxesModel" "code" "I") (by decide +kernel)) dX2_pair_31 ?_
        refine W.eq (g2 := F0 mI 34 ls [.int (iI 1)]) rfl ?_
        refine li_if_le (tgt := 41) hx hb (by unfold iR; omega) dX2_pair_34 (by decide) (fun h => absurd h (by decide)) (fun _ => ?_)
        refine li_iconst hx hb dX2_pair_37 ?_
        refine lv_goto (tgt := 47) hx hb dX2_pair_38 (by decide) ?_
        refine bw_i hx hb hr hlocks (by first | exact hU | simpa using hU) hF hlc ?_ dX2_pair_47
        rfl
    · refine li_if_eq (tgt := 22) hx hb (by unfold iR; omega) dX2_pair_14 (by decide) (fun _ => ?_) (fun h => absurd (by decide) h)
      refine li_iconst hx hb dX2_pair_22 ?_
      refine lv_goto (tgt := 27) hx hb dX2_pair_23 (by decide) ?_
      refine bp_X2_code hx hb hts hinX2 hown hK hU hlc (hts (.fieldLink RX2 42 "ClashBoxesModel" "code" "I") (by decide +kernel)) dX2_pair_27 (fun H locs hU hF1 hlc => ?_)
      have hF := hF.tr hF1
      have hU : bx_U g ad σ τ (w.1, 1) H := hU
      refine lv_aload_n hx hb dX2_pair_30 rfl (lv_at hl 0 rfl) ?_
      refine bg_X2_code hx hb hts hinX2 hown hK hU (hts (.fieldLink RX2 42 "ClashBoxesModel" "code" "I") (by decide +kernel)) dX2_pair_31 ?_
      refine W.eq (g2 := F0 mI 34 ls [.int (iI 1)]) rfl ?_
      refine li_if_le (tgt := 41) hx hb (by unfold iR; omega) dX2_pair_34 (by decide) (fun h => absurd h (by decide)) (fun _ => ?_)
      refine li_iconst hx hb dX2_pair_37 ?_
      refine lv_goto (tgt := 47) hx hb dX2_pair_38 (by decide) ?_
      refine bw_i hx hb hr hlocks (by first | exact hU | simpa using hU) hF hlc ?_ dX2_pair_47
      rfl
  · refine li_if_eq (tgt := 22) hx hb (by unfold iR; omega) dX2_pair_6 (by decide) (fun _ => ?_) (fun h => absurd (by decide) h)
    refine li_iconst hx hb dX2_pair_22 ?_
    refine lv_goto (tgt := 27) hx hb dX2_pair_23 (by decide) ?_
    refine bp_X2_code hx hb hts hinX2 hown hK hU hlc (hts (.fieldLink RX2 42 "ClashBoxesModel" "code" "I") (by decide +kernel)) dX2_pair_27 (fun H locs hU hF1 hlc => ?_)
    have hF := hF.tr hF1
    have hU : bx_U g ad σ τ (w.1, 1) H := hU
    refine lv_aload_n hx hb dX2_pair_30 rfl (lv_at hl 0 rfl) ?_
    refine bg_X2_code hx hb hts hinX2 hown hK hU (hts (.fieldLink RX2 42 "ClashBoxesModel" "code" "I") (by decide +kernel)) dX2_pair_31 ?_
    refine W.eq (g2 := F0 mI 34 ls [.int (iI 1)]) rfl ?_
    refine li_if_le (tgt := 41) hx hb (by unfold iR; omega) dX2_pair_34 (by decide) (fun h => absurd h (by decide)) (fun _ => ?_)
    refine li_iconst hx hb dX2_pair_37 ?_
    refine lv_goto (tgt := 47) hx hb dX2_pair_38 (by decide) ?_
    refine bw_i hx hb hr hlocks (by first | exact hU | simpa using hU) hF hlc ?_ dX2_pair_47
    rfl

set_option maxHeartbeats 4000000 in
set_option maxRecDepth 100000 in
theorem c_X2_hull_t (l : Launch) (g : bxG) (ad : bxA) (σ τ : bxS) (w : bxW) (p a z : Int) (hRp : iR p) (hRa : iR a) (hRz : iR z) (hBt : bx_B τ) (hM : bx_M τ) (hg : (0 ≤ p ∧ p < 60 ∧ τ 2 p 0 ≠ 0) ∧ (0 ≤ a ∧ a ≤ 2) ∧ 0 ≤ z ∧ z ≤ 1) : Met l yX2_hull wsX2_hull ({ frames := 2, cells := 0, slots := 0, locals := 53 }) (va_Pc [.ref (ad 7 0), .int (iI p), .int (iI a), .int (iI z)] (fun U => bx_I g ad σ τ w U)) (bq_W (some (.int (iI (if z = 0 then mH (eff τ) p a 0 0 else mH (eff τ) p a 1 0)))) g ad σ τ (w.1, 0)) 0 0 (bq_fr g) := by
  refine Met.ofW (cc := cX2_hull) (maxL := 4) (ret := (some .int)) (by decide) rfl ?_
  intro Pg Ev s mI args below meth cd s₁ B hml hv
  obtain ⟨rfl, hU, hK⟩ := hv
  have hx := B.exec
  have hb := B.bytes
  have hr := B.returns
  have hts := atoms_spec (ws := wsX2_hull) B.pre
  have hown : s.vm.findClass RX2 = some mI.cls := findClass_of_methodNamed B.named
  have hlocks := B.notSynchronized
  have hF : bx_F g s.heap s.heap := bx_F.rf
  have hlc : bx_Lc g [] := bx_Lc.nil
  have hl := lv_entry ([.ref (ad 7 0), .int (iI p), .int (iI a), .int (iI z)]) (n := 4) (Nat.le_of_ble_eq_true rfl)
  rw [lg_entry_eq]
  generalize (lg_sl ([.ref (ad 7 0), .int (iI p), .int (iI a), .int (iI z)]) ++ List.replicate (4 - (lg_sl ([.ref (ad 7 0), .int (iI p), .int (iI a), .int (iI z)])).length) Slot.unset).toArray = ls at hl ⊢
  have hl : lv_has ls 4 [(0, .ref (ad 7 0)), (1, .int (iI p)), (2, .int (iI a)), (3, .int (iI z))] := hl
  have hinX2 : ∀ w ∈ wsX20, w ∈ wsX2_hull := by decide +kernel
  have hRp0 : -2147483648 ≤ p ∧ p < 2147483648 := hRp
  have hRa0 : -2147483648 ≤ a ∧ a < 2147483648 := hRa
  have hRz0 : -2147483648 ≤ z ∧ z < 2147483648 := hRz
  refine lv_aload_n hx hb dX2_hull_0 rfl (lv_at hl 0 rfl) ?_
  refine lv_aload_n hx hb dX2_hull_1 rfl (lv_at hl 0 rfl) ?_
  refine lv_iload_n hx hb dX2_hull_2 rfl (lv_at hl 1 rfl) ?_
  refine bc_VB (As := [.int (iI p)]) (rest := [.ref (ad 7 0)]) (kd := 7) (k := 0) (ci := 2) ⟨hx, hb, hml, hown, hts⟩ (c_X2_isPart l g ad σ τ w p (by unfold iR; omega) hBt) (cwV 1 hts gX2_hull_X2_isPart rfl rfl rfl (by decide +kernel) ⟨Nat.le_of_ble_eq_true rfl, Nat.le_of_ble_eq_true rfl⟩) hK hU (bx_L0 (by omega)) rfl rfl rfl hl.1 rfl (Nat.le_of_ble_eq_true rfl) dX2_hull_3 ⟨Nat.le_of_ble_eq_true rfl, Nat.le_of_ble_eq_true rfl⟩ (fun h1 => ?_) (fun h1 => ?_)
  · refine li_if_eq (tgt := 25) hx hb (by unfold iR; omega) dX2_hull_6 (by decide) (fun h => absurd h (by decide)) (fun _ => ?_)
    refine lv_iload_n hx hb dX2_hull_9 rfl (lv_at hl 2 rfl) ?_
    refine bc_SB (As := [.int (iI a)]) (rest := [.ref (ad 7 0)]) ⟨hx, hb, hml, hown, hts⟩ (c_X2_isAxis l g ad σ τ w a (by unfold iR; omega)) (va_cwS 1 hts gX2_hull_X2_isAxis rfl rfl rfl (by decide +kernel) ⟨Nat.le_of_ble_eq_true rfl, Nat.le_of_ble_eq_true rfl⟩) hK hU  rfl hl.1 rfl (Nat.le_of_ble_eq_true rfl) dX2_hull_10 ⟨Nat.le_of_ble_eq_true rfl, Nat.le_of_ble_eq_true rfl⟩ (fun h2 => ?_) (fun h2 => ?_)
    · refine li_if_eq (tgt := 25) hx hb (by unfold iR; omega) dX2_hull_13 (by decide) (fun h => absurd h (by decide)) (fun _ => ?_)
      refine lv_iload_n hx hb dX2_hull_16 rfl (lv_at hl 3 rfl) ?_
      refine li_iconst hx hb dX2_hull_17 ?_
      refine li_iconst hx hb dX2_hull_18 ?_
      refine bc_SB (As := [.int (iI z), .int (iI 0), .int (iI 1)]) (rest := [.ref (ad 7 0)]) ⟨hx, hb, hml, hown, hts⟩ (c_X2_isIn l g ad σ τ w z 0 1 (by unfold iR; omega) (by unfold iR; omega) (by unfold iR; omega)) (va_cwS 3 hts gX2_hull_X2_isIn rfl rfl rfl (by decide +kernel) ⟨Nat.le_of_ble_eq_true rfl, Nat.le_of_ble_eq_true rfl⟩) hK hU  rfl hl.1 rfl (Nat.le_of_ble_eq_true rfl) dX2_hull_19 ⟨Nat.le_of_ble_eq_true rfl, Nat.le_of_ble_eq_true rfl⟩ (fun h3 => ?_) (fun h3 => ?_)
      · refine li_if_ne (tgt := 29) hx hb (by unfold iR; omega) dX2_hull_22 (by decide) (fun _ => ?_) (fun h => absurd h (by decide))
        refine li_iconst hx hb dX2_hull_29 ?_
        refine bp_X2_code hx hb hts hinX2 hown hK hU hlc (hts (.fieldLink RX2 42 "ClashBoxesModel" "code" "I") (by decide +kernel)) dX2_hull_30 (fun H locs hU hF1 hlc => ?_)
        have hF := hF.tr hF1
        have hU : bx_U g ad σ τ (w.1, 0) H := hU
        refine lv_aload_n hx hb dX2_hull_33 rfl (lv_at hl 0 rfl) ?_
        refine bg_X2_code hx hb hts hinX2 hown hK hU (hts (.fieldLink RX2 42 "ClashBoxesModel" "code" "I") (by decide +kernel)) dX2_hull_34 ?_
        refine W.eq (g2 := F0 mI 37 ls [.int (iI 0)]) rfl ?_
        refine li_if_le (tgt := 44) hx hb (by unfold iR; omega) dX2_hull_37 (by decide) (fun _ => ?_) (fun h => absurd (by decide) h)
        refine lv_aload_n hx hb dX2_hull_44 rfl (lv_at hl 0 rfl) ?_
        refine lv_iload_n hx hb dX2_hull_45 rfl (lv_at hl 1 rfl) ?_
        refine lv_iload_n hx hb dX2_hull_46 rfl (lv_at hl 2 rfl) ?_
        refine lv_iload_n hx hb dX2_hull_47 rfl (lv_at hl 3 rfl) ?_
        refine li_iconst hx hb dX2_hull_48 ?_
        refine li_icmp_ne (tgt := 56) hx hb (by unfold iR; omega) (by unfold iR; omega) dX2_hull_49 (by decide) (fun h4 => ?_) (fun h4 => ?_)
        · refine li_iconst hx hb dX2_hull_56 ?_
          refine li_iconst hx hb dX2_hull_57 ?_
          refine bc_V (As := [.int (iI p), .int (iI a), .int (iI 0), .int (iI 0)]) (rest := []) (kd := 7) (k := 0) (ci := 2) ⟨hx, hb, hml, hown, hts⟩ (c_X2_hullEnd l g ad σ τ (w.1, 0) p a 0 0 h1 hBt hM (by omega) (by omega) (by omega)) (cwV 4 hts gX2_hull_X2_hullEnd rfl rfl rfl (by decide +kernel) ⟨Nat.le_of_ble_eq_true rfl, Nat.le_of_ble_eq_true rfl⟩) hK hU (bx_L0 (by omega)) rfl rfl rfl hl.1 rfl (Nat.le_of_ble_eq_true rfl) dX2_hull_58 ⟨Nat.le_of_ble_eq_true rfl, Nat.le_of_ble_eq_true rfl⟩ ?_
          have h5 := mH_bd hBt hM h1 (a := a) (hi := 0) (gr := 0) (by omega) (by omega) (by omega)
          refine bw_i hx hb hr hlocks (by first | exact hU | simpa using hU) hF hlc ?_ dX2_hull_61
          first | (rw [if_pos (by omega)]) | (rw [if_neg (by omega)])
        · refine li_iconst hx hb dX2_hull_52 ?_
          refine lv_goto (tgt := 57) hx hb dX2_hull_53 (by decide) ?_
          refine li_iconst hx hb dX2_hull_57 ?_
          refine bc_V (As := [.int (iI p), .int (iI a), .int (iI 1), .int (iI 0)]) (rest := []) (kd := 7) (k := 0) (ci := 2) ⟨hx, hb, hml, hown, hts⟩ (c_X2_hullEnd l g ad σ τ (w.1, 0) p a 1 0 h1 hBt hM (by omega) (by omega) (by omega)) (cwV 4 hts gX2_hull_X2_hullEnd rfl rfl rfl (by decide +kernel) ⟨Nat.le_of_ble_eq_true rfl, Nat.le_of_ble_eq_true rfl⟩) hK hU (bx_L0 (by omega)) rfl rfl rfl hl.1 rfl (Nat.le_of_ble_eq_true rfl) dX2_hull_58 ⟨Nat.le_of_ble_eq_true rfl, Nat.le_of_ble_eq_true rfl⟩ ?_
          have h6 := mH_bd hBt hM h1 (a := a) (hi := 1) (gr := 0) (by omega) (by omega) (by omega)
          refine bw_i hx hb hr hlocks (by first | exact hU | simpa using hU) hF hlc ?_ dX2_hull_61
          first | (rw [if_pos (by omega)]) | (rw [if_neg (by omega)])
      · refine li_if_ne (tgt := 29) hx hb (by unfold iR; omega) dX2_hull_22 (by decide) (fun h => absurd (by decide) h) (fun _ => ?_)
        refine li_iconst hx hb dX2_hull_25 ?_
        refine lv_goto (tgt := 30) hx hb dX2_hull_26 (by decide) ?_
        exfalso
        omega
    · refine li_if_eq (tgt := 25) hx hb (by unfold iR; omega) dX2_hull_13 (by decide) (fun _ => ?_) (fun h => absurd (by decide) h)
      refine li_iconst hx hb dX2_hull_25 ?_
      refine lv_goto (tgt := 30) hx hb dX2_hull_26 (by decide) ?_
      exfalso
      omega
  · refine li_if_eq (tgt := 25) hx hb (by unfold iR; omega) dX2_hull_6 (by decide) (fun _ => ?_) (fun h => absurd (by decide) h)
    refine li_iconst hx hb dX2_hull_25 ?_
    refine lv_goto (tgt := 30) hx hb dX2_hull_26 (by decide) ?_
    exfalso
    omega

set_option maxHeartbeats 4000000 in
set_option maxRecDepth 100000 in
theorem c_X2_hull_f (l : Launch) (g : bxG) (ad : bxA) (σ τ : bxS) (w : bxW) (p a z : Int) (hRp : iR p) (hRa : iR a) (hRz : iR z) (hBt : bx_B τ) (hM : bx_M τ) (hg : ¬ ((0 ≤ p ∧ p < 60 ∧ τ 2 p 0 ≠ 0) ∧ (0 ≤ a ∧ a ≤ 2) ∧ 0 ≤ z ∧ z ≤ 1)) : Met l yX2_hull wsX2_hull ({ frames := 2, cells := 0, slots := 0, locals := 53 }) (va_Pc [.ref (ad 7 0), .int (iI p), .int (iI a), .int (iI z)] (fun U => bx_I g ad σ τ w U)) (bq_W (some (.int (iI 0))) g ad σ τ (w.1, 1)) 0 0 (bq_fr g) := by
  refine Met.ofW (cc := cX2_hull) (maxL := 4) (ret := (some .int)) (by decide) rfl ?_
  intro Pg Ev s mI args below meth cd s₁ B hml hv
  obtain ⟨rfl, hU, hK⟩ := hv
  have hx := B.exec
  have hb := B.bytes
  have hr := B.returns
  have hts := atoms_spec (ws := wsX2_hull) B.pre
  have hown : s.vm.findClass RX2 = some mI.cls := findClass_of_methodNamed B.named
  have hlocks := B.notSynchronized
  have hF : bx_F g s.heap s.heap := bx_F.rf
  have hlc : bx_Lc g [] := bx_Lc.nil
  have hl := lv_entry ([.ref (ad 7 0), .int (iI p), .int (iI a), .int (iI z)]) (n := 4) (Nat.le_of_ble_eq_true rfl)
  rw [lg_entry_eq]
  generalize (lg_sl ([.ref (ad 7 0), .int (iI p), .int (iI a), .int (iI z)]) ++ List.replicate (4 - (lg_sl ([.ref (ad 7 0), .int (iI p), .int (iI a), .int (iI z)])).length) Slot.unset).toArray = ls at hl ⊢
  have hl : lv_has ls 4 [(0, .ref (ad 7 0)), (1, .int (iI p)), (2, .int (iI a)), (3, .int (iI z))] := hl
  have hinX2 : ∀ w ∈ wsX20, w ∈ wsX2_hull := by decide +kernel
  have hRp0 : -2147483648 ≤ p ∧ p < 2147483648 := hRp
  have hRa0 : -2147483648 ≤ a ∧ a < 2147483648 := hRa
  have hRz0 : -2147483648 ≤ z ∧ z < 2147483648 := hRz
  refine lv_aload_n hx hb dX2_hull_0 rfl (lv_at hl 0 rfl) ?_
  refine lv_aload_n hx hb dX2_hull_1 rfl (lv_at hl 0 rfl) ?_
  refine lv_iload_n hx hb dX2_hull_2 rfl (lv_at hl 1 rfl) ?_
  refine bc_VB (As := [.int (iI p)]) (rest := [.ref (ad 7 0)]) (kd := 7) (k := 0) (ci := 2) ⟨hx, hb, hml, hown, hts⟩ (c_X2_isPart l g ad σ τ w p (by unfold iR; omega) hBt) (cwV 1 hts gX2_hull_X2_isPart rfl rfl rfl (by decide +kernel) ⟨Nat.le_of_ble_eq_true rfl, Nat.le_of_ble_eq_true rfl⟩) hK hU (bx_L0 (by omega)) rfl rfl rfl hl.1 rfl (Nat.le_of_ble_eq_true rfl) dX2_hull_3 ⟨Nat.le_of_ble_eq_true rfl, Nat.le_of_ble_eq_true rfl⟩ (fun h1 => ?_) (fun h1 => ?_)
  · refine li_if_eq (tgt := 25) hx hb (by unfold iR; omega) dX2_hull_6 (by decide) (fun h => absurd h (by decide)) (fun _ => ?_)
    refine lv_iload_n hx hb dX2_hull_9 rfl (lv_at hl 2 rfl) ?_
    refine bc_SB (As := [.int (iI a)]) (rest := [.ref (ad 7 0)]) ⟨hx, hb, hml, hown, hts⟩ (c_X2_isAxis l g ad σ τ w a (by unfold iR; omega)) (va_cwS 1 hts gX2_hull_X2_isAxis rfl rfl rfl (by decide +kernel) ⟨Nat.le_of_ble_eq_true rfl, Nat.le_of_ble_eq_true rfl⟩) hK hU  rfl hl.1 rfl (Nat.le_of_ble_eq_true rfl) dX2_hull_10 ⟨Nat.le_of_ble_eq_true rfl, Nat.le_of_ble_eq_true rfl⟩ (fun h2 => ?_) (fun h2 => ?_)
    · refine li_if_eq (tgt := 25) hx hb (by unfold iR; omega) dX2_hull_13 (by decide) (fun h => absurd h (by decide)) (fun _ => ?_)
      refine lv_iload_n hx hb dX2_hull_16 rfl (lv_at hl 3 rfl) ?_
      refine li_iconst hx hb dX2_hull_17 ?_
      refine li_iconst hx hb dX2_hull_18 ?_
      refine bc_SB (As := [.int (iI z), .int (iI 0), .int (iI 1)]) (rest := [.ref (ad 7 0)]) ⟨hx, hb, hml, hown, hts⟩ (c_X2_isIn l g ad σ τ w z 0 1 (by unfold iR; omega) (by unfold iR; omega) (by unfold iR; omega)) (va_cwS 3 hts gX2_hull_X2_isIn rfl rfl rfl (by decide +kernel) ⟨Nat.le_of_ble_eq_true rfl, Nat.le_of_ble_eq_true rfl⟩) hK hU  rfl hl.1 rfl (Nat.le_of_ble_eq_true rfl) dX2_hull_19 ⟨Nat.le_of_ble_eq_true rfl, Nat.le_of_ble_eq_true rfl⟩ (fun h3 => ?_) (fun h3 => ?_)
      · refine li_if_ne (tgt := 29) hx hb (by unfold iR; omega) dX2_hull_22 (by decide) (fun _ => ?_) (fun h => absurd h (by decide))
        refine li_iconst hx hb dX2_hull_29 ?_
        exfalso
        omega
      · refine li_if_ne (tgt := 29) hx hb (by unfold iR; omega) dX2_hull_22 (by decide) (fun h => absurd (by decide) h) (fun _ => ?_)
        refine li_iconst hx hb dX2_hull_25 ?_
        refine lv_goto (tgt := 30) hx hb dX2_hull_26 (by decide) ?_
        refine bp_X2_code hx hb hts hinX2 hown hK hU hlc (hts (.fieldLink RX2 42 "ClashBoxesModel" "code" "I") (by decide +kernel)) dX2_hull_30 (fun H locs hU hF1 hlc => ?_)
        have hF := hF.tr hF1
        have hU : bx_U g ad σ τ (w.1, 1) H := hU
        refine lv_aload_n hx hb dX2_hull_33 rfl (lv_at hl 0 rfl) ?_
        refine bg_X2_code hx hb hts hinX2 hown hK hU (hts (.fieldLink RX2 42 "ClashBoxesModel" "code" "I") (by decide +kernel)) dX2_hull_34 ?_
        refine W.eq (g2 := F0 mI 37 ls [.int (iI 1)]) rfl ?_
        refine li_if_le (tgt := 44) hx hb (by unfold iR; omega) dX2_hull_37 (by decide) (fun h => absurd h (by decide)) (fun _ => ?_)
        refine li_iconst hx hb dX2_hull_40 ?_
        refine lv_goto (tgt := 61) hx hb dX2_hull_41 (by decide) ?_
        refine bw_i hx hb hr hlocks (by first | exact hU | simpa using hU) hF hlc ?_ dX2_hull_61
        rfl
    · refine li_if_eq (tgt := 25) hx hb (by unfold iR; omega) dX2_hull_13 (by decide) (fun _ => ?_) (fun h => absurd (by decide) h)
      refine li_iconst hx hb dX2_hull_25 ?_
      refine lv_goto (tgt := 30) hx hb dX2_hull_26 (by decide) ?_
      refine bp_X2_code hx hb hts hinX2 hown hK hU hlc (hts (.fieldLink RX2 42 "ClashBoxesModel" "code" "I") (by decide +kernel)) dX2_hull_30 (fun H locs hU hF1 hlc => ?_)
      have hF := hF.tr hF1
      have hU : bx_U g ad σ τ (w.1, 1) H := hU
      refine lv_aload_n hx hb dX2_hull_33 rfl (lv_at hl 0 rfl) ?_
      refine bg_X2_code hx hb hts hinX2 hown hK hU (hts (.fieldLink RX2 42 "ClashBoxesModel" "code" "I") (by decide +kernel)) dX2_hull_34 ?_
      refine W.eq (g2 := F0 mI 37 ls [.int (iI 1)]) rfl ?_
      refine li_if_le (tgt := 44) hx hb (by unfold iR; omega) dX2_hull_37 (by decide) (fun h => absurd h (by decide)) (fun _ => ?_)
      refine li_iconst hx hb dX2_hull_40 ?_
      refine lv_goto (tgt := 61) hx hb dX2_hull_41 (by decide) ?_
      refine bw_i hx hb hr hlocks (by first | exact hU | simpa using hU) hF hlc ?_ dX2_hull_61
      rfl
  · refine li_if_eq (tgt := 25) hx hb (by unfold iR; omega) dX2_hull_6 (by decide) (fun _ => ?_) (fun h => absurd (by decide) h)
    refine li_iconst hx hb dX2_hull_25 ?_
    refine lv_goto (tgt := 30) hx hb dX2_hull_26 (by decide) ?_
    refine bp_X2_code hx hb hts hinX2 hown hK hU hlc (hts (.fieldLink RX2 42 "ClashBoxesModel" "code" "I") (by decide +kernel)) dX2_hull_30 (fun H locs hU hF1 hlc => ?_)
    have hF := hF.tr hF1
    have hU : bx_U g ad σ τ (w.1, 1) H := hU
    refine lv_aload_n hx hb dX2_hull_33 rfl (lv_at hl 0 rfl) ?_
    refine bg_X2_code hx hb hts hinX2 hown hK hU (hts (.fieldLink RX2 42 "ClashBoxesModel" "code" "I") (by decide +kernel)) dX2_hull_34 ?_
    refine W.eq (g2 := F0 mI 37 ls [.int (iI 1)]) rfl ?_
    refine li_if_le (tgt := 44) hx hb (by unfold iR; omega) dX2_hull_37 (by decide) (fun h => absurd h (by decide)) (fun _ => ?_)
    refine li_iconst hx hb dX2_hull_40 ?_
    refine lv_goto (tgt := 61) hx hb dX2_hull_41 (by decide) ?_
    refine bw_i hx hb hr hlocks (by first | exact hU | simpa using hU) hF hlc ?_ dX2_hull_61
    rfl

set_option maxHeartbeats 4000000 in
set_option maxRecDepth 100000 in
theorem c_X2_margin_t (l : Launch) (g : bxG) (ad : bxA) (σ τ : bxS) (w : bxW) (p z : Int) (hRp : iR p) (hRz : iR z) (hBt : bx_B τ) (hg : (0 ≤ p ∧ p < 60 ∧ τ 2 p 0 ≠ 0) ∧ 0 ≤ z ∧ z ≤ 50) : Met l yX2_margin wsX2_margin ({ frames := 2, cells := 0, slots := 0, locals := 43 }) (va_Pc [.ref (ad 7 0), .int (iI p), .int (iI z)] (fun U => bx_I g ad σ τ w U)) (bq_W (some (.int (iI (τ 4 p 0)))) g ad σ (up3 τ 4 p 0 z) (w.1, 0)) 0 0 (bq_fr g) := by
  refine Met.ofW (cc := cX2_margin) (maxL := 4) (ret := (some .int)) (by decide) rfl ?_
  intro Pg Ev s mI args below meth cd s₁ B hml hv
  obtain ⟨rfl, hU, hK⟩ := hv
  have hx := B.exec
  have hb := B.bytes
  have hr := B.returns
  have hts := atoms_spec (ws := wsX2_margin) B.pre
  have hown : s.vm.findClass RX2 = some mI.cls := findClass_of_methodNamed B.named
  have hlocks := B.notSynchronized
  have hF : bx_F g s.heap s.heap := bx_F.rf
  have hlc : bx_Lc g [] := bx_Lc.nil
  have hl := lv_entry ([.ref (ad 7 0), .int (iI p), .int (iI z)]) (n := 4) (Nat.le_of_ble_eq_true rfl)
  rw [lg_entry_eq]
  generalize (lg_sl ([.ref (ad 7 0), .int (iI p), .int (iI z)]) ++ List.replicate (4 - (lg_sl ([.ref (ad 7 0), .int (iI p), .int (iI z)])).length) Slot.unset).toArray = ls at hl ⊢
  have hl : lv_has ls 4 [(0, .ref (ad 7 0)), (1, .int (iI p)), (2, .int (iI z))] := hl
  have hinX2 : ∀ w ∈ wsX20, w ∈ wsX2_margin := by decide +kernel
  have hRp0 : -2147483648 ≤ p ∧ p < 2147483648 := hRp
  have hRz0 : -2147483648 ≤ z ∧ z < 2147483648 := hRz
  refine lv_aload_n hx hb dX2_margin_0 rfl (lv_at hl 0 rfl) ?_
  refine lv_aload_n hx hb dX2_margin_1 rfl (lv_at hl 0 rfl) ?_
  refine lv_iload_n hx hb dX2_margin_2 rfl (lv_at hl 1 rfl) ?_
  refine bc_VB (As := [.int (iI p)]) (rest := [.ref (ad 7 0)]) (kd := 7) (k := 0) (ci := 2) ⟨hx, hb, hml, hown, hts⟩ (c_X2_isPart l g ad σ τ w p (by unfold iR; omega) hBt) (cwV 1 hts gX2_margin_X2_isPart rfl rfl rfl (by decide +kernel) ⟨Nat.le_of_ble_eq_true rfl, Nat.le_of_ble_eq_true rfl⟩) hK hU (bx_L0 (by omega)) rfl rfl rfl hl.1 rfl (Nat.le_of_ble_eq_true rfl) dX2_margin_3 ⟨Nat.le_of_ble_eq_true rfl, Nat.le_of_ble_eq_true rfl⟩ (fun h1 => ?_) (fun h1 => ?_)
  · refine li_if_eq (tgt := 19) hx hb (by unfold iR; omega) dX2_margin_6 (by decide) (fun h => absurd h (by decide)) (fun _ => ?_)
    refine lv_iload_n hx hb dX2_margin_9 rfl (lv_at hl 2 rfl) ?_
    refine li_iconst hx hb dX2_margin_10 ?_
    refine li_bipush hx hb dX2_margin_11 (by decide) ?_
    refine bc_SB (As := [.int (iI z), .int (iI 0), .int (iI 50)]) (rest := [.ref (ad 7 0)]) ⟨hx, hb, hml, hown, hts⟩ (c_X2_isIn l g ad σ τ w z 0 50 (by unfold iR; omega) (by unfold iR; omega) (by unfold iR; omega)) (va_cwS 3 hts gX2_margin_X2_isIn rfl rfl rfl (by decide +kernel) ⟨Nat.le_of_ble_eq_true rfl, Nat.le_of_ble_eq_true rfl⟩) hK hU  rfl hl.1 rfl (Nat.le_of_ble_eq_true rfl) dX2_margin_13 ⟨Nat.le_of_ble_eq_true rfl, Nat.le_of_ble_eq_true rfl⟩ (fun h2 => ?_) (fun h2 => ?_)
    · refine li_if_ne (tgt := 23) hx hb (by unfold iR; omega) dX2_margin_16 (by decide) (fun _ => ?_) (fun h => absurd h (by decide))
      refine li_iconst hx hb dX2_margin_23 ?_
      refine bp_X2_code hx hb hts hinX2 hown hK hU hlc (hts (.fieldLink RX2 42 "ClashBoxesModel" "code" "I") (by decide +kernel)) dX2_margin_24 (fun H locs hU hF1 hlc => ?_)
      have hF := hF.tr hF1
      have hU : bx_U g ad σ τ (w.1, 0) H := hU
      refine lv_aload_n hx hb dX2_margin_27 rfl (lv_at hl 0 rfl) ?_
      refine bg_X2_code hx hb hts hinX2 hown hK hU (hts (.fieldLink RX2 42 "ClashBoxesModel" "code" "I") (by decide +kernel)) dX2_margin_28 ?_
      refine W.eq (g2 := F0 mI 31 ls [.int (iI 0)]) rfl ?_
      refine li_if_le (tgt := 36) hx hb (by unfold iR; omega) dX2_margin_31 (by decide) (fun _ => ?_) (fun h => absurd (by decide) h)
      refine lv_aload_n hx hb dX2_margin_36 rfl (lv_at hl 0 rfl) ?_
      refine bg_X2_margins hx hb hts hinX2 hown hK hU (hts (.fieldLink RX2 17 "ClashBoxesModel" "margins" "[I") (by decide +kernel)) dX2_margin_37 ?_
      refine lv_iload_n hx hb dX2_margin_40 rfl (lv_at hl 1 rfl) ?_
      refine bl_10 hx hb hK hU (by omega) (by omega) dX2_margin_41 ?_
      have b3 := bB4 hBt h1
      refine lv_istore_n (lv' := [(3, .int (iI (τ 4 p 0))), (0, .ref (ad 7 0)), (1, .int (iI p)), (2, .int (iI z))]) hx hb dX2_margin_42 rfl hl (by decide) rfl (fun ls hl => ?_)
      refine lv_aload_n hx hb dX2_margin_43 rfl (lv_at hl 1 rfl) ?_
      refine bg_X2_margins hx hb hts hinX2 hown hK hU (hts (.fieldLink RX2 17 "ClashBoxesModel" "margins" "[I") (by decide +kernel)) dX2_margin_44 ?_
      refine lv_iload_n hx hb dX2_margin_47 rfl (lv_at hl 2 rfl) ?_
      refine lv_iload_n hx hb dX2_margin_48 rfl (lv_at hl 3 rfl) ?_
      refine bs_10 hx hb hK hU hlc (by omega) (by omega) dX2_margin_49 (fun H locs hU hF1 hlc => ?_)
      have hF := hF.tr hF1
      refine lv_iload_n hx hb dX2_margin_50 rfl (lv_at hl 0 rfl) ?_
      refine bw_i hx hb hr hlocks (by first | exact hU | simpa using hU) hF hlc ?_ dX2_margin_51
      rfl
    · refine li_if_ne (tgt := 23) hx hb (by unfold iR; omega) dX2_margin_16 (by decide) (fun h => absurd (by decide) h) (fun _ => ?_)
      refine li_iconst hx hb dX2_margin_19 ?_
      refine lv_goto (tgt := 24) hx hb dX2_margin_20 (by decide) ?_
      exfalso
      omega
  · refine li_if_eq (tgt := 19) hx hb (by unfold iR; omega) dX2_margin_6 (by decide) (fun _ => ?_) (fun h => absurd (by decide) h)
    refine li_iconst hx hb dX2_margin_19 ?_
    refine lv_goto (tgt := 24) hx hb dX2_margin_20 (by decide) ?_
    exfalso
    omega

set_option maxHeartbeats 4000000 in
set_option maxRecDepth 100000 in
theorem c_X2_margin_f (l : Launch) (g : bxG) (ad : bxA) (σ τ : bxS) (w : bxW) (p z : Int) (hRp : iR p) (hRz : iR z) (hBt : bx_B τ) (hg : ¬ ((0 ≤ p ∧ p < 60 ∧ τ 2 p 0 ≠ 0) ∧ 0 ≤ z ∧ z ≤ 50)) : Met l yX2_margin wsX2_margin ({ frames := 2, cells := 0, slots := 0, locals := 43 }) (va_Pc [.ref (ad 7 0), .int (iI p), .int (iI z)] (fun U => bx_I g ad σ τ w U)) (bq_W (some (.int (iI 0))) g ad σ τ (w.1, 1)) 0 0 (bq_fr g) := by
  refine Met.ofW (cc := cX2_margin) (maxL := 4) (ret := (some .int)) (by decide) rfl ?_
  intro Pg Ev s mI args below meth cd s₁ B hml hv
  obtain ⟨rfl, hU, hK⟩ := hv
  have hx := B.exec
  have hb := B.bytes
  have hr := B.returns
  have hts := atoms_spec (ws := wsX2_margin) B.pre
  have hown : s.vm.findClass RX2 = some mI.cls := findClass_of_methodNamed B.named
  have hlocks := B.notSynchronized
  have hF : bx_F g s.heap s.heap := bx_F.rf
  have hlc : bx_Lc g [] := bx_Lc.nil
  have hl := lv_entry ([.ref (ad 7 0), .int (iI p), .int (iI z)]) (n := 4) (Nat.le_of_ble_eq_true rfl)
  rw [lg_entry_eq]
  generalize (lg_sl ([.ref (ad 7 0), .int (iI p), .int (iI z)]) ++ List.replicate (4 - (lg_sl ([.ref (ad 7 0), .int (iI p), .int (iI z)])).length) Slot.unset).toArray = ls at hl ⊢
  have hl : lv_has ls 4 [(0, .ref (ad 7 0)), (1, .int (iI p)), (2, .int (iI z))] := hl
  have hinX2 : ∀ w ∈ wsX20, w ∈ wsX2_margin := by decide +kernel
  have hRp0 : -2147483648 ≤ p ∧ p < 2147483648 := hRp
  have hRz0 : -2147483648 ≤ z ∧ z < 2147483648 := hRz
  refine lv_aload_n hx hb dX2_margin_0 rfl (lv_at hl 0 rfl) ?_
  refine lv_aload_n hx hb dX2_margin_1 rfl (lv_at hl 0 rfl) ?_
  refine lv_iload_n hx hb dX2_margin_2 rfl (lv_at hl 1 rfl) ?_
  refine bc_VB (As := [.int (iI p)]) (rest := [.ref (ad 7 0)]) (kd := 7) (k := 0) (ci := 2) ⟨hx, hb, hml, hown, hts⟩ (c_X2_isPart l g ad σ τ w p (by unfold iR; omega) hBt) (cwV 1 hts gX2_margin_X2_isPart rfl rfl rfl (by decide +kernel) ⟨Nat.le_of_ble_eq_true rfl, Nat.le_of_ble_eq_true rfl⟩) hK hU (bx_L0 (by omega)) rfl rfl rfl hl.1 rfl (Nat.le_of_ble_eq_true rfl) dX2_margin_3 ⟨Nat.le_of_ble_eq_true rfl, Nat.le_of_ble_eq_true rfl⟩ (fun h1 => ?_) (fun h1 => ?_)
  · refine li_if_eq (tgt := 19) hx hb (by unfold iR; omega) dX2_margin_6 (by decide) (fun h => absurd h (by decide)) (fun _ => ?_)
    refine lv_iload_n hx hb dX2_margin_9 rfl (lv_at hl 2 rfl) ?_
    refine li_iconst hx hb dX2_margin_10 ?_
    refine li_bipush hx hb dX2_margin_11 (by decide) ?_
    refine bc_SB (As := [.int (iI z), .int (iI 0), .int (iI 50)]) (rest := [.ref (ad 7 0)]) ⟨hx, hb, hml, hown, hts⟩ (c_X2_isIn l g ad σ τ w z 0 50 (by unfold iR; omega) (by unfold iR; omega) (by unfold iR; omega)) (va_cwS 3 hts gX2_margin_X2_isIn rfl rfl rfl (by decide +kernel) ⟨Nat.le_of_ble_eq_true rfl, Nat.le_of_ble_eq_true rfl⟩) hK hU  rfl hl.1 rfl (Nat.le_of_ble_eq_true rfl) dX2_margin_13 ⟨Nat.le_of_ble_eq_true rfl, Nat.le_of_ble_eq_true rfl⟩ (fun h2 => ?_) (fun h2 => ?_)
    · refine li_if_ne (tgt := 23) hx hb (by unfold iR; omega) dX2_margin_16 (by decide) (fun _ => ?_) (fun h => absurd h (by decide))
      refine li_iconst hx hb dX2_margin_23 ?_
      exfalso
      omega
    · refine li_if_ne (tgt := 23) hx hb (by unfold iR; omega) dX2_margin_16 (by decide) (fun h => absurd (by decide) h) (fun _ => ?_)
      refine li_iconst hx hb dX2_margin_19 ?_
      refine lv_goto (tgt := 24) hx hb dX2_margin_20 (by decide) ?_
      refine bp_X2_code hx hb hts hinX2 hown hK hU hlc (hts (.fieldLink RX2 42 "ClashBoxesModel" "code" "I") (by decide +kernel)) dX2_margin_24 (fun H locs hU hF1 hlc => ?_)
      have hF := hF.tr hF1
      have hU : bx_U g ad σ τ (w.1, 1) H := hU
      refine lv_aload_n hx hb dX2_margin_27 rfl (lv_at hl 0 rfl) ?_
      refine bg_X2_code hx hb hts hinX2 hown hK hU (hts (.fieldLink RX2 42 "ClashBoxesModel" "code" "I") (by decide +kernel)) dX2_margin_28 ?_
      refine W.eq (g2 := F0 mI 31 ls [.int (iI 1)]) rfl ?_
      refine li_if_le (tgt := 36) hx hb (by unfold iR; omega) dX2_margin_31 (by decide) (fun h => absurd h (by decide)) (fun _ => ?_)
      refine li_iconst hx hb dX2_margin_34 ?_
      refine bw_i hx hb hr hlocks (by first | exact hU | simpa using hU) hF hlc ?_ dX2_margin_35
      rfl
  · refine li_if_eq (tgt := 19) hx hb (by unfold iR; omega) dX2_margin_6 (by decide) (fun _ => ?_) (fun h => absurd (by decide) h)
    refine li_iconst hx hb dX2_margin_19 ?_
    refine lv_goto (tgt := 24) hx hb dX2_margin_20 (by decide) ?_
    refine bp_X2_code hx hb hts hinX2 hown hK hU hlc (hts (.fieldLink RX2 42 "ClashBoxesModel" "code" "I") (by decide +kernel)) dX2_margin_24 (fun H locs hU hF1 hlc => ?_)
    have hF := hF.tr hF1
    have hU : bx_U g ad σ τ (w.1, 1) H := hU
    refine lv_aload_n hx hb dX2_margin_27 rfl (lv_at hl 0 rfl) ?_
    refine bg_X2_code hx hb hts hinX2 hown hK hU (hts (.fieldLink RX2 42 "ClashBoxesModel" "code" "I") (by decide +kernel)) dX2_margin_28 ?_
    refine W.eq (g2 := F0 mI 31 ls [.int (iI 1)]) rfl ?_
    refine li_if_le (tgt := 36) hx hb (by unfold iR; omega) dX2_margin_31 (by decide) (fun h => absurd h (by decide)) (fun _ => ?_)
    refine li_iconst hx hb dX2_margin_34 ?_
    refine bw_i hx hb hr hlocks (by first | exact hU | simpa using hU) hF hlc ?_ dX2_margin_35
    rfl

set_option maxHeartbeats 4000000 in
set_option maxRecDepth 100000 in
theorem c_X2_free_t (l : Launch) (g : bxG) (ad : bxA) (σ τ : bxS) (w : bxW) (a b z : Int) (hRa : iR a) (hRb : iR b) (hz : z = 0 ∨ z = 1) (hBt : bx_B τ) (hg : (0 ≤ a ∧ a ≤ 7) ∧ 0 ≤ b ∧ b ≤ 7) : Met l yX2_free wsX2_free ({ frames := 2, cells := 0, slots := 0, locals := 42 }) (va_Pc [.ref (ad 7 0), .int (iI a), .int (iI b), .int (iI z)] (fun U => bx_I g ad σ τ w U)) (bq_W (some (.int (iI (τ 9 (8 * a + b) 0)))) g ad σ (up3 (up3 τ 9 (8 * a + b) 0 z) 9 (8 * b + a) 0 z) (w.1, 0)) 0 0 (bq_fr g) := by
  refine Met.ofW (cc := cX2_free) (maxL := 5) (ret := (some .boolean)) (by decide) rfl ?_
  intro Pg Ev s mI args below meth cd s₁ B hml hv
  obtain ⟨rfl, hU, hK⟩ := hv
  have hx := B.exec
  have hb := B.bytes
  have hr := B.returns
  have hts := atoms_spec (ws := wsX2_free) B.pre
  have hown : s.vm.findClass RX2 = some mI.cls := findClass_of_methodNamed B.named
  have hlocks := B.notSynchronized
  have hF : bx_F g s.heap s.heap := bx_F.rf
  have hlc : bx_Lc g [] := bx_Lc.nil
  have hl := lv_entry ([.ref (ad 7 0), .int (iI a), .int (iI b), .int (iI z)]) (n := 5) (Nat.le_of_ble_eq_true rfl)
  rw [lg_entry_eq]
  generalize (lg_sl ([.ref (ad 7 0), .int (iI a), .int (iI b), .int (iI z)]) ++ List.replicate (5 - (lg_sl ([.ref (ad 7 0), .int (iI a), .int (iI b), .int (iI z)])).length) Slot.unset).toArray = ls at hl ⊢
  have hl : lv_has ls 5 [(0, .ref (ad 7 0)), (1, .int (iI a)), (2, .int (iI b)), (3, .int (iI z))] := hl
  have hinX2 : ∀ w ∈ wsX20, w ∈ wsX2_free := by decide +kernel
  have hRa0 : -2147483648 ≤ a ∧ a < 2147483648 := hRa
  have hRb0 : -2147483648 ≤ b ∧ b < 2147483648 := hRb
  refine lv_aload_n hx hb dX2_free_0 rfl (lv_at hl 0 rfl) ?_
  refine lv_iload_n hx hb dX2_free_1 rfl (lv_at hl 1 rfl) ?_
  refine bc_SB (As := [.int (iI a)]) (rest := [.ref (ad 7 0)]) ⟨hx, hb, hml, hown, hts⟩ (c_X2_isKind l g ad σ τ w a (by unfold iR; omega)) (va_cwS 1 hts gX2_free_X2_isKind rfl rfl rfl (by decide +kernel) ⟨Nat.le_of_ble_eq_true rfl, Nat.le_of_ble_eq_true rfl⟩) hK hU  rfl hl.1 rfl (Nat.le_of_ble_eq_true rfl) dX2_free_2 ⟨Nat.le_of_ble_eq_true rfl, Nat.le_of_ble_eq_true rfl⟩ (fun h1 => ?_) (fun h1 => ?_)
  · refine li_if_eq (tgt := 15) hx hb (by unfold iR; omega) dX2_free_5 (by decide) (fun h => absurd h (by decide)) (fun _ => ?_)
    refine lv_iload_n hx hb dX2_free_8 rfl (lv_at hl 2 rfl) ?_
    refine bc_SB (As := [.int (iI b)]) (rest := [.ref (ad 7 0)]) ⟨hx, hb, hml, hown, hts⟩ (c_X2_isKind l g ad σ τ w b (by unfold iR; omega)) (va_cwS 1 hts gX2_free_X2_isKind rfl rfl rfl (by decide +kernel) ⟨Nat.le_of_ble_eq_true rfl, Nat.le_of_ble_eq_true rfl⟩) hK hU  rfl hl.1 rfl (Nat.le_of_ble_eq_true rfl) dX2_free_9 ⟨Nat.le_of_ble_eq_true rfl, Nat.le_of_ble_eq_true rfl⟩ (fun h2 => ?_) (fun h2 => ?_)
    · refine li_if_ne (tgt := 19) hx hb (by unfold iR; omega) dX2_free_12 (by decide) (fun _ => ?_) (fun h => absurd h (by decide))
      refine li_iconst hx hb dX2_free_19 ?_
      refine bp_X2_code hx hb hts hinX2 hown hK hU hlc (hts (.fieldLink RX2 42 "ClashBoxesModel" "code" "I") (by decide +kernel)) dX2_free_20 (fun H locs hU hF1 hlc => ?_)
      have hF := hF.tr hF1
      have hU : bx_U g ad σ τ (w.1, 0) H := hU
      refine lv_aload_n hx hb dX2_free_23 rfl (lv_at hl 0 rfl) ?_
      refine bg_X2_code hx hb hts hinX2 hown hK hU (hts (.fieldLink RX2 42 "ClashBoxesModel" "code" "I") (by decide +kernel)) dX2_free_24 ?_
      refine W.eq (g2 := F0 mI 27 ls [.int (iI 0)]) rfl ?_
      refine li_if_le (tgt := 32) hx hb (by unfold iR; omega) dX2_free_27 (by decide) (fun _ => ?_) (fun h => absurd (by decide) h)
      refine lv_aload_n hx hb dX2_free_32 rfl (lv_at hl 0 rfl) ?_
      refine bg_X2_areFree hx hb hts hinX2 hown hK hU (hts (.fieldLink RX2 32 "ClashBoxesModel" "areFree" "[Z") (by decide +kernel)) dX2_free_33 ?_
      refine li_bipush hx hb dX2_free_36 (by decide) ?_
      refine lv_iload_n hx hb dX2_free_38 rfl (lv_at hl 1 rfl) ?_
      refine li_imul hx hb dX2_free_39 ?_
      refine lv_iload_n hx hb dX2_free_40 rfl (lv_at hl 2 rfl) ?_
      refine li_iadd hx hb dX2_free_41 ?_
      refine bl_15 hx hb hK hU (by omega) (by omega) dX2_free_42 ?_
      have b3 := bB9 hBt (k := (8 * a) + b) (by omega) (by omega)
      refine lv_istore (lv' := [(4, .int (iI (τ 9 ((8 * a) + b) 0))), (0, .ref (ad 7 0)), (1, .int (iI a)), (2, .int (iI b)), (3, .int (iI z))]) hx hb dX2_free_43 hl (by decide) rfl (fun ls hl => ?_)
      refine lv_aload_n hx hb dX2_free_45 rfl (lv_at hl 1 rfl) ?_
      refine bg_X2_areFree hx hb hts hinX2 hown hK hU (hts (.fieldLink RX2 32 "ClashBoxesModel" "areFree" "[Z") (by decide +kernel)) dX2_free_46 ?_
      refine li_bipush hx hb dX2_free_49 (by decide) ?_
      refine lv_iload_n hx hb dX2_free_51 rfl (lv_at hl 2 rfl) ?_
      refine li_imul hx hb dX2_free_52 ?_
      refine lv_iload_n hx hb dX2_free_53 rfl (lv_at hl 3 rfl) ?_
      refine li_iadd hx hb dX2_free_54 ?_
      refine lv_iload_n hx hb dX2_free_55 rfl (lv_at hl 4 rfl) ?_
      refine bs_15 hx hb hK hU hlc (by omega) (by omega) (by omega) dX2_free_56 (fun H locs hU hF1 hlc => ?_)
      have hF := hF.tr hF1
      refine lv_aload_n hx hb dX2_free_57 rfl (lv_at hl 1 rfl) ?_
      refine bg_X2_areFree hx hb hts hinX2 hown hK hU (hts (.fieldLink RX2 32 "ClashBoxesModel" "areFree" "[Z") (by decide +kernel)) dX2_free_58 ?_
      refine li_bipush hx hb dX2_free_61 (by decide) ?_
      refine lv_iload_n hx hb dX2_free_63 rfl (lv_at hl 3 rfl) ?_
      refine li_imul hx hb dX2_free_64 ?_
      refine lv_iload_n hx hb dX2_free_65 rfl (lv_at hl 2 rfl) ?_
      refine li_iadd hx hb dX2_free_66 ?_
      refine lv_iload_n hx hb dX2_free_67 rfl (lv_at hl 4 rfl) ?_
      refine bs_15 hx hb hK hU hlc (by omega) (by omega) (by omega) dX2_free_68 (fun H locs hU hF1 hlc => ?_)
      have hF := hF.tr hF1
      refine lv_iload hx hb dX2_free_69 (lv_at hl 0 rfl) ?_
      refine bw_z hx hb hr hlocks (by first | exact hU | simpa using hU) hF hlc (by omega) ?_ dX2_free_71
      rfl
    · refine li_if_ne (tgt := 19) hx hb (by unfold iR; omega) dX2_free_12 (by decide) (fun h => absurd (by decide) h) (fun _ => ?_)
      refine li_iconst hx hb dX2_free_15 ?_
      refine lv_goto (tgt := 20) hx hb dX2_free_16 (by decide) ?_
      exfalso
      omega
  · refine li_if_eq (tgt := 15) hx hb (by unfold iR; omega) dX2_free_5 (by decide) (fun _ => ?_) (fun h => absurd (by decide) h)
    refine li_iconst hx hb dX2_free_15 ?_
    refine lv_goto (tgt := 20) hx hb dX2_free_16 (by decide) ?_
    exfalso
    omega

set_option maxHeartbeats 4000000 in
set_option maxRecDepth 100000 in
theorem c_X2_free_f (l : Launch) (g : bxG) (ad : bxA) (σ τ : bxS) (w : bxW) (a b z : Int) (hRa : iR a) (hRb : iR b) (hz : z = 0 ∨ z = 1) (hBt : bx_B τ) (hg : ¬ ((0 ≤ a ∧ a ≤ 7) ∧ 0 ≤ b ∧ b ≤ 7)) : Met l yX2_free wsX2_free ({ frames := 2, cells := 0, slots := 0, locals := 42 }) (va_Pc [.ref (ad 7 0), .int (iI a), .int (iI b), .int (iI z)] (fun U => bx_I g ad σ τ w U)) (bq_W (some (.int (iI 0))) g ad σ τ (w.1, 1)) 0 0 (bq_fr g) := by
  refine Met.ofW (cc := cX2_free) (maxL := 5) (ret := (some .boolean)) (by decide) rfl ?_
  intro Pg Ev s mI args below meth cd s₁ B hml hv
  obtain ⟨rfl, hU, hK⟩ := hv
  have hx := B.exec
  have hb := B.bytes
  have hr := B.returns
  have hts := atoms_spec (ws := wsX2_free) B.pre
  have hown : s.vm.findClass RX2 = some mI.cls := findClass_of_methodNamed B.named
  have hlocks := B.notSynchronized
  have hF : bx_F g s.heap s.heap := bx_F.rf
  have hlc : bx_Lc g [] := bx_Lc.nil
  have hl := lv_entry ([.ref (ad 7 0), .int (iI a), .int (iI b), .int (iI z)]) (n := 5) (Nat.le_of_ble_eq_true rfl)
  rw [lg_entry_eq]
  generalize (lg_sl ([.ref (ad 7 0), .int (iI a), .int (iI b), .int (iI z)]) ++ List.replicate (5 - (lg_sl ([.ref (ad 7 0), .int (iI a), .int (iI b), .int (iI z)])).length) Slot.unset).toArray = ls at hl ⊢
  have hl : lv_has ls 5 [(0, .ref (ad 7 0)), (1, .int (iI a)), (2, .int (iI b)), (3, .int (iI z))] := hl
  have hinX2 : ∀ w ∈ wsX20, w ∈ wsX2_free := by decide +kernel
  have hRa0 : -2147483648 ≤ a ∧ a < 2147483648 := hRa
  have hRb0 : -2147483648 ≤ b ∧ b < 2147483648 := hRb
  refine lv_aload_n hx hb dX2_free_0 rfl (lv_at hl 0 rfl) ?_
  refine lv_iload_n hx hb dX2_free_1 rfl (lv_at hl 1 rfl) ?_
  refine bc_SB (As := [.int (iI a)]) (rest := [.ref (ad 7 0)]) ⟨hx, hb, hml, hown, hts⟩ (c_X2_isKind l g ad σ τ w a (by unfold iR; omega)) (va_cwS 1 hts gX2_free_X2_isKind rfl rfl rfl (by decide +kernel) ⟨Nat.le_of_ble_eq_true rfl, Nat.le_of_ble_eq_true rfl⟩) hK hU  rfl hl.1 rfl (Nat.le_of_ble_eq_true rfl) dX2_free_2 ⟨Nat.le_of_ble_eq_true rfl, Nat.le_of_ble_eq_true rfl⟩ (fun h1 => ?_) (fun h1 => ?_)
  · refine li_if_eq (tgt := 15) hx hb (by unfold iR; omega) dX2_free_5 (by decide) (fun h => absurd h (by decide)) (fun _ => ?_)
    refine lv_iload_n hx hb dX2_free_8 rfl (lv_at hl 2 rfl) ?_
    refine bc_SB (As := [.int (iI b)]) (rest := [.ref (ad 7 0)]) ⟨hx, hb, hml, hown, hts⟩ (c_X2_isKind l g ad σ τ w b (by unfold iR; omega)) (va_cwS 1 hts gX2_free_X2_isKind rfl rfl rfl (by decide +kernel) ⟨Nat.le_of_ble_eq_true rfl, Nat.le_of_ble_eq_true rfl⟩) hK hU  rfl hl.1 rfl (Nat.le_of_ble_eq_true rfl) dX2_free_9 ⟨Nat.le_of_ble_eq_true rfl, Nat.le_of_ble_eq_true rfl⟩ (fun h2 => ?_) (fun h2 => ?_)
    · refine li_if_ne (tgt := 19) hx hb (by unfold iR; omega) dX2_free_12 (by decide) (fun _ => ?_) (fun h => absurd h (by decide))
      refine li_iconst hx hb dX2_free_19 ?_
      exfalso
      omega
    · refine li_if_ne (tgt := 19) hx hb (by unfold iR; omega) dX2_free_12 (by decide) (fun h => absurd (by decide) h) (fun _ => ?_)
      refine li_iconst hx hb dX2_free_15 ?_
      refine lv_goto (tgt := 20) hx hb dX2_free_16 (by decide) ?_
      refine bp_X2_code hx hb hts hinX2 hown hK hU hlc (hts (.fieldLink RX2 42 "ClashBoxesModel" "code" "I") (by decide +kernel)) dX2_free_20 (fun H locs hU hF1 hlc => ?_)
      have hF := hF.tr hF1
      have hU : bx_U g ad σ τ (w.1, 1) H := hU
      refine lv_aload_n hx hb dX2_free_23 rfl (lv_at hl 0 rfl) ?_
      refine bg_X2_code hx hb hts hinX2 hown hK hU (hts (.fieldLink RX2 42 "ClashBoxesModel" "code" "I") (by decide +kernel)) dX2_free_24 ?_
      refine W.eq (g2 := F0 mI 27 ls [.int (iI 1)]) rfl ?_
      refine li_if_le (tgt := 32) hx hb (by unfold iR; omega) dX2_free_27 (by decide) (fun h => absurd h (by decide)) (fun _ => ?_)
      refine li_iconst hx hb dX2_free_30 ?_
      refine bw_z hx hb hr hlocks (by first | exact hU | simpa using hU) hF hlc (by omega) ?_ dX2_free_31
      rfl
  · refine li_if_eq (tgt := 15) hx hb (by unfold iR; omega) dX2_free_5 (by decide) (fun _ => ?_) (fun h => absurd (by decide) h)
    refine li_iconst hx hb dX2_free_15 ?_
    refine lv_goto (tgt := 20) hx hb dX2_free_16 (by decide) ?_
    refine bp_X2_code hx hb hts hinX2 hown hK hU hlc (hts (.fieldLink RX2 42 "ClashBoxesModel" "code" "I") (by decide +kernel)) dX2_free_20 (fun H locs hU hF1 hlc => ?_)
    have hF := hF.tr hF1
    have hU : bx_U g ad σ τ (w.1, 1) H := hU
    refine lv_aload_n hx hb dX2_free_23 rfl (lv_at hl 0 rfl) ?_
    refine bg_X2_code hx hb hts hinX2 hown hK hU (hts (.fieldLink RX2 42 "ClashBoxesModel" "code" "I") (by decide +kernel)) dX2_free_24 ?_
    refine W.eq (g2 := F0 mI 27 ls [.int (iI 1)]) rfl ?_
    refine li_if_le (tgt := 32) hx hb (by unfold iR; omega) dX2_free_27 (by decide) (fun h => absurd h (by decide)) (fun _ => ?_)
    refine li_iconst hx hb dX2_free_30 ?_
    refine bw_z hx hb hr hlocks (by first | exact hU | simpa using hU) hF hlc (by omega) ?_ dX2_free_31
    rfl

set_option maxHeartbeats 4000000 in
set_option maxRecDepth 100000 in
theorem c_X2_move_t (l : Launch) (g : bxG) (ad : bxA) (σ τ : bxS) (w : bxW) (p a d : Int) (hRp : iR p) (hRa : iR a) (hRd : iR d) (hBt : bx_B τ) (hg : (0 ≤ p ∧ p < 60 ∧ τ 2 p 0 ≠ 0) ∧ (0 ≤ a ∧ a ≤ 2) ∧ -1000 ≤ d ∧ d ≤ 1000) : Met l yX2_move wsX2_move ({ frames := 2, cells := 0, slots := 0, locals := 43 }) (va_Pc [.ref (ad 7 0), .int (iI p), .int (iI a), .int (iI d)] (fun U => bx_I g ad σ τ w U)) (bq_W (some (.int (iI (if 0 ≤ τ 7 p a + d ∧ τ 8 p a + d ≤ 1000 then 1 else 0)))) g ad σ (if 0 ≤ τ 7 p a + d ∧ τ 8 p a + d ≤ 1000 then up3 (up3 τ 7 p a (τ 7 p a + d)) 8 p a (τ 8 p a + d) else τ) (w.1, 0)) 0 0 (bq_fr g) := by
  refine Met.ofW (cc := cX2_move) (maxL := 4) (ret := (some .boolean)) (by decide) rfl ?_
  intro Pg Ev s mI args below meth cd s₁ B hml hv
  obtain ⟨rfl, hU, hK⟩ := hv
  have hx := B.exec
  have hb := B.bytes
  have hr := B.returns
  have hts := atoms_spec (ws := wsX2_move) B.pre
  have hown : s.vm.findClass RX2 = some mI.cls := findClass_of_methodNamed B.named
  have hlocks := B.notSynchronized
  have hF : bx_F g s.heap s.heap := bx_F.rf
  have hlc : bx_Lc g [] := bx_Lc.nil
  have hl := lv_entry ([.ref (ad 7 0), .int (iI p), .int (iI a), .int (iI d)]) (n := 4) (Nat.le_of_ble_eq_true rfl)
  rw [lg_entry_eq]
  generalize (lg_sl ([.ref (ad 7 0), .int (iI p), .int (iI a), .int (iI d)]) ++ List.replicate (4 - (lg_sl ([.ref (ad 7 0), .int (iI p), .int (iI a), .int (iI d)])).length) Slot.unset).toArray = ls at hl ⊢
  have hl : lv_has ls 4 [(0, .ref (ad 7 0)), (1, .int (iI p)), (2, .int (iI a)), (3, .int (iI d))] := hl
  have hinX2 : ∀ w ∈ wsX20, w ∈ wsX2_move := by decide +kernel
  have hRp0 : -2147483648 ≤ p ∧ p < 2147483648 := hRp
  have hRa0 : -2147483648 ≤ a ∧ a < 2147483648 := hRa
  have hRd0 : -2147483648 ≤ d ∧ d < 2147483648 := hRd
  refine lv_aload_n hx hb dX2_move_0 rfl (lv_at hl 0 rfl) ?_
  refine lv_aload_n hx hb dX2_move_1 rfl (lv_at hl 0 rfl) ?_
  refine lv_iload_n hx hb dX2_move_2 rfl (lv_at hl 1 rfl) ?_
  refine bc_VB (As := [.int (iI p)]) (rest := [.ref (ad 7 0)]) (kd := 7) (k := 0) (ci := 2) ⟨hx, hb, hml, hown, hts⟩ (c_X2_isPart l g ad σ τ w p (by unfold iR; omega) hBt) (cwV 1 hts gX2_move_X2_isPart rfl rfl rfl (by decide +kernel) ⟨Nat.le_of_ble_eq_true rfl, Nat.le_of_ble_eq_true rfl⟩) hK hU (bx_L0 (by omega)) rfl rfl rfl hl.1 rfl (Nat.le_of_ble_eq_true rfl) dX2_move_3 ⟨Nat.le_of_ble_eq_true rfl, Nat.le_of_ble_eq_true rfl⟩ (fun h1 => ?_) (fun h1 => ?_)
  · refine li_if_eq (tgt := 29) hx hb (by unfold iR; omega) dX2_move_6 (by decide) (fun h => absurd h (by decide)) (fun _ => ?_)
    refine lv_iload_n hx hb dX2_move_9 rfl (lv_at hl 2 rfl) ?_
    refine bc_SB (As := [.int (iI a)]) (rest := [.ref (ad 7 0)]) ⟨hx, hb, hml, hown, hts⟩ (c_X2_isAxis l g ad σ τ w a (by unfold iR; omega)) (va_cwS 1 hts gX2_move_X2_isAxis rfl rfl rfl (by decide +kernel) ⟨Nat.le_of_ble_eq_true rfl, Nat.le_of_ble_eq_true rfl⟩) hK hU  rfl hl.1 rfl (Nat.le_of_ble_eq_true rfl) dX2_move_10 ⟨Nat.le_of_ble_eq_true rfl, Nat.le_of_ble_eq_true rfl⟩ (fun h2 => ?_) (fun h2 => ?_)
    · refine li_if_eq (tgt := 29) hx hb (by unfold iR; omega) dX2_move_13 (by decide) (fun h => absurd h (by decide)) (fun _ => ?_)
      refine lv_iload_n hx hb dX2_move_16 rfl (lv_at hl 3 rfl) ?_
      refine li_sipush hx hb dX2_move_17 (by decide) ?_
      refine li_sipush hx hb dX2_move_20 (by decide) ?_
      refine bc_SB (As := [.int (iI d), .int (iI (-1000)), .int (iI 1000)]) (rest := [.ref (ad 7 0)]) ⟨hx, hb, hml, hown, hts⟩ (c_X2_isIn l g ad σ τ w d (-1000) 1000 (by unfold iR; omega) (by unfold iR; omega) (by unfold iR; omega)) (va_cwS 3 hts gX2_move_X2_isIn rfl rfl rfl (by decide +kernel) ⟨Nat.le_of_ble_eq_true rfl, Nat.le_of_ble_eq_true rfl⟩) hK hU  rfl hl.1 rfl (Nat.le_of_ble_eq_true rfl) dX2_move_23 ⟨Nat.le_of_ble_eq_true rfl, Nat.le_of_ble_eq_true rfl⟩ (fun h3 => ?_) (fun h3 => ?_)
      · refine li_if_ne (tgt := 33) hx hb (by unfold iR; omega) dX2_move_26 (by decide) (fun _ => ?_) (fun h => absurd h (by decide))
        refine li_iconst hx hb dX2_move_33 ?_
        refine bp_X2_code hx hb hts hinX2 hown hK hU hlc (hts (.fieldLink RX2 42 "ClashBoxesModel" "code" "I") (by decide +kernel)) dX2_move_34 (fun H locs hU hF1 hlc => ?_)
        have hF := hF.tr hF1
        have hU : bx_U g ad σ τ (w.1, 0) H := hU
        refine lv_aload_n hx hb dX2_move_37 rfl (lv_at hl 0 rfl) ?_
        refine bg_X2_code hx hb hts hinX2 hown hK hU (hts (.fieldLink RX2 42 "ClashBoxesModel" "code" "I") (by decide +kernel)) dX2_move_38 ?_
        refine W.eq (g2 := F0 mI 41 ls [.int (iI 0)]) rfl ?_
        refine li_if_gt (tgt := 54) hx hb (by unfold iR; omega) dX2_move_41 (by decide) (fun h => absurd h (by decide)) (fun _ => ?_)
        refine lv_aload_n hx hb dX2_move_44 rfl (lv_at hl 0 rfl) ?_
        refine lv_iload_n hx hb dX2_move_45 rfl (lv_at hl 1 rfl) ?_
        refine lv_iload_n hx hb dX2_move_46 rfl (lv_at hl 2 rfl) ?_
        refine lv_iload_n hx hb dX2_move_47 rfl (lv_at hl 3 rfl) ?_
        refine bc_VB (As := [.int (iI p), .int (iI a), .int (iI d)]) (rest := []) (kd := 7) (k := 0) (ci := 2) ⟨hx, hb, hml, hown, hts⟩ (c_X2_mayMove l g ad σ τ (w.1, 0) p a d h1 hBt (by omega) (by omega)) (cwV 3 hts gX2_move_X2_mayMove rfl rfl rfl (by decide +kernel) ⟨Nat.le_of_ble_eq_true rfl, Nat.le_of_ble_eq_true rfl⟩) hK hU (bx_L0 (by omega)) rfl rfl rfl hl.1 rfl (Nat.le_of_ble_eq_true rfl) dX2_move_48 ⟨Nat.le_of_ble_eq_true rfl, Nat.le_of_ble_eq_true rfl⟩ (fun h4 => ?_) (fun h4 => ?_)
        · refine li_if_ne (tgt := 56) hx hb (by unfold iR; omega) dX2_move_51 (by decide) (fun _ => ?_) (fun h => absurd h (by decide))
          refine lv_aload_n hx hb dX2_move_56 rfl (lv_at hl 0 rfl) ?_
          refine bg_X2_lows hx hb hts hinX2 hown hK hU (hts (.fieldLink RX2 26 "ClashBoxesModel" "lows" "[I") (by decide +kernel)) dX2_move_57 ?_
          refine li_iconst hx hb dX2_move_60 ?_
          refine lv_iload_n hx hb dX2_move_61 rfl (lv_at hl 1 rfl) ?_
          refine li_imul hx hb dX2_move_62 ?_
          refine lv_iload_n hx hb dX2_move_63 rfl (lv_at hl 2 rfl) ?_
          refine li_iadd hx hb dX2_move_64 ?_
          refine lv_dup2_11 hx hb dX2_move_65 rfl rfl ?_
          refine bl_13 (i := p) (a := a) hx hb hK hU (by omega) (by omega) (by omega) (by omega) dX2_move_66 ?_
          have b5 := bB7 hBt h1 (a := a) (by omega) (by omega)
          refine lv_iload_n hx hb dX2_move_67 rfl (lv_at hl 3 rfl) ?_
          refine li_iadd hx hb dX2_move_68 ?_
          refine bs_13 (i := p) (a := a) hx hb hK hU hlc (by omega) (by omega) (by omega) (by omega) dX2_move_69 (fun H locs hU hF1 hlc => ?_)
          have hF := hF.tr hF1
          refine lv_aload_n hx hb dX2_move_70 rfl (lv_at hl 0 rfl) ?_
          refine bg_X2_highs hx hb hts hinX2 hown hK hU (hts (.fieldLink RX2 29 "ClashBoxesModel" "highs" "[I") (by decide +kernel)) dX2_move_71 ?_
          refine li_iconst hx hb dX2_move_74 ?_
          refine lv_iload_n hx hb dX2_move_75 rfl (lv_at hl 1 rfl) ?_
          refine li_imul hx hb dX2_move_76 ?_
          refine lv_iload_n hx hb dX2_move_77 rfl (lv_at hl 2 rfl) ?_
          refine li_iadd hx hb dX2_move_78 ?_
          refine lv_dup2_11 hx hb dX2_move_79 rfl rfl ?_
          refine bl_14 (i := p) (a := a) hx hb hK hU (by omega) (by omega) (by omega) (by omega) dX2_move_80 ?_
          refine W.eq (g2 := F0 mI 81 ls [.int (iI (τ 8 p a)), .int (iI ((3 * p) + a)), .ref (ad 14 0)]) rfl ?_
          have b6 := bB7 hBt h1 (a := a) (by omega) (by omega)
          refine lv_iload_n hx hb dX2_move_81 rfl (lv_at hl 3 rfl) ?_
          refine li_iadd hx hb dX2_move_82 ?_
          refine bs_14 (i := p) (a := a) hx hb hK hU hlc (by omega) (by omega) (by omega) (by omega) dX2_move_83 (fun H locs hU hF1 hlc => ?_)
          have hF := hF.tr hF1
          refine li_iconst hx hb dX2_move_84 ?_
          refine bw_z hx hb hr hlocks (by first | (rw [if_pos (by omega)]; exact hU) | (rw [if_neg (by omega)]; exact hU)) hF hlc (by omega) ?_ dX2_move_85
          first | (rw [if_pos (by omega)]) | (rw [if_neg (by omega)])
        · refine li_if_ne (tgt := 56) hx hb (by unfold iR; omega) dX2_move_51 (by decide) (fun h => absurd (by decide) h) (fun _ => ?_)
          refine li_iconst hx hb dX2_move_54 ?_
          refine bw_z hx hb hr hlocks (by first | (rw [if_pos (by omega)]; exact hU) | (rw [if_neg (by omega)]; exact hU)) hF hlc (by omega) ?_ dX2_move_55
          first | (rw [if_pos (by omega)]) | (rw [if_neg (by omega)])
      · refine li_if_ne (tgt := 33) hx hb (by unfold iR; omega) dX2_move_26 (by decide) (fun h => absurd (by decide) h) (fun _ => ?_)
        refine li_iconst hx hb dX2_move_29 ?_
        refine lv_goto (tgt := 34) hx hb dX2_move_30 (by decide) ?_
        exfalso
        omega
    · refine li_if_eq (tgt := 29) hx hb (by unfold iR; omega) dX2_move_13 (by decide) (fun _ => ?_) (fun h => absurd (by decide) h)
      refine li_iconst hx hb dX2_move_29 ?_
      refine lv_goto (tgt := 34) hx hb dX2_move_30 (by decide) ?_
      exfalso
      omega
  · refine li_if_eq (tgt := 29) hx hb (by unfold iR; omega) dX2_move_6 (by decide) (fun _ => ?_) (fun h => absurd (by decide) h)
    refine li_iconst hx hb dX2_move_29 ?_
    refine lv_goto (tgt := 34) hx hb dX2_move_30 (by decide) ?_
    exfalso
    omega

set_option maxHeartbeats 4000000 in
set_option maxRecDepth 100000 in
theorem c_X2_move_f (l : Launch) (g : bxG) (ad : bxA) (σ τ : bxS) (w : bxW) (p a d : Int) (hRp : iR p) (hRa : iR a) (hRd : iR d) (hBt : bx_B τ) (hg : ¬ ((0 ≤ p ∧ p < 60 ∧ τ 2 p 0 ≠ 0) ∧ (0 ≤ a ∧ a ≤ 2) ∧ -1000 ≤ d ∧ d ≤ 1000)) : Met l yX2_move wsX2_move ({ frames := 2, cells := 0, slots := 0, locals := 43 }) (va_Pc [.ref (ad 7 0), .int (iI p), .int (iI a), .int (iI d)] (fun U => bx_I g ad σ τ w U)) (bq_W (some (.int (iI 0))) g ad σ τ (w.1, 1)) 0 0 (bq_fr g) := by
  refine Met.ofW (cc := cX2_move) (maxL := 4) (ret := (some .boolean)) (by decide) rfl ?_
  intro Pg Ev s mI args below meth cd s₁ B hml hv
  obtain ⟨rfl, hU, hK⟩ := hv
  have hx := B.exec
  have hb := B.bytes
  have hr := B.returns
  have hts := atoms_spec (ws := wsX2_move) B.pre
  have hown : s.vm.findClass RX2 = some mI.cls := findClass_of_methodNamed B.named
  have hlocks := B.notSynchronized
  have hF : bx_F g s.heap s.heap := bx_F.rf
  have hlc : bx_Lc g [] := bx_Lc.nil
  have hl := lv_entry ([.ref (ad 7 0), .int (iI p), .int (iI a), .int (iI d)]) (n := 4) (Nat.le_of_ble_eq_true rfl)
  rw [lg_entry_eq]
  generalize (lg_sl ([.ref (ad 7 0), .int (iI p), .int (iI a), .int (iI d)]) ++ List.replicate (4 - (lg_sl ([.ref (ad 7 0), .int (iI p), .int (iI a), .int (iI d)])).length) Slot.unset).toArray = ls at hl ⊢
  have hl : lv_has ls 4 [(0, .ref (ad 7 0)), (1, .int (iI p)), (2, .int (iI a)), (3, .int (iI d))] := hl
  have hinX2 : ∀ w ∈ wsX20, w ∈ wsX2_move := by decide +kernel
  have hRp0 : -2147483648 ≤ p ∧ p < 2147483648 := hRp
  have hRa0 : -2147483648 ≤ a ∧ a < 2147483648 := hRa
  have hRd0 : -2147483648 ≤ d ∧ d < 2147483648 := hRd
  refine lv_aload_n hx hb dX2_move_0 rfl (lv_at hl 0 rfl) ?_
  refine lv_aload_n hx hb dX2_move_1 rfl (lv_at hl 0 rfl) ?_
  refine lv_iload_n hx hb dX2_move_2 rfl (lv_at hl 1 rfl) ?_
  refine bc_VB (As := [.int (iI p)]) (rest := [.ref (ad 7 0)]) (kd := 7) (k := 0) (ci := 2) ⟨hx, hb, hml, hown, hts⟩ (c_X2_isPart l g ad σ τ w p (by unfold iR; omega) hBt) (cwV 1 hts gX2_move_X2_isPart rfl rfl rfl (by decide +kernel) ⟨Nat.le_of_ble_eq_true rfl, Nat.le_of_ble_eq_true rfl⟩) hK hU (bx_L0 (by omega)) rfl rfl rfl hl.1 rfl (Nat.le_of_ble_eq_true rfl) dX2_move_3 ⟨Nat.le_of_ble_eq_true rfl, Nat.le_of_ble_eq_true rfl⟩ (fun h1 => ?_) (fun h1 => ?_)
  · refine li_if_eq (tgt := 29) hx hb (by unfold iR; omega) dX2_move_6 (by decide) (fun h => absurd h (by decide)) (fun _ => ?_)
    refine lv_iload_n hx hb dX2_move_9 rfl (lv_at hl 2 rfl) ?_
    refine bc_SB (As := [.int (iI a)]) (rest := [.ref (ad 7 0)]) ⟨hx, hb, hml, hown, hts⟩ (c_X2_isAxis l g ad σ τ w a (by unfold iR; omega)) (va_cwS 1 hts gX2_move_X2_isAxis rfl rfl rfl (by decide +kernel) ⟨Nat.le_of_ble_eq_true rfl, Nat.le_of_ble_eq_true rfl⟩) hK hU  rfl hl.1 rfl (Nat.le_of_ble_eq_true rfl) dX2_move_10 ⟨Nat.le_of_ble_eq_true rfl, Nat.le_of_ble_eq_true rfl⟩ (fun h2 => ?_) (fun h2 => ?_)
    · refine li_if_eq (tgt := 29) hx hb (by unfold iR; omega) dX2_move_13 (by decide) (fun h => absurd h (by decide)) (fun _ => ?_)
      refine lv_iload_n hx hb dX2_move_16 rfl (lv_at hl 3 rfl) ?_
      refine li_sipush hx hb dX2_move_17 (by decide) ?_
      refine li_sipush hx hb dX2_move_20 (by decide) ?_
      refine bc_SB (As := [.int (iI d), .int (iI (-1000)), .int (iI 1000)]) (rest := [.ref (ad 7 0)]) ⟨hx, hb, hml, hown, hts⟩ (c_X2_isIn l g ad σ τ w d (-1000) 1000 (by unfold iR; omega) (by unfold iR; omega) (by unfold iR; omega)) (va_cwS 3 hts gX2_move_X2_isIn rfl rfl rfl (by decide +kernel) ⟨Nat.le_of_ble_eq_true rfl, Nat.le_of_ble_eq_true rfl⟩) hK hU  rfl hl.1 rfl (Nat.le_of_ble_eq_true rfl) dX2_move_23 ⟨Nat.le_of_ble_eq_true rfl, Nat.le_of_ble_eq_true rfl⟩ (fun h3 => ?_) (fun h3 => ?_)
      · refine li_if_ne (tgt := 33) hx hb (by unfold iR; omega) dX2_move_26 (by decide) (fun _ => ?_) (fun h => absurd h (by decide))
        refine li_iconst hx hb dX2_move_33 ?_
        exfalso
        omega
      · refine li_if_ne (tgt := 33) hx hb (by unfold iR; omega) dX2_move_26 (by decide) (fun h => absurd (by decide) h) (fun _ => ?_)
        refine li_iconst hx hb dX2_move_29 ?_
        refine lv_goto (tgt := 34) hx hb dX2_move_30 (by decide) ?_
        refine bp_X2_code hx hb hts hinX2 hown hK hU hlc (hts (.fieldLink RX2 42 "ClashBoxesModel" "code" "I") (by decide +kernel)) dX2_move_34 (fun H locs hU hF1 hlc => ?_)
        have hF := hF.tr hF1
        have hU : bx_U g ad σ τ (w.1, 1) H := hU
        refine lv_aload_n hx hb dX2_move_37 rfl (lv_at hl 0 rfl) ?_
        refine bg_X2_code hx hb hts hinX2 hown hK hU (hts (.fieldLink RX2 42 "ClashBoxesModel" "code" "I") (by decide +kernel)) dX2_move_38 ?_
        refine W.eq (g2 := F0 mI 41 ls [.int (iI 1)]) rfl ?_
        refine li_if_gt (tgt := 54) hx hb (by unfold iR; omega) dX2_move_41 (by decide) (fun _ => ?_) (fun h => absurd (by decide) h)
        refine li_iconst hx hb dX2_move_54 ?_
        refine bw_z hx hb hr hlocks (by first | exact hU | simpa using hU) hF hlc (by omega) ?_ dX2_move_55
        rfl
    · refine li_if_eq (tgt := 29) hx hb (by unfold iR; omega) dX2_move_13 (by decide) (fun _ => ?_) (fun h => absurd (by decide) h)
      refine li_iconst hx hb dX2_move_29 ?_
      refine lv_goto (tgt := 34) hx hb dX2_move_30 (by decide) ?_
      refine bp_X2_code hx hb hts hinX2 hown hK hU hlc (hts (.fieldLink RX2 42 "ClashBoxesModel" "code" "I") (by decide +kernel)) dX2_move_34 (fun H locs hU hF1 hlc => ?_)
      have hF := hF.tr hF1
      have hU : bx_U g ad σ τ (w.1, 1) H := hU
      refine lv_aload_n hx hb dX2_move_37 rfl (lv_at hl 0 rfl) ?_
      refine bg_X2_code hx hb hts hinX2 hown hK hU (hts (.fieldLink RX2 42 "ClashBoxesModel" "code" "I") (by decide +kernel)) dX2_move_38 ?_
      refine W.eq (g2 := F0 mI 41 ls [.int (iI 1)]) rfl ?_
      refine li_if_gt (tgt := 54) hx hb (by unfold iR; omega) dX2_move_41 (by decide) (fun _ => ?_) (fun h => absurd (by decide) h)
      refine li_iconst hx hb dX2_move_54 ?_
      refine bw_z hx hb hr hlocks (by first | exact hU | simpa using hU) hF hlc (by omega) ?_ dX2_move_55
      rfl
  · refine li_if_eq (tgt := 29) hx hb (by unfold iR; omega) dX2_move_6 (by decide) (fun _ => ?_) (fun h => absurd (by decide) h)
    refine li_iconst hx hb dX2_move_29 ?_
    refine lv_goto (tgt := 34) hx hb dX2_move_30 (by decide) ?_
    refine bp_X2_code hx hb hts hinX2 hown hK hU hlc (hts (.fieldLink RX2 42 "ClashBoxesModel" "code" "I") (by decide +kernel)) dX2_move_34 (fun H locs hU hF1 hlc => ?_)
    have hF := hF.tr hF1
    have hU : bx_U g ad σ τ (w.1, 1) H := hU
    refine lv_aload_n hx hb dX2_move_37 rfl (lv_at hl 0 rfl) ?_
    refine bg_X2_code hx hb hts hinX2 hown hK hU (hts (.fieldLink RX2 42 "ClashBoxesModel" "code" "I") (by decide +kernel)) dX2_move_38 ?_
    refine W.eq (g2 := F0 mI 41 ls [.int (iI 1)]) rfl ?_
    refine li_if_gt (tgt := 54) hx hb (by unfold iR; omega) dX2_move_41 (by decide) (fun _ => ?_) (fun h => absurd (by decide) h)
    refine li_iconst hx hb dX2_move_54 ?_
    refine bw_z hx hb hr hlocks (by first | exact hU | simpa using hU) hF hlc (by omega) ?_ dX2_move_55
    rfl

set_option maxHeartbeats 4000000 in
set_option maxRecDepth 100000 in
theorem c_X2_drop_t (l : Launch) (g : bxG) (ad : bxA) (σ τ : bxS) (w : bxW) (p : Int) (hRp : iR p) (hBt : bx_B τ) (hg : 0 ≤ p ∧ p < 60 ∧ τ 2 p 0 ≠ 0) : Met l yX2_drop wsX2_drop ({ frames := 2, cells := 0, slots := 0, locals := 43 }) (va_Pc [.ref (ad 7 0), .int (iI p)] (fun U => bx_I g ad σ τ w U)) (bq_W (some (.int (iI (τ 1 0 0 - 1)))) g ad σ (up3 (up3 τ 2 p 0 0) 1 0 0 (τ 1 0 0 - 1)) (w.1, 0)) 0 0 (bq_fr g) := by
  refine Met.ofW (cc := cX2_drop) (maxL := 2) (ret := (some .int)) (by decide) rfl ?_
  intro Pg Ev s mI args below meth cd s₁ B hml hv
  obtain ⟨rfl, hU, hK⟩ := hv
  have hx := B.exec
  have hb := B.bytes
  have hr := B.returns
  have hts := atoms_spec (ws := wsX2_drop) B.pre
  have hown : s.vm.findClass RX2 = some mI.cls := findClass_of_methodNamed B.named
  have hlocks := B.notSynchronized
  have hF : bx_F g s.heap s.heap := bx_F.rf
  have hlc : bx_Lc g [] := bx_Lc.nil
  have hl := lv_entry ([.ref (ad 7 0), .int (iI p)]) (n := 2) (Nat.le_of_ble_eq_true rfl)
  rw [lg_entry_eq]
  generalize (lg_sl ([.ref (ad 7 0), .int (iI p)]) ++ List.replicate (2 - (lg_sl ([.ref (ad 7 0), .int (iI p)])).length) Slot.unset).toArray = ls at hl ⊢
  have hl : lv_has ls 2 [(0, .ref (ad 7 0)), (1, .int (iI p))] := hl
  have hinX2 : ∀ w ∈ wsX20, w ∈ wsX2_drop := by decide +kernel
  have hRp0 : -2147483648 ≤ p ∧ p < 2147483648 := hRp
  refine lv_aload_n hx hb dX2_drop_0 rfl (lv_at hl 0 rfl) ?_
  refine lv_aload_n hx hb dX2_drop_1 rfl (lv_at hl 0 rfl) ?_
  refine lv_iload_n hx hb dX2_drop_2 rfl (lv_at hl 1 rfl) ?_
  refine bc_VB (As := [.int (iI p)]) (rest := [.ref (ad 7 0)]) (kd := 7) (k := 0) (ci := 2) ⟨hx, hb, hml, hown, hts⟩ (c_X2_isPart l g ad σ τ w p (by unfold iR; omega) hBt) (cwV 1 hts gX2_drop_X2_isPart rfl rfl rfl (by decide +kernel) ⟨Nat.le_of_ble_eq_true rfl, Nat.le_of_ble_eq_true rfl⟩) hK hU (bx_L0 (by omega)) rfl rfl rfl hl.1 rfl (Nat.le_of_ble_eq_true rfl) dX2_drop_3 ⟨Nat.le_of_ble_eq_true rfl, Nat.le_of_ble_eq_true rfl⟩ (fun h1 => ?_) (fun h1 => ?_)
  · refine li_if_eq (tgt := 13) hx hb (by unfold iR; omega) dX2_drop_6 (by decide) (fun h => absurd h (by decide)) (fun _ => ?_)
    refine li_iconst hx hb dX2_drop_9 ?_
    refine lv_goto (tgt := 14) hx hb dX2_drop_10 (by decide) ?_
    refine bp_X2_code hx hb hts hinX2 hown hK hU hlc (hts (.fieldLink RX2 42 "ClashBoxesModel" "code" "I") (by decide +kernel)) dX2_drop_14 (fun H locs hU hF1 hlc => ?_)
    have hF := hF.tr hF1
    have hU : bx_U g ad σ τ (w.1, 0) H := hU
    refine lv_aload_n hx hb dX2_drop_17 rfl (lv_at hl 0 rfl) ?_
    refine bg_X2_code hx hb hts hinX2 hown hK hU (hts (.fieldLink RX2 42 "ClashBoxesModel" "code" "I") (by decide +kernel)) dX2_drop_18 ?_
    refine W.eq (g2 := F0 mI 21 ls [.int (iI 0)]) rfl ?_
    refine li_if_le (tgt := 26) hx hb (by unfold iR; omega) dX2_drop_21 (by decide) (fun _ => ?_) (fun h => absurd (by decide) h)
    refine lv_aload_n hx hb dX2_drop_26 rfl (lv_at hl 0 rfl) ?_
    refine bg_X2_isThere hx hb hts hinX2 hown hK hU (hts (.fieldLink RX2 7 "ClashBoxesModel" "isThere" "[Z") (by decide +kernel)) dX2_drop_27 ?_
    refine lv_iload_n hx hb dX2_drop_30 rfl (lv_at hl 1 rfl) ?_
    refine li_iconst hx hb dX2_drop_31 ?_
    refine bs_8 hx hb hK hU hlc (by omega) (by omega) (by omega) dX2_drop_32 (fun H locs hU hF1 hlc => ?_)
    have hF := hF.tr hF1
    refine lv_aload_n hx hb dX2_drop_33 rfl (lv_at hl 0 rfl) ?_
    refine lv_dup hx hb dX2_drop_34 rfl ?_
    refine bg_X2_count hx hb hts hinX2 hown hK hU (hts (.fieldLink RX2 52 "ClashBoxesModel" "count" "I") (by decide +kernel)) dX2_drop_35 ?_
    refine W.eq (g2 := F0 mI 38 ls [.int (iI (τ 1 0 0)), .ref (ad 7 0)]) rfl ?_
    refine li_iconst hx hb dX2_drop_38 ?_
    refine li_isub hx hb dX2_drop_39 ?_
    refine bp_X2_count hx hb hts hinX2 hown hK hU hlc (hts (.fieldLink RX2 52 "ClashBoxesModel" "count" "I") (by decide +kernel)) dX2_drop_40 (fun H locs hU hF1 hlc => ?_)
    have hF := hF.tr hF1
    refine lv_aload_n hx hb dX2_drop_43 rfl (lv_at hl 0 rfl) ?_
    refine bg_X2_count hx hb hts hinX2 hown hK hU (hts (.fieldLink RX2 52 "ClashBoxesModel" "count" "I") (by decide +kernel)) dX2_drop_44 ?_
    refine W.eq (g2 := F0 mI 47 ls [.int (iI ((τ 1 0 0) - 1))]) rfl ?_
    refine bw_i hx hb hr hlocks (by first | exact hU | simpa using hU) hF hlc ?_ dX2_drop_47
    rfl
  · refine li_if_eq (tgt := 13) hx hb (by unfold iR; omega) dX2_drop_6 (by decide) (fun _ => ?_) (fun h => absurd (by decide) h)
    refine li_iconst hx hb dX2_drop_13 ?_
    exfalso
    omega

set_option maxHeartbeats 4000000 in
set_option maxRecDepth 100000 in
theorem c_X2_drop_f (l : Launch) (g : bxG) (ad : bxA) (σ τ : bxS) (w : bxW) (p : Int) (hRp : iR p) (hBt : bx_B τ) (hg : ¬ (0 ≤ p ∧ p < 60 ∧ τ 2 p 0 ≠ 0)) : Met l yX2_drop wsX2_drop ({ frames := 2, cells := 0, slots := 0, locals := 43 }) (va_Pc [.ref (ad 7 0), .int (iI p)] (fun U => bx_I g ad σ τ w U)) (bq_W (some (.int (iI 0))) g ad σ τ (w.1, 1)) 0 0 (bq_fr g) := by
  refine Met.ofW (cc := cX2_drop) (maxL := 2) (ret := (some .int)) (by decide) rfl ?_
  intro Pg Ev s mI args below meth cd s₁ B hml hv
  obtain ⟨rfl, hU, hK⟩ := hv
  have hx := B.exec
  have hb := B.bytes
  have hr := B.returns
  have hts := atoms_spec (ws := wsX2_drop) B.pre
  have hown : s.vm.findClass RX2 = some mI.cls := findClass_of_methodNamed B.named
  have hlocks := B.notSynchronized
  have hF : bx_F g s.heap s.heap := bx_F.rf
  have hlc : bx_Lc g [] := bx_Lc.nil
  have hl := lv_entry ([.ref (ad 7 0), .int (iI p)]) (n := 2) (Nat.le_of_ble_eq_true rfl)
  rw [lg_entry_eq]
  generalize (lg_sl ([.ref (ad 7 0), .int (iI p)]) ++ List.replicate (2 - (lg_sl ([.ref (ad 7 0), .int (iI p)])).length) Slot.unset).toArray = ls at hl ⊢
  have hl : lv_has ls 2 [(0, .ref (ad 7 0)), (1, .int (iI p))] := hl
  have hinX2 : ∀ w ∈ wsX20, w ∈ wsX2_drop := by decide +kernel
  have hRp0 : -2147483648 ≤ p ∧ p < 2147483648 := hRp
  refine lv_aload_n hx hb dX2_drop_0 rfl (lv_at hl 0 rfl) ?_
  refine lv_aload_n hx hb dX2_drop_1 rfl (lv_at hl 0 rfl) ?_
  refine lv_iload_n hx hb dX2_drop_2 rfl (lv_at hl 1 rfl) ?_
  refine bc_VB (As := [.int (iI p)]) (rest := [.ref (ad 7 0)]) (kd := 7) (k := 0) (ci := 2) ⟨hx, hb, hml, hown, hts⟩ (c_X2_isPart l g ad σ τ w p (by unfold iR; omega) hBt) (cwV 1 hts gX2_drop_X2_isPart rfl rfl rfl (by decide +kernel) ⟨Nat.le_of_ble_eq_true rfl, Nat.le_of_ble_eq_true rfl⟩) hK hU (bx_L0 (by omega)) rfl rfl rfl hl.1 rfl (Nat.le_of_ble_eq_true rfl) dX2_drop_3 ⟨Nat.le_of_ble_eq_true rfl, Nat.le_of_ble_eq_true rfl⟩ (fun h1 => ?_) (fun h1 => ?_)
  · refine li_if_eq (tgt := 13) hx hb (by unfold iR; omega) dX2_drop_6 (by decide) (fun h => absurd h (by decide)) (fun _ => ?_)
    refine li_iconst hx hb dX2_drop_9 ?_
    refine lv_goto (tgt := 14) hx hb dX2_drop_10 (by decide) ?_
    exfalso
    omega
  · refine li_if_eq (tgt := 13) hx hb (by unfold iR; omega) dX2_drop_6 (by decide) (fun _ => ?_) (fun h => absurd (by decide) h)
    refine li_iconst hx hb dX2_drop_13 ?_
    refine bp_X2_code hx hb hts hinX2 hown hK hU hlc (hts (.fieldLink RX2 42 "ClashBoxesModel" "code" "I") (by decide +kernel)) dX2_drop_14 (fun H locs hU hF1 hlc => ?_)
    have hF := hF.tr hF1
    have hU : bx_U g ad σ τ (w.1, 1) H := hU
    refine lv_aload_n hx hb dX2_drop_17 rfl (lv_at hl 0 rfl) ?_
    refine bg_X2_code hx hb hts hinX2 hown hK hU (hts (.fieldLink RX2 42 "ClashBoxesModel" "code" "I") (by decide +kernel)) dX2_drop_18 ?_
    refine W.eq (g2 := F0 mI 21 ls [.int (iI 1)]) rfl ?_
    refine li_if_le (tgt := 26) hx hb (by unfold iR; omega) dX2_drop_21 (by decide) (fun h => absurd h (by decide)) (fun _ => ?_)
    refine li_iconst hx hb dX2_drop_24 ?_
    refine bw_i hx hb hr hlocks (by first | exact hU | simpa using hU) hF hlc ?_ dX2_drop_25
    rfl

set_option maxHeartbeats 4000000 in
set_option maxRecDepth 100000 in
theorem c_X2_parts_t (l : Launch) (g : bxG) (ad : bxA) (σ τ : bxS) (w : bxW) : Met l yX2_parts wsX2_parts ({ frames := 0, cells := 0, slots := 0, locals := 0 }) (va_Pc [.ref (ad 7 0)] (fun U => bx_I g ad σ τ w U)) (bq_W (some (.int (iI (τ 1 0 0)))) g ad σ τ (w.1, 0)) 0 0 (bq_fr g) := by
  refine Met.ofW (cc := cX2_parts) (maxL := 1) (ret := (some .int)) (by decide) rfl ?_
  intro Pg Ev s mI args below meth cd s₁ B hml hv
  obtain ⟨rfl, hU, hK⟩ := hv
  have hx := B.exec
  have hb := B.bytes
  have hr := B.returns
  have hts := atoms_spec (ws := wsX2_parts) B.pre
  have hown : s.vm.findClass RX2 = some mI.cls := findClass_of_methodNamed B.named
  have hlocks := B.notSynchronized
  have hF : bx_F g s.heap s.heap := bx_F.rf
  have hlc : bx_Lc g [] := bx_Lc.nil
  have hl := lv_entry ([.ref (ad 7 0)]) (n := 1) (Nat.le_of_ble_eq_true rfl)
  rw [lg_entry_eq]
  generalize (lg_sl ([.ref (ad 7 0)]) ++ List.replicate (1 - (lg_sl ([.ref (ad 7 0)])).length) Slot.unset).toArray = ls at hl ⊢
  have hl : lv_has ls 1 [(0, .ref (ad 7 0))] := hl
  have hinX2 : ∀ w ∈ wsX20, w ∈ wsX2_parts := by decide +kernel
  refine lv_aload_n hx hb dX2_parts_0 rfl (lv_at hl 0 rfl) ?_
  refine li_iconst hx hb dX2_parts_1 ?_
  refine bp_X2_code hx hb hts hinX2 hown hK hU hlc (hts (.fieldLink RX2 42 "ClashBoxesModel" "code" "I") (by decide +kernel)) dX2_parts_2 (fun H locs hU hF1 hlc => ?_)
  have hF := hF.tr hF1
  have hU : bx_U g ad σ τ (w.1, 0) H := hU
  refine lv_aload_n hx hb dX2_parts_5 rfl (lv_at hl 0 rfl) ?_
  refine bg_X2_count hx hb hts hinX2 hown hK hU (hts (.fieldLink RX2 52 "ClashBoxesModel" "count" "I") (by decide +kernel)) dX2_parts_6 ?_
  refine bw_i hx hb hr hlocks (by first | exact hU | simpa using hU) hF hlc ?_ dX2_parts_9
  rfl
