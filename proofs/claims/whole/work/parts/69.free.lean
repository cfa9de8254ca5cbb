set_option maxHeartbeats 4000000 in
set_option maxRecDepth 100000 in
theorem c_X1_blockAt (l : Launch) (g : bxG) (ad : bxA) (σ τ : bxS) (w : bxW) (L : Int → Int) (G : Int → Int) (b n : Int) (hRb : iR b) (hn : 0 ≤ n ∧ n ≤ 60) (hLG : lgB L G n) : Met l yX1_blockAt wsX1_blockAt ({ frames := 1, cells := 0, slots := 0, locals := 22 }) (va_Pc [.ref (ad 0 0), .int (iI b), .int (iI n)] (fun U => bx_I g ad (setF (setF σ 12 L) 13 G) τ w U)) (k2_QcV (.int (iI (bAt L G n b)))) 0 0 (fun _ => False) := by
  refine Met.ofW (cc := cX1_blockAt) (maxL := 4) (ret := (some .int)) (by decide) rfl ?_
  intro Pg Ev s mI args below meth cd s₁ B hml hv
  obtain ⟨rfl, hU, hK⟩ := hv
  have hx := B.exec
  have hb := B.bytes
  have hr := B.returns
  have hts := atoms_spec (ws := wsX1_blockAt) B.pre
  have hown : s.vm.findClass RX1 = some mI.cls := findClass_of_methodNamed B.named
  have hlocks := B.notSynchronized
  have hl := lv_entry ([.ref (ad 0 0), .int (iI b), .int (iI n)]) (n := 4) (Nat.le_of_ble_eq_true rfl)
  rw [lg_entry_eq]
  generalize (lg_sl ([.ref (ad 0 0), .int (iI b), .int (iI n)]) ++ List.replicate (4 - (lg_sl ([.ref (ad 0 0), .int (iI b), .int (iI n)])).length) Slot.unset).toArray = ls at hl ⊢
  have hl : lv_has ls 4 [(0, .ref (ad 0 0)), (1, .int (iI b)), (2, .int (iI n))] := hl
  have hinX1 : ∀ w ∈ wsX10, w ∈ wsX1_blockAt := by decide +kernel
  have hRb0 : -2147483648 ≤ b ∧ b < 2147483648 := hRb
  refine li_iconst hx hb dX1_blockAt_0 ?_
  refine lv_istore_n (lv' := [(3, .int (iI 0)), (0, .ref (ad 0 0)), (1, .int (iI b)), (2, .int (iI n))]) hx hb dX1_blockAt_1 rfl hl (by decide) rfl (fun ls hl => ?_)
  refine bl_loop (V := Int) (nL := 4) (I := fun v => [(3, .int (iI v)), (0, .ref (ad 0 0)), (1, .int (iI b)), (2, .int (iI n))]) (Inv := fun v => (0 ≤ v ∧ v ≤ n) ∧ (nth (inB L G b) v n 0 = bAt L G n b)) (μ := fun v => 60 - v) ?_ (0) (show (0 ≤ 0 ∧ 0 ≤ n) ∧ (nth (inB L G b) 0 n 0 = bAt L G n b) from ⟨by omega, rfl⟩) ls (lv_sub hl [0, 1, 2, 3] rfl)
  intro i1 hI ih1 ls hl
  have hI : (0 ≤ i1 ∧ i1 ≤ n) ∧ (nth (inB L G b) i1 n 0 = bAt L G n b) := hI
  obtain ⟨ha1, hc1⟩ := hI
  have hl : lv_has ls 4 [(3, .int (iI i1)), (0, .ref (ad 0 0)), (1, .int (iI b)), (2, .int (iI n))] := hl
  refine lv_iload_n hx hb dX1_blockAt_2 rfl (lv_at hl 0 rfl) ?_
  refine lv_iload_n hx hb dX1_blockAt_3 rfl (lv_at hl 3 rfl) ?_
  refine li_icmp_ge (tgt := 34) hx hb (by unfold iR; omega) (by unfold iR; omega) dX1_blockAt_4 (by decide) (fun h2 => ?_) (fun h2 => ?_)
  · refine li_iconst hx hb dX1_blockAt_34 ?_
    refine be_i hx hb hr hlocks ?_ dX1_blockAt_35
    rw [← hc1, nth_end _ _ (by omega)]
  · have hlg := hLG i1 (by omega) (by omega)
    refine lv_iload_n hx hb dX1_blockAt_7 rfl (lv_at hl 2 rfl) ?_
    refine lv_aload_n hx hb dX1_blockAt_8 rfl (lv_at hl 1 rfl) ?_
    refine bg_X1_blockLeast hx hb hts hinX1 hown hK hU (hts (.fieldLink RX1 33 "ClashBoxes" "blockLeast" "[I") (by decide +kernel)) dX1_blockAt_9 ?_
    refine lv_iload_n hx hb dX1_blockAt_12 rfl (lv_at hl 0 rfl) ?_
    refine bl_5 hx hb hK hU (by omega) (by omega) dX1_blockAt_13 ?_
    refine W.eq (g2 := F0 mI 14 ls [.int (iI (L i1)), .int (iI b)]) rfl ?_
    refine lv_aload_n hx hb dX1_blockAt_14 rfl (lv_at hl 1 rfl) ?_
    refine bg_X1_blockGreatest hx hb hts hinX1 hown hK hU (hts (.fieldLink RX1 36 "ClashBoxes" "blockGreatest" "[I") (by decide +kernel)) dX1_blockAt_15 ?_
    refine lv_iload_n hx hb dX1_blockAt_18 rfl (lv_at hl 0 rfl) ?_
    refine bl_6 hx hb hK hU (by omega) (by omega) dX1_blockAt_19 ?_
    refine W.eq (g2 := F0 mI 20 ls [.int (iI (G i1)), .int (iI (L i1)), .int (iI b)]) rfl ?_
    refine bc_SB (As := [.int (iI b), .int (iI (L i1)), .int (iI (G i1))]) (rest := []) ⟨hx, hb, hml, hown, hts⟩ (c_X1_isWithin l g ad (setF (setF σ 12 L) 13 G) τ w b (L i1) (G i1) (by unfold iR; omega) (by unfold iR; omega) (by unfold iR; omega)) (va_cwS 3 hts gX1_blockAt_X1_isWithin rfl rfl rfl (by decide +kernel) ⟨Nat.le_of_ble_eq_true rfl, Nat.le_of_ble_eq_true rfl⟩) hK hU  rfl hl.1 rfl (Nat.le_of_ble_eq_true rfl) dX1_blockAt_20 ⟨Nat.zero_le _, Nat.zero_le _⟩ (fun h5 => ?_) (fun h5 => ?_)
    · refine li_if_eq (tgt := 28) hx hb (by unfold iR; omega) dX1_blockAt_23 (by decide) (fun h => absurd h (by decide)) (fun _ => ?_)
      refine lv_iload_n hx hb dX1_blockAt_26 rfl (lv_at hl 0 rfl) ?_
      refine be_i hx hb hr hlocks ?_ dX1_blockAt_27
      rw [← hc1, nth_t (i := i1) 0 (by omega) h5, if_pos rfl]
    · refine li_if_eq (tgt := 28) hx hb (by unfold iR; omega) dX1_blockAt_23 (by decide) (fun _ => ?_) (fun h => absurd (by decide) h)
      refine li_iinc (k0 := 0) (lv' := [(3, .int (iI (i1 + 1))), (0, .ref (ad 0 0)), (1, .int (iI b)), (2, .int (iI n))]) hx hb dX1_blockAt_28 hl rfl (by decide) rfl (fun ls hl => ?_)
      refine lv_goto (tgt := 2) hx hb dX1_blockAt_31 (by decide) ?_
      exact ih1 (i1 + 1) (show (0 ≤ (i1 + 1) ∧ (i1 + 1) ≤ n) ∧ (nth (inB L G b) (i1 + 1) n 0 = bAt L G n b) from ⟨by omega, by rw [← hc1, nth_f (i := i1) 0 (by omega) h5]⟩) (show 0 ≤ 60 - (i1 + 1) by omega) (show 60 - (i1 + 1) < 60 - i1 by omega) ls (lv_sub hl [0, 1, 2, 3] rfl)

set_option maxHeartbeats 4000000 in
set_option maxRecDepth 100000 in
theorem c_X1_freeShift (l : Launch) (g : bxG) (ad : bxA) (σ τ : bxS) (w : bxW) (L : Int → Int) (G : Int → Int) (n u : Int) (hn : 0 ≤ n ∧ n ≤ 60) (hu : u = 0 ∨ u = 1) (hLG : lgB L G n) : Met l yX1_freeShift wsX1_freeShift ({ frames := 2, cells := 0, slots := 0, locals := 45 }) (va_Pc [.ref (ad 0 0), .int (iI n), .int (iI u)] (fun U => bx_I g ad (setF (setF σ 12 L) 13 G) τ w U)) (k2_QcV (.int (iI (fsh L G n u)))) 0 0 (fun _ => False) := by
  refine Met.ofW (cc := cX1_freeShift) (maxL := 6) (ret := (some .int)) (by decide) rfl ?_
  intro Pg Ev s mI args below meth cd s₁ B hml hv
  obtain ⟨rfl, hU, hK⟩ := hv
  have hx := B.exec
  have hb := B.bytes
  have hr := B.returns
  have hts := atoms_spec (ws := wsX1_freeShift) B.pre
  have hown : s.vm.findClass RX1 = some mI.cls := findClass_of_methodNamed B.named
  have hlocks := B.notSynchronized
  have hl := lv_entry ([.ref (ad 0 0), .int (iI n), .int (iI u)]) (n := 6) (Nat.le_of_ble_eq_true rfl)
  rw [lg_entry_eq]
  generalize (lg_sl ([.ref (ad 0 0), .int (iI n), .int (iI u)]) ++ List.replicate (6 - (lg_sl ([.ref (ad 0 0), .int (iI n), .int (iI u)])).length) Slot.unset).toArray = ls at hl ⊢
  have hl : lv_has ls 6 [(0, .ref (ad 0 0)), (1, .int (iI n)), (2, .int (iI u))] := hl
  have hinX1 : ∀ w ∈ wsX10, w ∈ wsX1_freeShift := by decide +kernel
  refine li_iconst hx hb dX1_freeShift_0 ?_
  refine lv_istore_n (lv' := [(3, .int (iI 0)), (0, .ref (ad 0 0)), (1, .int (iI n)), (2, .int (iI u))]) hx hb dX1_freeShift_1 rfl hl (by decide) rfl (fun ls hl => ?_)
  refine li_iconst hx hb dX1_freeShift_2 ?_
  refine lv_istore (lv' := [(4, .int (iI 0)), (3, .int (iI 0)), (0, .ref (ad 0 0)), (1, .int (iI n)), (2, .int (iI u))]) hx hb dX1_freeShift_3 hl (by decide) rfl (fun ls hl => ?_)
  refine bl_loop (V := Int × Int) (nL := 6) (I := fun v => [(4, .int (iI v.1)), (3, .int (iI v.2)), (0, .ref (ad 0 0)), (1, .int (iI n)), (2, .int (iI u))]) (Inv := fun v => (0 ≤ v.1 ∧ v.1 ≤ n) ∧ (-1401 ≤ v.2 ∧ v.2 ≤ 1401) ∧ (fsN L G n u (n - v.1).toNat v.2 = fsh L G n u)) (μ := fun v => 60 - v.1) ?_ (0, 0) (show (0 ≤ 0 ∧ 0 ≤ n) ∧ (-1401 ≤ 0 ∧ 0 ≤ 1401) ∧ (fsN L G n u (n - 0).toNat 0 = fsh L G n u) from ⟨by omega, by omega, by rw [Int.sub_zero]; rfl⟩) ls (lv_sub hl [0, 1, 2, 3, 4] rfl)
  rintro ⟨i1, b1⟩ hI ih1 ls hl
  have hI : (0 ≤ i1 ∧ i1 ≤ n) ∧ (-1401 ≤ b1 ∧ b1 ≤ 1401) ∧ (fsN L G n u (n - i1).toNat b1 = fsh L G n u) := hI
  obtain ⟨ha1, hb1, hc1⟩ := hI
  have hl : lv_has ls 6 [(4, .int (iI i1)), (3, .int (iI b1)), (0, .ref (ad 0 0)), (1, .int (iI n)), (2, .int (iI u))] := hl
  refine lv_iload hx hb dX1_freeShift_5 (lv_at hl 0 rfl) ?_
  refine lv_iload_n hx hb dX1_freeShift_7 rfl (lv_at hl 3 rfl) ?_
  refine li_icmp_ge (tgt := 59) hx hb (by unfold iR; omega) (by unfold iR; omega) dX1_freeShift_8 (by decide) (fun h2 => ?_) (fun h2 => ?_)
  · refine lv_iload_n hx hb dX1_freeShift_59 rfl (lv_at hl 1 rfl) ?_
    refine be_i hx hb hr hlocks ?_ dX1_freeShift_60
    rw [← hc1, show (n - i1).toNat = 0 by omega]; rfl
  · refine lv_aload_n hx hb dX1_freeShift_11 rfl (lv_at hl 2 rfl) ?_
    refine lv_iload_n hx hb dX1_freeShift_12 rfl (lv_at hl 1 rfl) ?_
    refine lv_iload_n hx hb dX1_freeShift_13 rfl (lv_at hl 3 rfl) ?_
    refine bc_V (As := [.int (iI b1), .int (iI n)]) (rest := []) (kd := 0) (k := 0) (ci := 1) ⟨hx, hb, hml, hown, hts⟩ (c_X1_blockAt l g ad σ τ w L G b1 n (by unfold iR; omega) (by omega) hLG) (cwV 2 hts gX1_freeShift_X1_blockAt rfl rfl rfl (by decide +kernel) ⟨Nat.le_of_ble_eq_true rfl, Nat.le_of_ble_eq_true rfl⟩) hK hU (bx_L0 (by omega)) rfl rfl rfl hl.1 rfl (Nat.le_of_ble_eq_true rfl) dX1_freeShift_14 ⟨Nat.zero_le _, Nat.zero_le _⟩ ?_
    have h3 : bAt L G n b1 = -1 ∨ (0 ≤ bAt L G n b1 ∧ bAt L G n b1 < n ∧ inB L G b1 (bAt L G n b1)) := nth_bd (inB L G b1) 0 n 0
    refine lv_istore (lv' := [(5, .int (iI (bAt L G n b1))), (4, .int (iI i1)), (3, .int (iI b1)), (0, .ref (ad 0 0)), (1, .int (iI n)), (2, .int (iI u))]) hx hb dX1_freeShift_17 hl (by decide) rfl (fun ls hl => ?_)
    refine lv_iload hx hb dX1_freeShift_19 (lv_at hl 0 rfl) ?_
    refine li_iconst hx hb dX1_freeShift_21 ?_
    refine li_icmp_ne (tgt := 27) hx hb (by unfold iR; omega) (by unfold iR; omega) dX1_freeShift_22 (by decide) (fun h4 => ?_) (fun h4 => ?_)
    · have hlg := hLG (bAt L G n b1) (by omega) (by omega)
      refine lv_iload_n hx hb dX1_freeShift_27 rfl (lv_at hl 5 rfl) ?_
      refine li_if_eq (tgt := 43) hx hb (by unfold iR; omega) dX1_freeShift_28 (by decide) (fun h5 => ?_) (fun h5 => ?_)
      · refine lv_aload_n hx hb dX1_freeShift_43 rfl (lv_at hl 3 rfl) ?_
        refine bg_X1_blockLeast hx hb hts hinX1 hown hK hU (hts (.fieldLink RX1 33 "ClashBoxes" "blockLeast" "[I") (by decide +kernel)) dX1_freeShift_44 ?_
        refine lv_iload hx hb dX1_freeShift_47 (lv_at hl 0 rfl) ?_
        refine bl_5 hx hb hK hU (by omega) (by omega) dX1_freeShift_49 ?_
        refine W.eq (g2 := F0 mI 50 ls [.int (iI (L (bAt L G n b1)))]) rfl ?_
        refine li_iconst hx hb dX1_freeShift_50 ?_
        refine li_isub hx hb dX1_freeShift_51 ?_
        refine lv_istore_n (lv' := [(3, .int (iI ((L (bAt L G n b1)) - 1))), (5, .int (iI (bAt L G n b1))), (4, .int (iI i1)), (0, .ref (ad 0 0)), (1, .int (iI n)), (2, .int (iI u))]) hx hb dX1_freeShift_52 rfl hl (by decide) rfl (fun ls hl => ?_)
        refine li_iinc (k0 := 2) (lv' := [(4, .int (iI (i1 + 1))), (3, .int (iI ((L (bAt L G n b1)) - 1))), (5, .int (iI (bAt L G n b1))), (0, .ref (ad 0 0)), (1, .int (iI n)), (2, .int (iI u))]) hx hb dX1_freeShift_53 hl rfl (by decide) rfl (fun ls hl => ?_)
        refine lv_goto (tgt := 5) hx hb dX1_freeShift_56 (by decide) ?_
        exact ih1 (i1 + 1, (L (bAt L G n b1)) - 1) (show (0 ≤ (i1 + 1) ∧ (i1 + 1) ≤ n) ∧ (-1401 ≤ ((L (bAt L G n b1)) - 1) ∧ ((L (bAt L G n b1)) - 1) ≤ 1401) ∧ (fsN L G n u (n - (i1 + 1)).toNat ((L (bAt L G n b1)) - 1) = fsh L G n u) from ⟨by omega, by omega, by rw [← hc1, fsN_s L G n u b1 (i := i1) (by omega), if_neg h4, if_pos h5]⟩) (show 0 ≤ 60 - (i1 + 1) by omega) (show 60 - (i1 + 1) < 60 - i1 by omega) ls (lv_sub hl [0, 1, 3, 4, 5] rfl)
      · refine lv_aload_n hx hb dX1_freeShift_31 rfl (lv_at hl 3 rfl) ?_
        refine bg_X1_blockGreatest hx hb hts hinX1 hown hK hU (hts (.fieldLink RX1 36 "ClashBoxes" "blockGreatest" "[I") (by decide +kernel)) dX1_freeShift_32 ?_
        refine lv_iload hx hb dX1_freeShift_35 (lv_at hl 0 rfl) ?_
        refine bl_6 hx hb hK hU (by omega) (by omega) dX1_freeShift_37 ?_
        refine W.eq (g2 := F0 mI 38 ls [.int (iI (G (bAt L G n b1)))]) rfl ?_
        refine li_iconst hx hb dX1_freeShift_38 ?_
        refine li_iadd hx hb dX1_freeShift_39 ?_
        refine lv_goto (tgt := 52) hx hb dX1_freeShift_40 (by decide) ?_
        refine lv_istore_n (lv' := [(3, .int (iI ((G (bAt L G n b1)) + 1))), (5, .int (iI (bAt L G n b1))), (4, .int (iI i1)), (0, .ref (ad 0 0)), (1, .int (iI n)), (2, .int (iI u))]) hx hb dX1_freeShift_52 rfl hl (by decide) rfl (fun ls hl => ?_)
        refine li_iinc (k0 := 2) (lv' := [(4, .int (iI (i1 + 1))), (3, .int (iI ((G (bAt L G n b1)) + 1))), (5, .int (iI (bAt L G n b1))), (0, .ref (ad 0 0)), (1, .int (iI n)), (2, .int (iI u))]) hx hb dX1_freeShift_53 hl rfl (by decide) rfl (fun ls hl => ?_)
        refine lv_goto (tgt := 5) hx hb dX1_freeShift_56 (by decide) ?_
        exact ih1 (i1 + 1, (G (bAt L G n b1)) + 1) (show (0 ≤ (i1 + 1) ∧ (i1 + 1) ≤ n) ∧ (-1401 ≤ ((G (bAt L G n b1)) + 1) ∧ ((G (bAt L G n b1)) + 1) ≤ 1401) ∧ (fsN L G n u (n - (i1 + 1)).toNat ((G (bAt L G n b1)) + 1) = fsh L G n u) from ⟨by omega, by omega, by rw [← hc1, fsN_s L G n u b1 (i := i1) (by omega), if_neg h4, if_neg h5]⟩) (show 0 ≤ 60 - (i1 + 1) by omega) (show 60 - (i1 + 1) < 60 - i1 by omega) ls (lv_sub hl [0, 1, 3, 4, 5] rfl)
    · refine lv_iload_n hx hb dX1_freeShift_25 rfl (lv_at hl 2 rfl) ?_
      refine be_i hx hb hr hlocks ?_ dX1_freeShift_26
      rw [← hc1, fsN_s L G n u b1 (i := i1) (by omega), if_pos h4]
