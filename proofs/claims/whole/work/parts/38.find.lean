set_option maxHeartbeats 4000000 in
set_option maxRecDepth 100000 in
theorem c_X1_partnerAt (l : Launch) (g : bxG) (ad : bxA) (σ τ : bxS) (w : bxW) (st p k : Int) (hRst : iR st) (hip : 0 ≤ p ∧ p < 60) (hk : 0 ≤ k ∧ k < 2147483648) (hB : bx_B σ) : Met l yX1_partnerAt wsX1_partnerAt ({ frames := 6, cells := 0, slots := 0, locals := 144 }) (va_Pc [.ref (ad 0 0), .int (iI st), .int (iI p), .int (iI k)] (fun U => bx_I g ad σ τ w U)) (k2_QcV (.int (iI (nth (pairP σ st p) (p + 1) (σ 0 0 0) k)))) 0 0 (fun _ => False) := by
  refine Met.ofW (cc := cX1_partnerAt) (maxL := 6) (ret := (some .int)) (by decide) rfl ?_
  intro Pg Ev s mI args below meth cd s₁ B hml hv
  obtain ⟨rfl, hU, hK⟩ := hv
  have hx := B.exec
  have hb := B.bytes
  have hr := B.returns
  have hts := atoms_spec (ws := wsX1_partnerAt) B.pre
  have hown : s.vm.findClass RX1 = some mI.cls := findClass_of_methodNamed B.named
  have hlocks := B.notSynchronized
  have hl := lv_entry ([.ref (ad 0 0), .int (iI st), .int (iI p), .int (iI k)]) (n := 6) (Nat.le_of_ble_eq_true rfl)
  rw [lg_entry_eq]
  generalize (lg_sl ([.ref (ad 0 0), .int (iI st), .int (iI p), .int (iI k)]) ++ List.replicate (6 - (lg_sl ([.ref (ad 0 0), .int (iI st), .int (iI p), .int (iI k)])).length) Slot.unset).toArray = ls at hl ⊢
  have hl : lv_has ls 6 [(0, .ref (ad 0 0)), (1, .int (iI st)), (2, .int (iI p)), (3, .int (iI k))] := hl
  have hinX1 : ∀ w ∈ wsX10, w ∈ wsX1_partnerAt := by decide +kernel
  have hRst0 : -2147483648 ≤ st ∧ st < 2147483648 := hRst
  refine lv_iload_n hx hb dX1_partnerAt_0 rfl (lv_at hl 3 rfl) ?_
  refine lv_istore (lv' := [(4, .int (iI k)), (0, .ref (ad 0 0)), (1, .int (iI st)), (2, .int (iI p)), (3, .int (iI k))]) hx hb dX1_partnerAt_1 hl (by decide) rfl (fun ls hl => ?_)
  refine lv_iload_n hx hb dX1_partnerAt_3 rfl (lv_at hl 3 rfl) ?_
  refine li_iconst hx hb dX1_partnerAt_4 ?_
  refine li_iadd hx hb dX1_partnerAt_5 ?_
  refine lv_istore (lv' := [(5, .int (iI (p + 1))), (4, .int (iI k)), (0, .ref (ad 0 0)), (1, .int (iI st)), (2, .int (iI p)), (3, .int (iI k))]) hx hb dX1_partnerAt_6 hl (by decide) rfl (fun ls hl => ?_)
  refine bl_loop (V := Int × Int) (nL := 6) (I := fun v => [(5, .int (iI v.1)), (4, .int (iI v.2)), (0, .ref (ad 0 0)), (1, .int (iI st)), (2, .int (iI p))]) (Inv := fun v => (p + 1 ≤ v.1 ∧ v.1 ≤ 61) ∧ (0 ≤ v.2 ∧ v.2 ≤ k) ∧ (nth (pairP σ st p) v.1 (σ 0 0 0) v.2 = nth (pairP σ st p) (p + 1) (σ 0 0 0) k)) (μ := fun v => 61 - v.1) ?_ (p + 1, k) (show (p + 1 ≤ (p + 1) ∧ (p + 1) ≤ 61) ∧ (0 ≤ k ∧ k ≤ k) ∧ (nth (pairP σ st p) (p + 1) (σ 0 0 0) k = nth (pairP σ st p) (p + 1) (σ 0 0 0) k) from ⟨by omega, by omega, rfl⟩) ls (lv_sub hl [0, 1, 2, 3, 4] rfl)
  rintro ⟨i1, r1⟩ hI ih1 ls hl
  have hI : (p + 1 ≤ i1 ∧ i1 ≤ 61) ∧ (0 ≤ r1 ∧ r1 ≤ k) ∧ (nth (pairP σ st p) i1 (σ 0 0 0) r1 = nth (pairP σ st p) (p + 1) (σ 0 0 0) k) := hI
  obtain ⟨ha1, hb1, hc1⟩ := hI
  have hl : lv_has ls 6 [(5, .int (iI i1)), (4, .int (iI r1)), (0, .ref (ad 0 0)), (1, .int (iI st)), (2, .int (iI p))] := hl
  have hm0 := bB0 hB
  refine lv_iload hx hb dX1_partnerAt_8 (lv_at hl 0 rfl) ?_
  refine lv_aload_n hx hb dX1_partnerAt_10 rfl (lv_at hl 2 rfl) ?_
  refine bg_X1_made hx hb hts hinX1 hown hK hU (hts (.fieldLink RX1 19 "ClashBoxes" "made" "I") (by decide +kernel)) dX1_partnerAt_11 ?_
  have b2 := bB0 hB
  refine li_icmp_ge (tgt := 45) hx hb (by unfold iR; omega) (by unfold iR; omega) dX1_partnerAt_14 (by decide) (fun h3 => ?_) (fun h3 => ?_)
  · refine li_iconst hx hb dX1_partnerAt_45 ?_
    refine be_i hx hb hr hlocks ?_ dX1_partnerAt_46
    rw [← hc1, nth_end _ _ (by omega)]
  · refine lv_aload_n hx hb dX1_partnerAt_17 rfl (lv_at hl 2 rfl) ?_
    refine lv_iload_n hx hb dX1_partnerAt_18 rfl (lv_at hl 3 rfl) ?_
    refine lv_iload_n hx hb dX1_partnerAt_19 rfl (lv_at hl 4 rfl) ?_
    refine lv_iload hx hb dX1_partnerAt_20 (lv_at hl 0 rfl) ?_
    refine bc_VB (As := [.int (iI st), .int (iI p), .int (iI i1)]) (rest := []) (kd := 0) (k := 0) (ci := 1) ⟨hx, hb, hml, hown, hts⟩ (c_X1_isPair l g ad σ τ w st p i1 (by unfold iR; omega) (by omega) (by omega) hB) (cwV 3 hts gX1_partnerAt_X1_isPair rfl rfl rfl (by decide +kernel) ⟨Nat.le_of_ble_eq_true rfl, Nat.le_of_ble_eq_true rfl⟩) hK hU (bx_L0 (by omega)) rfl rfl rfl hl.1 rfl (Nat.le_of_ble_eq_true rfl) dX1_partnerAt_22 ⟨Nat.zero_le _, Nat.zero_le _⟩ (fun h4 => ?_) (fun h4 => ?_)
    · refine li_if_eq (tgt := 39) hx hb (by unfold iR; omega) dX1_partnerAt_25 (by decide) (fun h => absurd h (by decide)) (fun _ => ?_)
      refine lv_iload hx hb dX1_partnerAt_28 (lv_at hl 1 rfl) ?_
      refine li_if_ne (tgt := 36) hx hb (by unfold iR; omega) dX1_partnerAt_30 (by decide) (fun h5 => ?_) (fun h5 => ?_)
      · refine li_iinc (k0 := 1) (lv' := [(4, .int (iI (r1 + (-1)))), (5, .int (iI i1)), (0, .ref (ad 0 0)), (1, .int (iI st)), (2, .int (iI p))]) hx hb dX1_partnerAt_36 hl rfl (by decide) rfl (fun ls hl => ?_)
        refine li_iinc (k0 := 1) (lv' := [(5, .int (iI (i1 + 1))), (4, .int (iI (r1 + (-1)))), (0, .ref (ad 0 0)), (1, .int (iI st)), (2, .int (iI p))]) hx hb dX1_partnerAt_39 hl rfl (by decide) rfl (fun ls hl => ?_)
        refine lv_goto (tgt := 8) hx hb dX1_partnerAt_42 (by decide) ?_
        exact ih1 (i1 + 1, r1 + (-1)) (show (p + 1 ≤ (i1 + 1) ∧ (i1 + 1) ≤ 61) ∧ (0 ≤ (r1 + (-1)) ∧ (r1 + (-1)) ≤ k) ∧ (nth (pairP σ st p) (i1 + 1) (σ 0 0 0) (r1 + (-1)) = nth (pairP σ st p) (p + 1) (σ 0 0 0) k) from ⟨by omega, by omega, by rw [← hc1, nth_t _ (by omega) h4, if_neg (by omega)]; rfl⟩) (show 0 ≤ 61 - (i1 + 1) by omega) (show 61 - (i1 + 1) < 61 - i1 by omega) ls (lv_sub hl [0, 1, 2, 3, 4] rfl)
      · refine lv_iload hx hb dX1_partnerAt_33 (lv_at hl 0 rfl) ?_
        refine be_i hx hb hr hlocks ?_ dX1_partnerAt_35
        rw [← hc1, nth_t _ (by omega) h4, if_pos (by omega)]
    · refine li_if_eq (tgt := 39) hx hb (by unfold iR; omega) dX1_partnerAt_25 (by decide) (fun _ => ?_) (fun h => absurd (by decide) h)
      refine li_iinc (k0 := 0) (lv' := [(5, .int (iI (i1 + 1))), (4, .int (iI r1)), (0, .ref (ad 0 0)), (1, .int (iI st)), (2, .int (iI p))]) hx hb dX1_partnerAt_39 hl rfl (by decide) rfl (fun ls hl => ?_)
      refine lv_goto (tgt := 8) hx hb dX1_partnerAt_42 (by decide) ?_
      exact ih1 (i1 + 1, r1) (show (p + 1 ≤ (i1 + 1) ∧ (i1 + 1) ≤ 61) ∧ (0 ≤ r1 ∧ r1 ≤ k) ∧ (nth (pairP σ st p) (i1 + 1) (σ 0 0 0) r1 = nth (pairP σ st p) (p + 1) (σ 0 0 0) k) from ⟨by omega, by omega, by rw [← hc1, nth_f _ (by omega) h4]⟩) (show 0 ≤ 61 - (i1 + 1) by omega) (show 61 - (i1 + 1) < 61 - i1 by omega) ls (lv_sub hl [0, 1, 2, 3, 4] rfl)

set_option maxHeartbeats 4000000 in
set_option maxRecDepth 100000 in
theorem c_X1_clashes_t (l : Launch) (g : bxG) (ad : bxA) (σ τ : bxS) (w : bxW) (st : Int) (hRst : iR st) (hB : bx_B σ) (hg : 1 ≤ st ∧ st ≤ 2) : Met l yX1_clashes wsX1_clashes ({ frames := 7, cells := 0, slots := 0, locals := 168 }) (va_Pc [.ref (ad 0 0), .int (iI st)] (fun U => bx_I g ad σ τ w U)) (k2_QcV (.int (iI (sm (pcnt σ st) (σ 0 0 0))))) 0 0 (fun _ => False) := by
  refine Met.ofW (cc := cX1_clashes) (maxL := 4) (ret := (some .int)) (by decide) rfl ?_
  intro Pg Ev s mI args below meth cd s₁ B hml hv
  obtain ⟨rfl, hU, hK⟩ := hv
  have hx := B.exec
  have hb := B.bytes
  have hr := B.returns
  have hts := atoms_spec (ws := wsX1_clashes) B.pre
  have hown : s.vm.findClass RX1 = some mI.cls := findClass_of_methodNamed B.named
  have hlocks := B.notSynchronized
  have hl := lv_entry ([.ref (ad 0 0), .int (iI st)]) (n := 4) (Nat.le_of_ble_eq_true rfl)
  rw [lg_entry_eq]
  generalize (lg_sl ([.ref (ad 0 0), .int (iI st)]) ++ List.replicate (4 - (lg_sl ([.ref (ad 0 0), .int (iI st)])).length) Slot.unset).toArray = ls at hl ⊢
  have hl : lv_has ls 4 [(0, .ref (ad 0 0)), (1, .int (iI st))] := hl
  have hinX1 : ∀ w ∈ wsX10, w ∈ wsX1_clashes := by decide +kernel
  have hRst0 : -2147483648 ≤ st ∧ st < 2147483648 := hRst
  have hm0 := bB0 hB
  refine lv_iload_n hx hb dX1_clashes_0 rfl (lv_at hl 1 rfl) ?_
  refine li_iconst hx hb dX1_clashes_1 ?_
  refine li_iconst hx hb dX1_clashes_2 ?_
  refine bc_SB (As := [.int (iI st), .int (iI 1), .int (iI 2)]) (rest := []) ⟨hx, hb, hml, hown, hts⟩ (c_X1_isWithin l g ad σ τ w st 1 2 (by unfold iR; omega) (by unfold iR; omega) (by unfold iR; omega)) (va_cwS 3 hts gX1_clashes_X1_isWithin rfl rfl rfl (by decide +kernel) ⟨Nat.le_of_ble_eq_true rfl, Nat.le_of_ble_eq_true rfl⟩) hK hU  rfl hl.1 rfl (Nat.le_of_ble_eq_true rfl) dX1_clashes_3 ⟨Nat.zero_le _, Nat.zero_le _⟩ (fun h1 => ?_) (fun h1 => ?_)
  · refine bc_SN (As := [.int (iI 1)]) (rest := []) ⟨hx, hb, hml, hown, hts⟩ (c_X1_need_t l g ad σ τ w) (va_cwS 1 hts gX1_clashes_X1_need rfl rfl rfl (by decide +kernel) ⟨Nat.le_of_ble_eq_true rfl, Nat.le_of_ble_eq_true rfl⟩) hK hU rfl hl.1 rfl (Nat.le_of_ble_eq_true rfl) dX1_clashes_6 ⟨Nat.zero_le _, Nat.zero_le _⟩ ?_
    refine li_iconst hx hb dX1_clashes_9 ?_
    refine lv_istore_n (lv' := [(2, .int (iI 0)), (0, .ref (ad 0 0)), (1, .int (iI st))]) hx hb dX1_clashes_10 rfl hl (by decide) rfl (fun ls hl => ?_)
    refine li_iconst hx hb dX1_clashes_11 ?_
    refine lv_istore_n (lv' := [(3, .int (iI 0)), (2, .int (iI 0)), (0, .ref (ad 0 0)), (1, .int (iI st))]) hx hb dX1_clashes_12 rfl hl (by decide) rfl (fun ls hl => ?_)
    refine bl_loop (V := Int × Int) (nL := 4) (I := fun v => [(3, .int (iI v.1)), (2, .int (iI v.2)), (0, .ref (ad 0 0)), (1, .int (iI st))]) (Inv := fun v => (0 ≤ v.1 ∧ v.1 ≤ σ 0 0 0) ∧ (v.2 = sm (pcnt σ st) v.1)) (μ := fun v => 60 - v.1) ?_ (0, 0) (show (0 ≤ 0 ∧ 0 ≤ σ 0 0 0) ∧ (0 = sm (pcnt σ st) 0) from ⟨by omega, rfl⟩) ls (lv_sub hl [0, 1, 2, 3] rfl)
    rintro ⟨i2, k2⟩ hI ih2 ls hl
    have hI : (0 ≤ i2 ∧ i2 ≤ σ 0 0 0) ∧ (k2 = sm (pcnt σ st) i2) := hI
    obtain ⟨ha2, hc2⟩ := hI
    have hl : lv_has ls 4 [(3, .int (iI i2)), (2, .int (iI k2)), (0, .ref (ad 0 0)), (1, .int (iI st))] := hl
    have hm0 := bB0 hB
    refine lv_iload_n hx hb dX1_clashes_13 rfl (lv_at hl 0 rfl) ?_
    refine lv_aload_n hx hb dX1_clashes_14 rfl (lv_at hl 2 rfl) ?_
    refine bg_X1_made hx hb hts hinX1 hown hK hU (hts (.fieldLink RX1 19 "ClashBoxes" "made" "I") (by decide +kernel)) dX1_clashes_15 ?_
    have b3 := bB0 hB
    refine li_icmp_ge (tgt := 36) hx hb (by unfold iR; omega) (by unfold iR; omega) dX1_clashes_18 (by decide) (fun h4 => ?_) (fun h4 => ?_)
    · refine lv_iload_n hx hb dX1_clashes_36 rfl (lv_at hl 1 rfl) ?_
      refine be_i hx hb hr hlocks ?_ dX1_clashes_37
      rw [hc2, show i2 = σ 0 0 0 by omega]
    · refine lv_iload_n hx hb dX1_clashes_21 rfl (lv_at hl 1 rfl) ?_
      refine lv_aload_n hx hb dX1_clashes_22 rfl (lv_at hl 2 rfl) ?_
      refine lv_iload_n hx hb dX1_clashes_23 rfl (lv_at hl 3 rfl) ?_
      refine lv_iload_n hx hb dX1_clashes_24 rfl (lv_at hl 0 rfl) ?_
      refine bc_V (As := [.int (iI st), .int (iI i2)]) (rest := [.int (iI k2)]) (kd := 0) (k := 0) (ci := 1) ⟨hx, hb, hml, hown, hts⟩ (c_X1_countPartners l g ad σ τ w st i2 (by unfold iR; omega) (by omega) hB) (cwV 2 hts gX1_clashes_X1_countPartners rfl rfl rfl (by decide +kernel) ⟨Nat.le_of_ble_eq_true rfl, Nat.le_of_ble_eq_true rfl⟩) hK hU (bx_L0 (by omega)) rfl rfl rfl hl.1 rfl (Nat.le_of_ble_eq_true rfl) dX1_clashes_25 ⟨Nat.zero_le _, Nat.zero_le _⟩ ?_
      have h5 : 0 ≤ pcnt σ st i2 ∧ (pcnt σ st i2 ≤ σ 0 0 0 - (i2 + 1) ∨ pcnt σ st i2 = 0) := cnt_bd (pairP σ st i2) (i2 + 1) (σ 0 0 0)
      refine li_iadd hx hb dX1_clashes_28 ?_
      refine lv_istore_n (lv' := [(2, .int (iI (k2 + (pcnt σ st i2)))), (3, .int (iI i2)), (0, .ref (ad 0 0)), (1, .int (iI st))]) hx hb dX1_clashes_29 rfl hl (by decide) rfl (fun ls hl => ?_)
      refine li_iinc (k0 := 1) (lv' := [(3, .int (iI (i2 + 1))), (2, .int (iI (k2 + (pcnt σ st i2)))), (0, .ref (ad 0 0)), (1, .int (iI st))]) hx hb dX1_clashes_30 hl rfl (by decide) rfl (fun ls hl => ?_)
      refine lv_goto (tgt := 13) hx hb dX1_clashes_33 (by decide) ?_
      exact ih2 (i2 + 1, k2 + (pcnt σ st i2)) (show (0 ≤ (i2 + 1) ∧ (i2 + 1) ≤ σ 0 0 0) ∧ ((k2 + (pcnt σ st i2)) = sm (pcnt σ st) (i2 + 1)) from ⟨by omega, by rw [sm_s _ (by omega), hc2]⟩) (show 0 ≤ 60 - (i2 + 1) by omega) (show 60 - (i2 + 1) < 60 - i2 by omega) ls (lv_sub hl [0, 1, 2, 3] rfl)
  · exfalso
    omega

set_option maxHeartbeats 4000000 in
set_option maxRecDepth 100000 in
theorem c_X1_clashes_f (l : Launch) (hst : l.stackTraces = false) (g : bxG) (ad : bxA) (σ τ : bxS) (w : bxW) (sa : Nat → Nat) (st : Int) (hRst : iR st) (hB : bx_B σ) (hg : ¬ (1 ≤ st ∧ st ≤ 2)) : vx_Met l yX1_clashes wsX1_clashes ({ frames := 7, cells := 1, slots := 6, locals := 168 }) (va_Pc [.ref (ad 0 0), .int (iI st)] (fun U => bt_I g ad σ τ w sa U)) bq_no (bq_X g ad σ τ w (fun E => E = bt_iae)) 1 6 (bq_fr g) := by
  refine vx_ofW (cc := cX1_clashes) (maxL := 4) (ret := (some .int)) (by decide) rfl ?_
  intro Pg Ev s mI args below meth cd s₁ B hml hout hv
  obtain ⟨rfl, ⟨hU, hK⟩, hT⟩ := hv
  have hx := B.exec
  have hb := B.bytes
  have hr := B.returns
  have hts := atoms_spec (ws := wsX1_clashes) B.pre
  have hown : s.vm.findClass RX1 = some mI.cls := findClass_of_methodNamed B.named
  have hlocks := B.notSynchronized
  have hl := lv_entry ([.ref (ad 0 0), .int (iI st)]) (n := 4) (Nat.le_of_ble_eq_true rfl)
  rw [lg_entry_eq]
  generalize (lg_sl ([.ref (ad 0 0), .int (iI st)]) ++ List.replicate (4 - (lg_sl ([.ref (ad 0 0), .int (iI st)])).length) Slot.unset).toArray = ls at hl ⊢
  have hl : lv_has ls 4 [(0, .ref (ad 0 0)), (1, .int (iI st))] := hl
  have hRst0 : -2147483648 ≤ st ∧ st < 2147483648 := hRst
  have hm0 := bB0 hB
  refine lv_iload_n hx hb dX1_clashes_0 rfl (lv_at hl 1 rfl) ?_
  refine li_iconst hx hb dX1_clashes_1 ?_
  refine li_iconst hx hb dX1_clashes_2 ?_
  refine bc_SB (As := [.int (iI st), .int (iI 1), .int (iI 2)]) (rest := []) ⟨hx, hb, hml, hown, hts⟩ (c_X1_isWithin l g ad σ τ w st 1 2 (by unfold iR; omega) (by unfold iR; omega) (by unfold iR; omega)) (va_cwS 3 hts gX1_clashes_X1_isWithin rfl rfl rfl (by decide +kernel) ⟨Nat.le_of_ble_eq_true rfl, Nat.le_of_ble_eq_true rfl⟩) hK hU  rfl hl.1 rfl (Nat.le_of_ble_eq_true rfl) dX1_clashes_3 ⟨Nat.zero_le _, Nat.zero_le _⟩ (fun h1 => ?_) (fun h1 => ?_)
  · refine bc_SN (As := [.int (iI 1)]) (rest := []) ⟨hx, hb, hml, hown, hts⟩ (c_X1_need_t l g ad σ τ w) (va_cwS 1 hts gX1_clashes_X1_need rfl rfl rfl (by decide +kernel) ⟨Nat.le_of_ble_eq_true rfl, Nat.le_of_ble_eq_true rfl⟩) hK hU rfl hl.1 rfl (Nat.le_of_ble_eq_true rfl) dX1_clashes_6 ⟨Nat.zero_le _, Nat.zero_le _⟩ ?_
    refine li_iconst hx hb dX1_clashes_9 ?_
    exfalso
    omega
  · exact bt_S (As := [.int (iI 0)]) (rest := []) ⟨hx, hb, hml, hown, hts⟩ (c_X1_need_f l hst g ad σ τ w sa) (va_cwS 1 hts gX1_clashes_X1_need rfl rfl rfl (by decide +kernel) ⟨Nat.le_of_ble_eq_true rfl, Nat.le_of_ble_eq_true rfl⟩) hK hU hT bx_F.rf bx_Lc.nil rfl hl.1 rfl (Nat.le_of_ble_eq_true rfl) dX1_clashes_6 ⟨Nat.le_of_ble_eq_true rfl, Nat.le_of_ble_eq_true rfl⟩ hout hlocks (Nat.le_of_ble_eq_true rfl) (Nat.le_of_ble_eq_true rfl)

set_option maxHeartbeats 4000000 in
set_option maxRecDepth 100000 in
theorem c_X1_clash_t (l : Launch) (g : bxG) (ad : bxA) (σ τ : bxS) (w : bxW) (st k wh : Int) (hRst : iR st) (hRk : iR k) (hRwh : iR wh) (hB : bx_B σ) (hg : (1 ≤ st ∧ st ≤ 2) ∧ 0 ≤ k ∧ 0 ≤ wh ∧ wh ≤ 1) : Met l yX1_clash wsX1_clash ({ frames := 7, cells := 0, slots := 0, locals := 169 }) (va_Pc [.ref (ad 0 0), .int (iI st), .int (iI k), .int (iI wh)] (fun U => bx_I g ad σ τ w U)) (k2_QcV (.int (iI (clsF σ st wh 0 k)))) 0 0 (fun _ => False) := by
  refine Met.ofW (cc := cX1_clash) (maxL := 7) (ret := (some .int)) (by decide) rfl ?_
  intro Pg Ev s mI args below meth cd s₁ B hml hv
  obtain ⟨rfl, hU, hK⟩ := hv
  have hx := B.exec
  have hb := B.bytes
  have hr := B.returns
  have hts := atoms_spec (ws := wsX1_clash) B.pre
  have hown : s.vm.findClass RX1 = some mI.cls := findClass_of_methodNamed B.named
  have hlocks := B.notSynchronized
  have hl := lv_entry ([.ref (ad 0 0), .int (iI st), .int (iI k), .int (iI wh)]) (n := 7) (Nat.le_of_ble_eq_true rfl)
  rw [lg_entry_eq]
  generalize (lg_sl ([.ref (ad 0 0), .int (iI st), .int (iI k), .int (iI wh)]) ++ List.replicate (7 - (lg_sl ([.ref (ad 0 0), .int (iI st), .int (iI k), .int (iI wh)])).length) Slot.unset).toArray = ls at hl ⊢
  have hl : lv_has ls 7 [(0, .ref (ad 0 0)), (1, .int (iI st)), (2, .int (iI k)), (3, .int (iI wh))] := hl
  have hinX1 : ∀ w ∈ wsX10, w ∈ wsX1_clash := by decide +kernel
  have hRst0 : -2147483648 ≤ st ∧ st < 2147483648 := hRst
  have hRk0 : -2147483648 ≤ k ∧ k < 2147483648 := hRk
  have hRwh0 : -2147483648 ≤ wh ∧ wh < 2147483648 := hRwh
  have hm0 := bB0 hB
  refine lv_iload_n hx hb dX1_clash_0 rfl (lv_at hl 1 rfl) ?_
  refine li_iconst hx hb dX1_clash_1 ?_
  refine li_iconst hx hb dX1_clash_2 ?_
  refine bc_SB (As := [.int (iI st), .int (iI 1), .int (iI 2)]) (rest := []) ⟨hx, hb, hml, hown, hts⟩ (c_X1_isWithin l g ad σ τ w st 1 2 (by unfold iR; omega) (by unfold iR; omega) (by unfold iR; omega)) (va_cwS 3 hts gX1_clash_X1_isWithin rfl rfl rfl (by decide +kernel) ⟨Nat.le_of_ble_eq_true rfl, Nat.le_of_ble_eq_true rfl⟩) hK hU  rfl hl.1 rfl (Nat.le_of_ble_eq_true rfl) dX1_clash_3 ⟨Nat.zero_le _, Nat.zero_le _⟩ (fun h1 => ?_) (fun h1 => ?_)
  · refine li_if_eq (tgt := 26) hx hb (by unfold iR; omega) dX1_clash_6 (by decide) (fun h => absurd h (by decide)) (fun _ => ?_)
    refine lv_iload_n hx hb dX1_clash_9 rfl (lv_at hl 2 rfl) ?_
    refine li_if_lt (tgt := 26) hx hb (by unfold iR; omega) dX1_clash_10 (by decide) (fun h2 => ?_) (fun h2 => ?_)
    · refine li_iconst hx hb dX1_clash_26 ?_
      exfalso
      omega
    · refine lv_iload_n hx hb dX1_clash_13 rfl (lv_at hl 3 rfl) ?_
      refine li_iconst hx hb dX1_clash_14 ?_
      refine li_iconst hx hb dX1_clash_15 ?_
      refine bc_SB (As := [.int (iI wh), .int (iI 0), .int (iI 1)]) (rest := []) ⟨hx, hb, hml, hown, hts⟩ (c_X1_isWithin l g ad σ τ w wh 0 1 (by unfold iR; omega) (by unfold iR; omega) (by unfold iR; omega)) (va_cwS 3 hts gX1_clash_X1_isWithin rfl rfl rfl (by decide +kernel) ⟨Nat.le_of_ble_eq_true rfl, Nat.le_of_ble_eq_true rfl⟩) hK hU  rfl hl.1 rfl (Nat.le_of_ble_eq_true rfl) dX1_clash_16 ⟨Nat.zero_le _, Nat.zero_le _⟩ (fun h3 => ?_) (fun h3 => ?_)
      · refine li_if_eq (tgt := 26) hx hb (by unfold iR; omega) dX1_clash_19 (by decide) (fun h => absurd h (by decide)) (fun _ => ?_)
        refine li_iconst hx hb dX1_clash_22 ?_
        refine lv_goto (tgt := 27) hx hb dX1_clash_23 (by decide) ?_
        refine bc_SN (As := [.int (iI 1)]) (rest := []) ⟨hx, hb, hml, hown, hts⟩ (c_X1_need_t l g ad σ τ w) (va_cwS 1 hts gX1_clash_X1_need rfl rfl rfl (by decide +kernel) ⟨Nat.le_of_ble_eq_true rfl, Nat.le_of_ble_eq_true rfl⟩) hK hU rfl hl.1 rfl (Nat.le_of_ble_eq_true rfl) dX1_clash_27 ⟨Nat.zero_le _, Nat.zero_le _⟩ ?_
        refine lv_iload_n hx hb dX1_clash_30 rfl (lv_at hl 2 rfl) ?_
        refine lv_istore (lv' := [(4, .int (iI k)), (0, .ref (ad 0 0)), (1, .int (iI st)), (2, .int (iI k)), (3, .int (iI wh))]) hx hb dX1_clash_31 hl (by decide) rfl (fun ls hl => ?_)
        refine li_iconst hx hb dX1_clash_33 ?_
        refine lv_istore (lv' := [(5, .int (iI 0)), (4, .int (iI k)), (0, .ref (ad 0 0)), (1, .int (iI st)), (2, .int (iI k)), (3, .int (iI wh))]) hx hb dX1_clash_34 hl (by decide) rfl (fun ls hl => ?_)
        refine bl_loop (V := Int × Int) (nL := 7) (I := fun v => [(5, .int (iI v.1)), (4, .int (iI v.2)), (0, .ref (ad 0 0)), (1, .int (iI st)), (2, .int (iI k)), (3, .int (iI wh))]) (Inv := fun v => (0 ≤ v.1 ∧ v.1 ≤ σ 0 0 0) ∧ (0 ≤ v.2 ∧ v.2 ≤ k) ∧ (clsF σ st wh v.1 v.2 = clsF σ st wh 0 k)) (μ := fun v => 60 - v.1) ?_ (0, k) (show (0 ≤ 0 ∧ 0 ≤ σ 0 0 0) ∧ (0 ≤ k ∧ k ≤ k) ∧ (clsF σ st wh 0 k = clsF σ st wh 0 k) from ⟨by omega, by omega, rfl⟩) ls (lv_sub hl [0, 1, 2, 3, 4, 5] rfl)
        rintro ⟨i4, r4⟩ hI ih4 ls hl
        have hI : (0 ≤ i4 ∧ i4 ≤ σ 0 0 0) ∧ (0 ≤ r4 ∧ r4 ≤ k) ∧ (clsF σ st wh i4 r4 = clsF σ st wh 0 k) := hI
        obtain ⟨ha4, hb4, hc4⟩ := hI
        have hl : lv_has ls 7 [(5, .int (iI i4)), (4, .int (iI r4)), (0, .ref (ad 0 0)), (1, .int (iI st)), (2, .int (iI k)), (3, .int (iI wh))] := hl
        have hm0 := bB0 hB
        refine lv_iload hx hb dX1_clash_36 (lv_at hl 0 rfl) ?_
        refine lv_aload_n hx hb dX1_clash_38 rfl (lv_at hl 2 rfl) ?_
        refine bg_X1_made hx hb hts hinX1 hown hK hU (hts (.fieldLink RX1 19 "ClashBoxes" "made" "I") (by decide +kernel)) dX1_clash_39 ?_
        have b5 := bB0 hB
        refine li_icmp_ge (tgt := 93) hx hb (by unfold iR; omega) (by unfold iR; omega) dX1_clash_42 (by decide) (fun h6 => ?_) (fun h6 => ?_)
        · refine li_iconst hx hb dX1_clash_93 ?_
          refine be_i hx hb hr hlocks ?_ dX1_clash_94
          rw [← hc4, cls_end _ _ _ (by omega)]
        · refine lv_aload_n hx hb dX1_clash_45 rfl (lv_at hl 2 rfl) ?_
          refine lv_iload_n hx hb dX1_clash_46 rfl (lv_at hl 3 rfl) ?_
          refine lv_iload hx hb dX1_clash_47 (lv_at hl 0 rfl) ?_
          refine bc_V (As := [.int (iI st), .int (iI i4)]) (rest := []) (kd := 0) (k := 0) (ci := 1) ⟨hx, hb, hml, hown, hts⟩ (c_X1_countPartners l g ad σ τ w st i4 (by unfold iR; omega) (by omega) hB) (cwV 2 hts gX1_clash_X1_countPartners rfl rfl rfl (by decide +kernel) ⟨Nat.le_of_ble_eq_true rfl, Nat.le_of_ble_eq_true rfl⟩) hK hU (bx_L0 (by omega)) rfl rfl rfl hl.1 rfl (Nat.le_of_ble_eq_true rfl) dX1_clash_49 ⟨Nat.zero_le _, Nat.zero_le _⟩ ?_
          have h7 : 0 ≤ pcnt σ st i4 ∧ (pcnt σ st i4 ≤ σ 0 0 0 - (i4 + 1) ∨ pcnt σ st i4 = 0) := cnt_bd (pairP σ st i4) (i4 + 1) (σ 0 0 0)
          refine lv_istore (lv' := [(6, .int (iI (pcnt σ st i4))), (5, .int (iI i4)), (4, .int (iI r4)), (0, .ref (ad 0 0)), (1, .int (iI st)), (2, .int (iI k)), (3, .int (iI wh))]) hx hb dX1_clash_52 hl (by decide) rfl (fun ls hl => ?_)
          refine lv_iload hx hb dX1_clash_54 (lv_at hl 2 rfl) ?_
          refine lv_iload hx hb dX1_clash_56 (lv_at hl 0 rfl) ?_
          refine li_icmp_ge (tgt := 80) hx hb (by unfold iR; omega) (by unfold iR; omega) dX1_clash_58 (by decide) (fun h8 => ?_) (fun h8 => ?_)
          · refine lv_iload hx hb dX1_clash_80 (lv_at hl 2 rfl) ?_
            refine lv_iload hx hb dX1_clash_82 (lv_at hl 0 rfl) ?_
            refine li_isub hx hb dX1_clash_84 ?_
            refine lv_istore (lv' := [(4, .int (iI (r4 - (pcnt σ st i4)))), (6, .int (iI (pcnt σ st i4))), (5, .int (iI i4)), (0, .ref (ad 0 0)), (1, .int (iI st)), (2, .int (iI k)), (3, .int (iI wh))]) hx hb dX1_clash_85 hl (by decide) rfl (fun ls hl => ?_)
            refine li_iinc (k0 := 2) (lv' := [(5, .int (iI (i4 + 1))), (4, .int (iI (r4 - (pcnt σ st i4)))), (6, .int (iI (pcnt σ st i4))), (0, .ref (ad 0 0)), (1, .int (iI st)), (2, .int (iI k)), (3, .int (iI wh))]) hx hb dX1_clash_87 hl rfl (by decide) rfl (fun ls hl => ?_)
            refine lv_goto (tgt := 36) hx hb dX1_clash_90 (by decide) ?_
            exact ih4 (i4 + 1, r4 - (pcnt σ st i4)) (show (0 ≤ (i4 + 1) ∧ (i4 + 1) ≤ σ 0 0 0) ∧ (0 ≤ (r4 - (pcnt σ st i4)) ∧ (r4 - (pcnt σ st i4)) ≤ k) ∧ (clsF σ st wh (i4 + 1) (r4 - (pcnt σ st i4)) = clsF σ st wh 0 k) from ⟨by omega, by omega, by rw [← hc4, cls_step st wh r4 (p := i4) (by omega), if_neg (by omega)]⟩) (show 0 ≤ 60 - (i4 + 1) by omega) (show 60 - (i4 + 1) < 60 - i4 by omega) ls (lv_sub hl [0, 1, 3, 4, 5, 6] rfl)
          · refine lv_iload_n hx hb dX1_clash_61 rfl (lv_at hl 6 rfl) ?_
            refine li_if_ne (tgt := 70) hx hb (by unfold iR; omega) dX1_clash_62 (by decide) (fun h9 => ?_) (fun h9 => ?_)
            · refine lv_aload_n hx hb dX1_clash_70 rfl (lv_at hl 3 rfl) ?_
              refine lv_iload_n hx hb dX1_clash_71 rfl (lv_at hl 4 rfl) ?_
              refine lv_iload hx hb dX1_clash_72 (lv_at hl 1 rfl) ?_
              refine lv_iload hx hb dX1_clash_74 (lv_at hl 2 rfl) ?_
              refine bc_V (As := [.int (iI st), .int (iI i4), .int (iI r4)]) (rest := []) (kd := 0) (k := 0) (ci := 1) ⟨hx, hb, hml, hown, hts⟩ (c_X1_partnerAt l g ad σ τ w st i4 r4 (by unfold iR; omega) (by omega) (by omega) hB) (cwV 3 hts gX1_clash_X1_partnerAt rfl rfl rfl (by decide +kernel) ⟨Nat.le_of_ble_eq_true rfl, Nat.le_of_ble_eq_true rfl⟩) hK hU (bx_L0 (by omega)) rfl rfl rfl hl.1 rfl (Nat.le_of_ble_eq_true rfl) dX1_clash_76 ⟨Nat.zero_le _, Nat.zero_le _⟩ ?_
              refine be_i hx hb hr hlocks ?_ dX1_clash_79
              rw [← hc4, cls_step st wh r4 (p := i4) (by omega), if_pos (by omega)]; first | (rw [if_pos (by omega)]) | (rw [if_neg (by omega)])
            · refine lv_iload hx hb dX1_clash_65 (lv_at hl 1 rfl) ?_
              refine lv_goto (tgt := 79) hx hb dX1_clash_67 (by decide) ?_
              refine be_i hx hb hr hlocks ?_ dX1_clash_79
              rw [← hc4, cls_step st wh r4 (p := i4) (by omega), if_pos (by omega)]; first | (rw [if_pos (by omega)]) | (rw [if_neg (by omega)])
      · refine li_if_eq (tgt := 26) hx hb (by unfold iR; omega) dX1_clash_19 (by decide) (fun _ => ?_) (fun h => absurd (by decide) h)
        refine li_iconst hx hb dX1_clash_26 ?_
        exfalso
        omega
  · refine li_if_eq (tgt := 26) hx hb (by unfold iR; omega) dX1_clash_6 (by decide) (fun _ => ?_) (fun h => absurd (by decide) h)
    refine li_iconst hx hb dX1_clash_26 ?_
    exfalso
    omega

set_option maxHeartbeats 4000000 in
set_option maxRecDepth 100000 in
theorem c_X1_clash_f (l : Launch) (hst : l.stackTraces = false) (g : bxG) (ad : bxA) (σ τ : bxS) (w : bxW) (sa : Nat → Nat) (st k wh : Int) (hRst : iR st) (hRk : iR k) (hRwh : iR wh) (hB : bx_B σ) (hg : ¬ ((1 ≤ st ∧ st ≤ 2) ∧ 0 ≤ k ∧ 0 ≤ wh ∧ wh ≤ 1)) : vx_Met l yX1_clash wsX1_clash ({ frames := 7, cells := 1, slots := 6, locals := 169 }) (va_Pc [.ref (ad 0 0), .int (iI st), .int (iI k), .int (iI wh)] (fun U => bt_I g ad σ τ w sa U)) bq_no (bq_X g ad σ τ w (fun E => E = bt_iae)) 1 6 (bq_fr g) := by
  refine vx_ofW (cc := cX1_clash) (maxL := 7) (ret := (some .int)) (by decide) rfl ?_
  intro Pg Ev s mI args below meth cd s₁ B hml hout hv
  obtain ⟨rfl, ⟨hU, hK⟩, hT⟩ := hv
  have hx := B.exec
  have hb := B.bytes
  have hr := B.returns
  have hts := atoms_spec (ws := wsX1_clash) B.pre
  have hown : s.vm.findClass RX1 = some mI.cls := findClass_of_methodNamed B.named
  have hlocks := B.notSynchronized
  have hl := lv_entry ([.ref (ad 0 0), .int (iI st), .int (iI k), .int (iI wh)]) (n := 7) (Nat.le_of_ble_eq_true rfl)
  rw [lg_entry_eq]
  generalize (lg_sl ([.ref (ad 0 0), .int (iI st), .int (iI k), .int (iI wh)]) ++ List.replicate (7 - (lg_sl ([.ref (ad 0 0), .int (iI st), .int (iI k), .int (iI wh)])).length) Slot.unset).toArray = ls at hl ⊢
  have hl : lv_has ls 7 [(0, .ref (ad 0 0)), (1, .int (iI st)), (2, .int (iI k)), (3, .int (iI wh))] := hl
  have hRst0 : -2147483648 ≤ st ∧ st < 2147483648 := hRst
  have hRk0 : -2147483648 ≤ k ∧ k < 2147483648 := hRk
  have hRwh0 : -2147483648 ≤ wh ∧ wh < 2147483648 := hRwh
  have hm0 := bB0 hB
  refine lv_iload_n hx hb dX1_clash_0 rfl (lv_at hl 1 rfl) ?_
  refine li_iconst hx hb dX1_clash_1 ?_
  refine li_iconst hx hb dX1_clash_2 ?_
  refine bc_SB (As := [.int (iI st), .int (iI 1), .int (iI 2)]) (rest := []) ⟨hx, hb, hml, hown, hts⟩ (c_X1_isWithin l g ad σ τ w st 1 2 (by unfold iR; omega) (by unfold iR; omega) (by unfold iR; omega)) (va_cwS 3 hts gX1_clash_X1_isWithin rfl rfl rfl (by decide +kernel) ⟨Nat.le_of_ble_eq_true rfl, Nat.le_of_ble_eq_true rfl⟩) hK hU  rfl hl.1 rfl (Nat.le_of_ble_eq_true rfl) dX1_clash_3 ⟨Nat.zero_le _, Nat.zero_le _⟩ (fun h1 => ?_) (fun h1 => ?_)
  · refine li_if_eq (tgt := 26) hx hb (by unfold iR; omega) dX1_clash_6 (by decide) (fun h => absurd h (by decide)) (fun _ => ?_)
    refine lv_iload_n hx hb dX1_clash_9 rfl (lv_at hl 2 rfl) ?_
    refine li_if_lt (tgt := 26) hx hb (by unfold iR; omega) dX1_clash_10 (by decide) (fun h2 => ?_) (fun h2 => ?_)
    · refine li_iconst hx hb dX1_clash_26 ?_
      exact bt_S (As := [.int (iI 0)]) (rest := []) ⟨hx, hb, hml, hown, hts⟩ (c_X1_need_f l hst g ad σ τ w sa) (va_cwS 1 hts gX1_clash_X1_need rfl rfl rfl (by decide +kernel) ⟨Nat.le_of_ble_eq_true rfl, Nat.le_of_ble_eq_true rfl⟩) hK hU hT bx_F.rf bx_Lc.nil rfl hl.1 rfl (Nat.le_of_ble_eq_true rfl) dX1_clash_27 ⟨Nat.le_of_ble_eq_true rfl, Nat.le_of_ble_eq_true rfl⟩ hout hlocks (Nat.le_of_ble_eq_true rfl) (Nat.le_of_ble_eq_true rfl)
    · refine lv_iload_n hx hb dX1_clash_13 rfl (lv_at hl 3 rfl) ?_
      refine li_iconst hx hb dX1_clash_14 ?_
      refine li_iconst hx hb dX1_clash_15 ?_
      refine bc_SB (As := [.int (iI wh), .int (iI 0), .int (iI 1)]) (rest := []) ⟨hx, hb, hml, hown, hts⟩ (c_X1_isWithin l g ad σ τ w wh 0 1 (by unfold iR; omega) (by unfold iR; omega) (by unfold iR; omega)) (va_cwS 3 hts gX1_clash_X1_isWithin rfl rfl rfl (by decide +kernel) ⟨Nat.le_of_ble_eq_true rfl, Nat.le_of_ble_eq_true rfl⟩) hK hU  rfl hl.1 rfl (Nat.le_of_ble_eq_true rfl) dX1_clash_16 ⟨Nat.zero_le _, Nat.zero_le _⟩ (fun h3 => ?_) (fun h3 => ?_)
      · refine li_if_eq (tgt := 26) hx hb (by unfold iR; omega) dX1_clash_19 (by decide) (fun h => absurd h (by decide)) (fun _ => ?_)
        refine li_iconst hx hb dX1_clash_22 ?_
        refine lv_goto (tgt := 27) hx hb dX1_clash_23 (by decide) ?_
        refine bc_SN (As := [.int (iI 1)]) (rest := []) ⟨hx, hb, hml, hown, hts⟩ (c_X1_need_t l g ad σ τ w) (va_cwS 1 hts gX1_clash_X1_need rfl rfl rfl (by decide +kernel) ⟨Nat.le_of_ble_eq_true rfl, Nat.le_of_ble_eq_true rfl⟩) hK hU rfl hl.1 rfl (Nat.le_of_ble_eq_true rfl) dX1_clash_27 ⟨Nat.zero_le _, Nat.zero_le _⟩ ?_
        refine lv_iload_n hx hb dX1_clash_30 rfl (lv_at hl 2 rfl) ?_
        exfalso
        omega
      · refine li_if_eq (tgt := 26) hx hb (by unfold iR; omega) dX1_clash_19 (by decide) (fun _ => ?_) (fun h => absurd (by decide) h)
        refine li_iconst hx hb dX1_clash_26 ?_
        exact bt_S (As := [.int (iI 0)]) (rest := []) ⟨hx, hb, hml, hown, hts⟩ (c_X1_need_f l hst g ad σ τ w sa) (va_cwS 1 hts gX1_clash_X1_need rfl rfl rfl (by decide +kernel) ⟨Nat.le_of_ble_eq_true rfl, Nat.le_of_ble_eq_true rfl⟩) hK hU hT bx_F.rf bx_Lc.nil rfl hl.1 rfl (Nat.le_of_ble_eq_true rfl) dX1_clash_27 ⟨Nat.le_of_ble_eq_true rfl, Nat.le_of_ble_eq_true rfl⟩ hout hlocks (Nat.le_of_ble_eq_true rfl) (Nat.le_of_ble_eq_true rfl)
  · refine li_if_eq (tgt := 26) hx hb (by unfold iR; omega) dX1_clash_6 (by decide) (fun _ => ?_) (fun h => absurd (by decide) h)
    refine li_iconst hx hb dX1_clash_26 ?_
    exact bt_S (As := [.int (iI 0)]) (rest := []) ⟨hx, hb, hml, hown, hts⟩ (c_X1_need_f l hst g ad σ τ w sa) (va_cwS 1 hts gX1_clash_X1_need rfl rfl rfl (by decide +kernel) ⟨Nat.le_of_ble_eq_true rfl, Nat.le_of_ble_eq_true rfl⟩) hK hU hT bx_F.rf bx_Lc.nil rfl hl.1 rfl (Nat.le_of_ble_eq_true rfl) dX1_clash_27 ⟨Nat.le_of_ble_eq_true rfl, Nat.le_of_ble_eq_true rfl⟩ hout hlocks (Nat.le_of_ble_eq_true rfl) (Nat.le_of_ble_eq_true rfl)

set_option maxHeartbeats 4000000 in
set_option maxRecDepth 100000 in
theorem c_X1_cuts (l : Launch) (g : bxG) (ad : bxA) (σ τ : bxS) (w : bxW) (p a f t : Int) (hpp : 0 ≤ p ∧ p < 60 ∧ σ 2 p 0 ≠ 0) (hB : bx_B σ) (hxa : 0 ≤ a ∧ a < 3) (hSf : -2000 ≤ f ∧ f ≤ 2000) (hSt : -2000 ≤ t ∧ t ≤ 2000) : Met l yX1_cuts wsX1_cuts ({ frames := 1, cells := 0, slots := 0, locals := 21 }) (va_Pc [.ref (ad 20 p), .int (iI a), .int (iI f), .int (iI t)] (fun U => bx_I g ad σ τ w U)) (k2_QcV (.int (iI (zB (cutp σ p a f t))))) 0 0 (fun _ => False) := by
  refine Met.ofW (cc := cX1_cuts) (maxL := 4) (ret := (some .boolean)) (by decide) rfl ?_
  intro Pg Ev s mI args below meth cd s₁ B hml hv
  obtain ⟨rfl, hU, hK⟩ := hv
  have hx := B.exec
  have hb := B.bytes
  have hr := B.returns
  have hts := atoms_spec (ws := wsX1_cuts) B.pre
  have hown : s.vm.findClass RX1 = some mI.cls := findClass_of_methodNamed B.named
  have hlocks := B.notSynchronized
  have hl := lv_entry ([.ref (ad 20 p), .int (iI a), .int (iI f), .int (iI t)]) (n := 4) (Nat.le_of_ble_eq_true rfl)
  rw [lg_entry_eq]
  generalize (lg_sl ([.ref (ad 20 p), .int (iI a), .int (iI f), .int (iI t)]) ++ List.replicate (4 - (lg_sl ([.ref (ad 20 p), .int (iI a), .int (iI f), .int (iI t)])).length) Slot.unset).toArray = ls at hl ⊢
  have hl : lv_has ls 4 [(0, .ref (ad 20 p)), (1, .int (iI a)), (2, .int (iI f)), (3, .int (iI t))] := hl
  refine lv_aload_n hx hb dX1_cuts_0 rfl (lv_at hl 0 rfl) ?_
  refine lv_iload_n hx hb dX1_cuts_1 rfl (lv_at hl 1 rfl) ?_
  refine bc_V (As := [.int (iI a)]) (rest := []) (kd := 20) (k := p) (ci := 0) ⟨hx, hb, hml, hown, hts⟩ (c_X0_hullLeast l g ad σ τ w p a hpp hB (by omega)) (cwV 1 hts gX1_cuts_X0_hullLeast rfl rfl rfl (by decide +kernel) ⟨Nat.le_of_ble_eq_true rfl, Nat.le_of_ble_eq_true rfl⟩) hK hU (bx_Lp (by omega) (by omega) hpp) rfl rfl rfl hl.1 rfl (Nat.le_of_ble_eq_true rfl) dX1_cuts_2 ⟨Nat.zero_le _, Nat.zero_le _⟩ ?_
  have h1 := hLo_bd hB hpp (a := a) (by omega) (by omega)
  refine lv_iload_n hx hb dX1_cuts_5 rfl (lv_at hl 3 rfl) ?_
  refine li_icmp_ge (tgt := 22) hx hb (by unfold iR; omega) (by unfold iR; omega) dX1_cuts_6 (by decide) (fun h2 => ?_) (fun h2 => ?_)
  · refine li_iconst hx hb dX1_cuts_22 ?_
    refine be_f hx hb hr hlocks ?_ dX1_cuts_23
    unfold cutp; omega
  · refine lv_iload_n hx hb dX1_cuts_9 rfl (lv_at hl 2 rfl) ?_
    refine lv_aload_n hx hb dX1_cuts_10 rfl (lv_at hl 0 rfl) ?_
    refine lv_iload_n hx hb dX1_cuts_11 rfl (lv_at hl 1 rfl) ?_
    refine bc_V (As := [.int (iI a)]) (rest := [.int (iI f)]) (kd := 20) (k := p) (ci := 0) ⟨hx, hb, hml, hown, hts⟩ (c_X0_hullGreatest l g ad σ τ w p a hpp hB (by omega)) (cwV 1 hts gX1_cuts_X0_hullGreatest rfl rfl rfl (by decide +kernel) ⟨Nat.le_of_ble_eq_true rfl, Nat.le_of_ble_eq_true rfl⟩) hK hU (bx_Lp (by omega) (by omega) hpp) rfl rfl rfl hl.1 rfl (Nat.le_of_ble_eq_true rfl) dX1_cuts_12 ⟨Nat.zero_le _, Nat.zero_le _⟩ ?_
    have h3 := hHi_bd hB hpp (a := a) (by omega) (by omega)
    refine li_icmp_ge (tgt := 22) hx hb (by unfold iR; omega) (by unfold iR; omega) dX1_cuts_15 (by decide) (fun h4 => ?_) (fun h4 => ?_)
    · refine li_iconst hx hb dX1_cuts_22 ?_
      refine be_f hx hb hr hlocks ?_ dX1_cuts_23
      unfold cutp; omega
    · refine li_iconst hx hb dX1_cuts_18 ?_
      refine lv_goto (tgt := 23) hx hb dX1_cuts_19 (by decide) ?_
      refine be_t hx hb hr hlocks ?_ dX1_cuts_23
      unfold cutp; omega

set_option maxHeartbeats 4000000 in
set_option maxRecDepth 100000 in
theorem c_X1_inside_t (l : Launch) (g : bxG) (ad : bxA) (σ τ : bxS) (w : bxW) (x y z tx ty tz k : Int) (hRx : iR x) (hRy : iR y) (hRz : iR z) (hRtx : iR tx) (hRty : iR ty) (hRtz : iR tz) (hRk : iR k) (hB : bx_B σ) (hg : (-2000 ≤ x ∧ x ≤ 2000 ∧ -2000 ≤ tx ∧ tx ≤ 2000 ∧ x < tx) ∧ (-2000 ≤ y ∧ y ≤ 2000 ∧ -2000 ≤ ty ∧ ty ≤ 2000 ∧ y < ty) ∧ (-2000 ≤ z ∧ z ≤ 2000 ∧ -2000 ≤ tz ∧ tz ≤ 2000 ∧ z < tz) ∧ 0 ≤ k) : Met l yX1_inside wsX1_inside ({ frames := 7, cells := 0, slots := 0, locals := 110 }) (va_Pc [.ref (ad 0 0), .int (iI x), .int (iI y), .int (iI z), .int (iI tx), .int (iI ty), .int (iI tz), .int (iI k)] (fun U => bx_I g ad σ τ w U)) (k2_QcV (.int (iI (nth (insP σ x y z tx ty tz) 0 (σ 0 0 0) k)))) 0 0 (fun _ => False) := by
  refine Met.ofW (cc := cX1_inside) (maxL := 11) (ret := (some .int)) (by decide) rfl ?_
  intro Pg Ev s mI args below meth cd s₁ B hml hv
  obtain ⟨rfl, hU, hK⟩ := hv
  have hx := B.exec
  have hb := B.bytes
  have hr := B.returns
  have hts := atoms_spec (ws := wsX1_inside) B.pre
  have hown : s.vm.findClass RX1 = some mI.cls := findClass_of_methodNamed B.named
  have hlocks := B.notSynchronized
  have hl := lv_entry ([.ref (ad 0 0), .int (iI x), .int (iI y), .int (iI z), .int (iI tx), .int (iI ty), .int (iI tz), .int (iI k)]) (n := 11) (Nat.le_of_ble_eq_true rfl)
  rw [lg_entry_eq]
  generalize (lg_sl ([.ref (ad 0 0), .int (iI x), .int (iI y), .int (iI z), .int (iI tx), .int (iI ty), .int (iI tz), .int (iI k)]) ++ List.replicate (11 - (lg_sl ([.ref (ad 0 0), .int (iI x), .int (iI y), .int (iI z), .int (iI tx), .int (iI ty), .int (iI tz), .int (iI k)])).length) Slot.unset).toArray = ls at hl ⊢
  have hl : lv_has ls 11 [(0, .ref (ad 0 0)), (1, .int (iI x)), (2, .int (iI y)), (3, .int (iI z)), (4, .int (iI tx)), (5, .int (iI ty)), (6, .int (iI tz)), (7, .int (iI k))] := hl
  have hinX1 : ∀ w ∈ wsX10, w ∈ wsX1_inside := by decide +kernel
  have hRx0 : -2147483648 ≤ x ∧ x < 2147483648 := hRx
  have hRy0 : -2147483648 ≤ y ∧ y < 2147483648 := hRy
  have hRz0 : -2147483648 ≤ z ∧ z < 2147483648 := hRz
  have hRtx0 : -2147483648 ≤ tx ∧ tx < 2147483648 := hRtx
  have hRty0 : -2147483648 ≤ ty ∧ ty < 2147483648 := hRty
  have hRtz0 : -2147483648 ≤ tz ∧ tz < 2147483648 := hRtz
  have hRk0 : -2147483648 ≤ k ∧ k < 2147483648 := hRk
  have hm0 := bB0 hB
  refine lv_iload_n hx hb dX1_inside_0 rfl (lv_at hl 1 rfl) ?_
  refine lv_iload hx hb dX1_inside_1 (lv_at hl 4 rfl) ?_
  refine bc_SB (As := [.int (iI x), .int (iI tx)]) (rest := []) ⟨hx, hb, hml, hown, hts⟩ (c_X1_isSeen l g ad σ τ w x tx (by unfold iR; omega) (by unfold iR; omega)) (va_cwS 2 hts gX1_inside_X1_isSeen rfl rfl rfl (by decide +kernel) ⟨Nat.le_of_ble_eq_true rfl, Nat.le_of_ble_eq_true rfl⟩) hK hU  rfl hl.1 rfl (Nat.le_of_ble_eq_true rfl) dX1_inside_3 ⟨Nat.zero_le _, Nat.zero_le _⟩ (fun h1 => ?_) (fun h1 => ?_)
  · refine li_if_eq (tgt := 36) hx hb (by unfold iR; omega) dX1_inside_6 (by decide) (fun h => absurd h (by decide)) (fun _ => ?_)
    refine lv_iload_n hx hb dX1_inside_9 rfl (lv_at hl 2 rfl) ?_
    refine lv_iload hx hb dX1_inside_10 (lv_at hl 5 rfl) ?_
    refine bc_SB (As := [.int (iI y), .int (iI ty)]) (rest := []) ⟨hx, hb, hml, hown, hts⟩ (c_X1_isSeen l g ad σ τ w y ty (by unfold iR; omega) (by unfold iR; omega)) (va_cwS 2 hts gX1_inside_X1_isSeen rfl rfl rfl (by decide +kernel) ⟨Nat.le_of_ble_eq_true rfl, Nat.le_of_ble_eq_true rfl⟩) hK hU  rfl hl.1 rfl (Nat.le_of_ble_eq_true rfl) dX1_inside_12 ⟨Nat.zero_le _, Nat.zero_le _⟩ (fun h2 => ?_) (fun h2 => ?_)
    · refine li_if_eq (tgt := 36) hx hb (by unfold iR; omega) dX1_inside_15 (by decide) (fun h => absurd h (by decide)) (fun _ => ?_)
      refine lv_iload_n hx hb dX1_inside_18 rfl (lv_at hl 3 rfl) ?_
      refine lv_iload hx hb dX1_inside_19 (lv_at hl 6 rfl) ?_
      refine bc_SB (As := [.int (iI z), .int (iI tz)]) (rest := []) ⟨hx, hb, hml, hown, hts⟩ (c_X1_isSeen l g ad σ τ w z tz (by unfold iR; omega) (by unfold iR; omega)) (va_cwS 2 hts gX1_inside_X1_isSeen rfl rfl rfl (by decide +kernel) ⟨Nat.le_of_ble_eq_true rfl, Nat.le_of_ble_eq_true rfl⟩) hK hU  rfl hl.1 rfl (Nat.le_of_ble_eq_true rfl) dX1_inside_21 ⟨Nat.zero_le _, Nat.zero_le _⟩ (fun h3 => ?_) (fun h3 => ?_)
      · refine li_if_eq (tgt := 36) hx hb (by unfold iR; omega) dX1_inside_24 (by decide) (fun h => absurd h (by decide)) (fun _ => ?_)
        refine lv_iload hx hb dX1_inside_27 (lv_at hl 7 rfl) ?_
        refine li_if_lt (tgt := 36) hx hb (by unfold iR; omega) dX1_inside_29 (by decide) (fun h4 => ?_) (fun h4 => ?_)
        · refine li_iconst hx hb dX1_inside_36 ?_
          exfalso
          omega
        · refine li_iconst hx hb dX1_inside_32 ?_
          refine lv_goto (tgt := 37) hx hb dX1_inside_33 (by decide) ?_
          refine bc_SN (As := [.int (iI 1)]) (rest := []) ⟨hx, hb, hml, hown, hts⟩ (c_X1_need_t l g ad σ τ w) (va_cwS 1 hts gX1_inside_X1_need rfl rfl rfl (by decide +kernel) ⟨Nat.le_of_ble_eq_true rfl, Nat.le_of_ble_eq_true rfl⟩) hK hU rfl hl.1 rfl (Nat.le_of_ble_eq_true rfl) dX1_inside_37 ⟨Nat.zero_le _, Nat.zero_le _⟩ ?_
          refine lv_iload hx hb dX1_inside_40 (lv_at hl 7 rfl) ?_
          refine lv_istore (lv' := [(8, .int (iI k)), (0, .ref (ad 0 0)), (1, .int (iI x)), (2, .int (iI y)), (3, .int (iI z)), (4, .int (iI tx)), (5, .int (iI ty)), (6, .int (iI tz)), (7, .int (iI k))]) hx hb dX1_inside_42 hl (by decide) rfl (fun ls hl => ?_)
          refine li_iconst hx hb dX1_inside_44 ?_
          refine lv_istore (lv' := [(9, .int (iI 0)), (8, .int (iI k)), (0, .ref (ad 0 0)), (1, .int (iI x)), (2, .int (iI y)), (3, .int (iI z)), (4, .int (iI tx)), (5, .int (iI ty)), (6, .int (iI tz)), (7, .int (iI k))]) hx hb dX1_inside_45 hl (by decide) rfl (fun ls hl => ?_)
          refine bl_loop (V := Int × Int) (nL := 11) (I := fun v => [(9, .int (iI v.1)), (8, .int (iI v.2)), (0, .ref (ad 0 0)), (1, .int (iI x)), (2, .int (iI y)), (3, .int (iI z)), (4, .int (iI tx)), (5, .int (iI ty)), (6, .int (iI tz))]) (Inv := fun v => (0 ≤ v.1 ∧ v.1 ≤ σ 0 0 0) ∧ (0 ≤ v.2 ∧ v.2 ≤ k) ∧ (nth (insP σ x y z tx ty tz) v.1 (σ 0 0 0) v.2 = nth (insP σ x y z tx ty tz) 0 (σ 0 0 0) k)) (μ := fun v => 60 - v.1) ?_ (0, k) (show (0 ≤ 0 ∧ 0 ≤ σ 0 0 0) ∧ (0 ≤ k ∧ k ≤ k) ∧ (nth (insP σ x y z tx ty tz) 0 (σ 0 0 0) k = nth (insP σ x y z tx ty tz) 0 (σ 0 0 0) k) from ⟨by omega, by omega, rfl⟩) ls (lv_sub hl [0, 1, 2, 3, 4, 5, 6, 7, 8] rfl)
          rintro ⟨i5, r5⟩ hI ih5 ls hl
          have hI : (0 ≤ i5 ∧ i5 ≤ σ 0 0 0) ∧ (0 ≤ r5 ∧ r5 ≤ k) ∧ (nth (insP σ x y z tx ty tz) i5 (σ 0 0 0) r5 = nth (insP σ x y z tx ty tz) 0 (σ 0 0 0) k) := hI
          obtain ⟨ha5, hb5, hc5⟩ := hI
          have hl : lv_has ls 11 [(9, .int (iI i5)), (8, .int (iI r5)), (0, .ref (ad 0 0)), (1, .int (iI x)), (2, .int (iI y)), (3, .int (iI z)), (4, .int (iI tx)), (5, .int (iI ty)), (6, .int (iI tz))] := hl
          have hm0 := bB0 hB
          refine lv_iload hx hb dX1_inside_47 (lv_at hl 0 rfl) ?_
          refine lv_aload_n hx hb dX1_inside_49 rfl (lv_at hl 2 rfl) ?_
          refine bg_X1_made hx hb hts hinX1 hown hK hU (hts (.fieldLink RX1 19 "ClashBoxes" "made" "I") (by decide +kernel)) dX1_inside_50 ?_
          have b6 := bB0 hB
          refine li_icmp_ge (tgt := 123) hx hb (by unfold iR; omega) (by unfold iR; omega) dX1_inside_53 (by decide) (fun h7 => ?_) (fun h7 => ?_)
          · refine li_iconst hx hb dX1_inside_123 ?_
            refine be_i hx hb hr hlocks ?_ dX1_inside_124
            rw [← hc5, nth_end _ _ (by omega)]
          · refine lv_aload_n hx hb dX1_inside_56 rfl (lv_at hl 2 rfl) ?_
            refine bg_X1_row hx hb hts hinX1 hown hK hU (hts (.fieldLink RX1 11 "ClashBoxes" "row" "[LClashBoxes$Part;") (by decide +kernel)) dX1_inside_57 ?_
            refine lv_iload hx hb dX1_inside_60 (lv_at hl 0 rfl) ?_
            refine bx_row hx hb hK hU (by omega) (by omega) dX1_inside_62 (fun h8 => ?_) (fun h8 => ?_)
            · refine lv_astoreN (lv' := [(10, .null), (9, .int (iI i5)), (8, .int (iI r5)), (0, .ref (ad 0 0)), (1, .int (iI x)), (2, .int (iI y)), (3, .int (iI z)), (4, .int (iI tx)), (5, .int (iI ty)), (6, .int (iI tz))]) hx hb dX1_inside_63 hl (by decide) rfl (fun ls hl => ?_)
              refine lv_aloadN hx hb dX1_inside_65 (lv_at hl 0 rfl) ?_
              refine lv_ifnullN (tgt := 117) hx hb dX1_inside_67 (by decide) ?_
              refine li_iinc (k0 := 1) (lv' := [(9, .int (iI (i5 + 1))), (10, .null), (8, .int (iI r5)), (0, .ref (ad 0 0)), (1, .int (iI x)), (2, .int (iI y)), (3, .int (iI z)), (4, .int (iI tx)), (5, .int (iI ty)), (6, .int (iI tz))]) hx hb dX1_inside_117 hl rfl (by decide) rfl (fun ls hl => ?_)
              refine lv_goto (tgt := 47) hx hb dX1_inside_120 (by decide) ?_
              exact ih5 (i5 + 1, r5) (show (0 ≤ (i5 + 1) ∧ (i5 + 1) ≤ σ 0 0 0) ∧ (0 ≤ r5 ∧ r5 ≤ k) ∧ (nth (insP σ x y z tx ty tz) (i5 + 1) (σ 0 0 0) r5 = nth (insP σ x y z tx ty tz) 0 (σ 0 0 0) k) from ⟨by omega, by omega, by rw [← hc5, nth_f (i := i5) r5 (by omega) (fun q => q.1 h8)]⟩) (show 0 ≤ 60 - (i5 + 1) by omega) (show 60 - (i5 + 1) < 60 - i5 by omega) ls (lv_sub hl [0, 2, 3, 4, 5, 6, 7, 8, 9] rfl)
            · have hp9 : 0 ≤ i5 ∧ i5 < 60 ∧ σ 2 i5 0 ≠ 0 := ⟨by omega, by omega, h8⟩
              refine lv_astore (lv' := [(10, .ref (ad 20 i5)), (9, .int (iI i5)), (8, .int (iI r5)), (0, .ref (ad 0 0)), (1, .int (iI x)), (2, .int (iI y)), (3, .int (iI z)), (4, .int (iI tx)), (5, .int (iI ty)), (6, .int (iI tz))]) hx hb dX1_inside_63 hl (by decide) rfl (fun ls hl => ?_)
              refine lv_aload hx hb dX1_inside_65 (lv_at hl 0 rfl) ?_
              refine lv_ifnull hx hb dX1_inside_67 ?_
              refine lv_aload hx hb dX1_inside_70 (lv_at hl 0 rfl) ?_
              refine li_iconst hx hb dX1_inside_72 ?_
              refine lv_iload_n hx hb dX1_inside_73 rfl (lv_at hl 4 rfl) ?_
              refine lv_iload hx hb dX1_inside_74 (lv_at hl 7 rfl) ?_
              refine bc_SB (As := [.ref (ad 20 i5), .int (iI 0), .int (iI x), .int (iI tx)]) (rest := []) ⟨hx, hb, hml, hown, hts⟩ (c_X1_cuts l g ad σ τ w i5 0 x tx hp9 hB (by omega) (by omega) (by omega)) (va_cwS 4 hts gX1_inside_X1_cuts rfl rfl rfl (by decide +kernel) ⟨Nat.le_of_ble_eq_true rfl, Nat.le_of_ble_eq_true rfl⟩) hK hU  rfl hl.1 rfl (Nat.le_of_ble_eq_true rfl) dX1_inside_76 ⟨Nat.zero_le _, Nat.zero_le _⟩ (fun h10 => ?_) (fun h10 => ?_)
              · refine li_if_eq (tgt := 117) hx hb (by unfold iR; omega) dX1_inside_79 (by decide) (fun h => absurd h (by decide)) (fun _ => ?_)
                refine lv_aload hx hb dX1_inside_82 (lv_at hl 0 rfl) ?_
                refine li_iconst hx hb dX1_inside_84 ?_
                refine lv_iload_n hx hb dX1_inside_85 rfl (lv_at hl 5 rfl) ?_
                refine lv_iload hx hb dX1_inside_86 (lv_at hl 8 rfl) ?_
                refine bc_SB (As := [.ref (ad 20 i5), .int (iI 1), .int (iI y), .int (iI ty)]) (rest := []) ⟨hx, hb, hml, hown, hts⟩ (c_X1_cuts l g ad σ τ w i5 1 y ty hp9 hB (by omega) (by omega) (by omega)) (va_cwS 4 hts gX1_inside_X1_cuts rfl rfl rfl (by decide +kernel) ⟨Nat.le_of_ble_eq_true rfl, Nat.le_of_ble_eq_true rfl⟩) hK hU  rfl hl.1 rfl (Nat.le_of_ble_eq_true rfl) dX1_inside_88 ⟨Nat.zero_le _, Nat.zero_le _⟩ (fun h11 => ?_) (fun h11 => ?_)
                · refine li_if_eq (tgt := 117) hx hb (by unfold iR; omega) dX1_inside_91 (by decide) (fun h => absurd h (by decide)) (fun _ => ?_)
                  refine lv_aload hx hb dX1_inside_94 (lv_at hl 0 rfl) ?_
                  refine li_iconst hx hb dX1_inside_96 ?_
                  refine lv_iload_n hx hb dX1_inside_97 rfl (lv_at hl 6 rfl) ?_
                  refine lv_iload hx hb dX1_inside_98 (lv_at hl 9 rfl) ?_
                  refine bc_SB (As := [.ref (ad 20 i5), .int (iI 2), .int (iI z), .int (iI tz)]) (rest := []) ⟨hx, hb, hml, hown, hts⟩ (c_X1_cuts l g ad σ τ w i5 2 z tz hp9 hB (by omega) (by omega) (by omega)) (va_cwS 4 hts gX1_inside_X1_cuts rfl rfl rfl (by decide +kernel) ⟨Nat.le_of_ble_eq_true rfl, Nat.le_of_ble_eq_true rfl⟩) hK hU  rfl hl.1 rfl (Nat.le_of_ble_eq_true rfl) dX1_inside_100 ⟨Nat.zero_le _, Nat.zero_le _⟩ (fun h12 => ?_) (fun h12 => ?_)
                  · refine li_if_eq (tgt := 117) hx hb (by unfold iR; omega) dX1_inside_103 (by decide) (fun h => absurd h (by decide)) (fun _ => ?_)
                    refine lv_iload hx hb dX1_inside_106 (lv_at hl 2 rfl) ?_
                    refine li_if_ne (tgt := 114) hx hb (by unfold iR; omega) dX1_inside_108 (by decide) (fun h13 => ?_) (fun h13 => ?_)
                    · refine li_iinc (k0 := 2) (lv' := [(8, .int (iI (r5 + (-1)))), (10, .ref (ad 20 i5)), (9, .int (iI i5)), (0, .ref (ad 0 0)), (1, .int (iI x)), (2, .int (iI y)), (3, .int (iI z)), (4, .int (iI tx)), (5, .int (iI ty)), (6, .int (iI tz))]) hx hb dX1_inside_114 hl rfl (by decide) rfl (fun ls hl => ?_)
                      refine li_iinc (k0 := 2) (lv' := [(9, .int (iI (i5 + 1))), (8, .int (iI (r5 + (-1)))), (10, .ref (ad 20 i5)), (0, .ref (ad 0 0)), (1, .int (iI x)), (2, .int (iI y)), (3, .int (iI z)), (4, .int (iI tx)), (5, .int (iI ty)), (6, .int (iI tz))]) hx hb dX1_inside_117 hl rfl (by decide) rfl (fun ls hl => ?_)
                      refine lv_goto (tgt := 47) hx hb dX1_inside_120 (by decide) ?_
                      exact ih5 (i5 + 1, r5 + (-1)) (show (0 ≤ (i5 + 1) ∧ (i5 + 1) ≤ σ 0 0 0) ∧ (0 ≤ (r5 + (-1)) ∧ (r5 + (-1)) ≤ k) ∧ (nth (insP σ x y z tx ty tz) (i5 + 1) (σ 0 0 0) (r5 + (-1)) = nth (insP σ x y z tx ty tz) 0 (σ 0 0 0) k) from ⟨by omega, by omega, by rw [← hc5, nth_t (i := i5) r5 (by omega) ⟨h8, h10, h11, h12⟩, if_neg (by omega)]; rfl⟩) (show 0 ≤ 60 - (i5 + 1) by omega) (show 60 - (i5 + 1) < 60 - i5 by omega) ls (lv_sub hl [0, 1, 3, 4, 5, 6, 7, 8, 9] rfl)
                    · refine lv_iload hx hb dX1_inside_111 (lv_at hl 1 rfl) ?_
                      refine be_i hx hb hr hlocks ?_ dX1_inside_113
                      rw [← hc5, nth_t (i := i5) r5 (by omega) ⟨h8, h10, h11, h12⟩, if_pos (by omega)]
                  · refine li_if_eq (tgt := 117) hx hb (by unfold iR; omega) dX1_inside_103 (by decide) (fun _ => ?_) (fun h => absurd (by decide) h)
                    refine li_iinc (k0 := 1) (lv' := [(9, .int (iI (i5 + 1))), (10, .ref (ad 20 i5)), (8, .int (iI r5)), (0, .ref (ad 0 0)), (1, .int (iI x)), (2, .int (iI y)), (3, .int (iI z)), (4, .int (iI tx)), (5, .int (iI ty)), (6, .int (iI tz))]) hx hb dX1_inside_117 hl rfl (by decide) rfl (fun ls hl => ?_)
                    refine lv_goto (tgt := 47) hx hb dX1_inside_120 (by decide) ?_
                    exact ih5 (i5 + 1, r5) (show (0 ≤ (i5 + 1) ∧ (i5 + 1) ≤ σ 0 0 0) ∧ (0 ≤ r5 ∧ r5 ≤ k) ∧ (nth (insP σ x y z tx ty tz) (i5 + 1) (σ 0 0 0) r5 = nth (insP σ x y z tx ty tz) 0 (σ 0 0 0) k) from ⟨by omega, by omega, by rw [← hc5, nth_f (i := i5) r5 (by omega) (fun q => h12 q.2.2.2)]⟩) (show 0 ≤ 60 - (i5 + 1) by omega) (show 60 - (i5 + 1) < 60 - i5 by omega) ls (lv_sub hl [0, 2, 3, 4, 5, 6, 7, 8, 9] rfl)
                · refine li_if_eq (tgt := 117) hx hb (by unfold iR; omega) dX1_inside_91 (by decide) (fun _ => ?_) (fun h => absurd (by decide) h)
                  refine li_iinc (k0 := 1) (lv' := [(9, .int (iI (i5 + 1))), (10, .ref (ad 20 i5)), (8, .int (iI r5)), (0, .ref (ad 0 0)), (1, .int (iI x)), (2, .int (iI y)), (3, .int (iI z)), (4, .int (iI tx)), (5, .int (iI ty)), (6, .int (iI tz))]) hx hb dX1_inside_117 hl rfl (by decide) rfl (fun ls hl => ?_)
                  refine lv_goto (tgt := 47) hx hb dX1_inside_120 (by decide) ?_
                  exact ih5 (i5 + 1, r5) (show (0 ≤ (i5 + 1) ∧ (i5 + 1) ≤ σ 0 0 0) ∧ (0 ≤ r5 ∧ r5 ≤ k) ∧ (nth (insP σ x y z tx ty tz) (i5 + 1) (σ 0 0 0) r5 = nth (insP σ x y z tx ty tz) 0 (σ 0 0 0) k) from ⟨by omega, by omega, by rw [← hc5, nth_f (i := i5) r5 (by omega) (fun q => h11 q.2.2.1)]⟩) (show 0 ≤ 60 - (i5 + 1) by omega) (show 60 - (i5 + 1) < 60 - i5 by omega) ls (lv_sub hl [0, 2, 3, 4, 5, 6, 7, 8, 9] rfl)
              · refine li_if_eq (tgt := 117) hx hb (by unfold iR; omega) dX1_inside_79 (by decide) (fun _ => ?_) (fun h => absurd (by decide) h)
                refine li_iinc (k0 := 1) (lv' := [(9, .int (iI (i5 + 1))), (10, .ref (ad 20 i5)), (8, .int (iI r5)), (0, .ref (ad 0 0)), (1, .int (iI x)), (2, .int (iI y)), (3, .int (iI z)), (4, .int (iI tx)), (5, .int (iI ty)), (6, .int (iI tz))]) hx hb dX1_inside_117 hl rfl (by decide) rfl (fun ls hl => ?_)
                refine lv_goto (tgt := 47) hx hb dX1_inside_120 (by decide) ?_
                exact ih5 (i5 + 1, r5) (show (0 ≤ (i5 + 1) ∧ (i5 + 1) ≤ σ 0 0 0) ∧ (0 ≤ r5 ∧ r5 ≤ k) ∧ (nth (insP σ x y z tx ty tz) (i5 + 1) (σ 0 0 0) r5 = nth (insP σ x y z tx ty tz) 0 (σ 0 0 0) k) from ⟨by omega, by omega, by rw [← hc5, nth_f (i := i5) r5 (by omega) (fun q => h10 q.2.1)]⟩) (show 0 ≤ 60 - (i5 + 1) by omega) (show 60 - (i5 + 1) < 60 - i5 by omega) ls (lv_sub hl [0, 2, 3, 4, 5, 6, 7, 8, 9] rfl)
      · refine li_if_eq (tgt := 36) hx hb (by unfold iR; omega) dX1_inside_24 (by decide) (fun _ => ?_) (fun h => absurd (by decide) h)
        refine li_iconst hx hb dX1_inside_36 ?_
        exfalso
        omega
    · refine li_if_eq (tgt := 36) hx hb (by unfold iR; omega) dX1_inside_15 (by decide) (fun _ => ?_) (fun h => absurd (by decide) h)
      refine li_iconst hx hb dX1_inside_36 ?_
      exfalso
      omega
  · refine li_if_eq (tgt := 36) hx hb (by unfold iR; omega) dX1_inside_6 (by decide) (fun _ => ?_) (fun h => absurd (by decide) h)
    refine li_iconst hx hb dX1_inside_36 ?_
    exfalso
    omega

set_option maxHeartbeats 4000000 in
set_option maxRecDepth 100000 in
theorem c_X1_inside_f (l : Launch) (hst : l.stackTraces = false) (g : bxG) (ad : bxA) (σ τ : bxS) (w : bxW) (sa : Nat → Nat) (x y z tx ty tz k : Int) (hRx : iR x) (hRy : iR y) (hRz : iR z) (hRtx : iR tx) (hRty : iR ty) (hRtz : iR tz) (hRk : iR k) (hB : bx_B σ) (hg : ¬ ((-2000 ≤ x ∧ x ≤ 2000 ∧ -2000 ≤ tx ∧ tx ≤ 2000 ∧ x < tx) ∧ (-2000 ≤ y ∧ y ≤ 2000 ∧ -2000 ≤ ty ∧ ty ≤ 2000 ∧ y < ty) ∧ (-2000 ≤ z ∧ z ≤ 2000 ∧ -2000 ≤ tz ∧ tz ≤ 2000 ∧ z < tz) ∧ 0 ≤ k)) : vx_Met l yX1_inside wsX1_inside ({ frames := 7, cells := 1, slots := 6, locals := 110 }) (va_Pc [.ref (ad 0 0), .int (iI x), .int (iI y), .int (iI z), .int (iI tx), .int (iI ty), .int (iI tz), .int (iI k)] (fun U => bt_I g ad σ τ w sa U)) bq_no (bq_X g ad σ τ w (fun E => E = bt_iae)) 1 6 (bq_fr g) := by
  refine vx_ofW (cc := cX1_inside) (maxL := 11) (ret := (some .int)) (by decide) rfl ?_
  intro Pg Ev s mI args below meth cd s₁ B hml hout hv
  obtain ⟨rfl, ⟨hU, hK⟩, hT⟩ := hv
  have hx := B.exec
  have hb := B.bytes
  have hr := B.returns
  have hts := atoms_spec (ws := wsX1_inside) B.pre
  have hown : s.vm.findClass RX1 = some mI.cls := findClass_of_methodNamed B.named
  have hlocks := B.notSynchronized
  have hl := lv_entry ([.ref (ad 0 0), .int (iI x), .int (iI y), .int (iI z), .int (iI tx), .int (iI ty), .int (iI tz), .int (iI k)]) (n := 11) (Nat.le_of_ble_eq_true rfl)
  rw [lg_entry_eq]
  generalize (lg_sl ([.ref (ad 0 0), .int (iI x), .int (iI y), .int (iI z), .int (iI tx), .int (iI ty), .int (iI tz), .int (iI k)]) ++ List.replicate (11 - (lg_sl ([.ref (ad 0 0), .int (iI x), .int (iI y), .int (iI z), .int (iI tx), .int (iI ty), .int (iI tz), .int (iI k)])).length) Slot.unset).toArray = ls at hl ⊢
  have hl : lv_has ls 11 [(0, .ref (ad 0 0)), (1, .int (iI x)), (2, .int (iI y)), (3, .int (iI z)), (4, .int (iI tx)), (5, .int (iI ty)), (6, .int (iI tz)), (7, .int (iI k))] := hl
  have hRx0 : -2147483648 ≤ x ∧ x < 2147483648 := hRx
  have hRy0 : -2147483648 ≤ y ∧ y < 2147483648 := hRy
  have hRz0 : -2147483648 ≤ z ∧ z < 2147483648 := hRz
  have hRtx0 : -2147483648 ≤ tx ∧ tx < 2147483648 := hRtx
  have hRty0 : -2147483648 ≤ ty ∧ ty < 2147483648 := hRty
  have hRtz0 : -2147483648 ≤ tz ∧ tz < 2147483648 := hRtz
  have hRk0 : -2147483648 ≤ k ∧ k < 2147483648 := hRk
  have hm0 := bB0 hB
  refine lv_iload_n hx hb dX1_inside_0 rfl (lv_at hl 1 rfl) ?_
  refine lv_iload hx hb dX1_inside_1 (lv_at hl 4 rfl) ?_
  refine bc_SB (As := [.int (iI x), .int (iI tx)]) (rest := []) ⟨hx, hb, hml, hown, hts⟩ (c_X1_isSeen l g ad σ τ w x tx (by unfold iR; omega) (by unfold iR; omega)) (va_cwS 2 hts gX1_inside_X1_isSeen rfl rfl rfl (by decide +kernel) ⟨Nat.le_of_ble_eq_true rfl, Nat.le_of_ble_eq_true rfl⟩) hK hU  rfl hl.1 rfl (Nat.le_of_ble_eq_true rfl) dX1_inside_3 ⟨Nat.zero_le _, Nat.zero_le _⟩ (fun h1 => ?_) (fun h1 => ?_)
  · refine li_if_eq (tgt := 36) hx hb (by unfold iR; omega) dX1_inside_6 (by decide) (fun h => absurd h (by decide)) (fun _ => ?_)
    refine lv_iload_n hx hb dX1_inside_9 rfl (lv_at hl 2 rfl) ?_
    refine lv_iload hx hb dX1_inside_10 (lv_at hl 5 rfl) ?_
    refine bc_SB (As := [.int (iI y), .int (iI ty)]) (rest := []) ⟨hx, hb, hml, hown, hts⟩ (c_X1_isSeen l g ad σ τ w y ty (by unfold iR; omega) (by unfold iR; omega)) (va_cwS 2 hts gX1_inside_X1_isSeen rfl rfl rfl (by decide +kernel) ⟨Nat.le_of_ble_eq_true rfl, Nat.le_of_ble_eq_true rfl⟩) hK hU  rfl hl.1 rfl (Nat.le_of_ble_eq_true rfl) dX1_inside_12 ⟨Nat.zero_le _, Nat.zero_le _⟩ (fun h2 => ?_) (fun h2 => ?_)
    · refine li_if_eq (tgt := 36) hx hb (by unfold iR; omega) dX1_inside_15 (by decide) (fun h => absurd h (by decide)) (fun _ => ?_)
      refine lv_iload_n hx hb dX1_inside_18 rfl (lv_at hl 3 rfl) ?_
      refine lv_iload hx hb dX1_inside_19 (lv_at hl 6 rfl) ?_
      refine bc_SB (As := [.int (iI z), .int (iI tz)]) (rest := []) ⟨hx, hb, hml, hown, hts⟩ (c_X1_isSeen l g ad σ τ w z tz (by unfold iR; omega) (by unfold iR; omega)) (va_cwS 2 hts gX1_inside_X1_isSeen rfl rfl rfl (by decide +kernel) ⟨Nat.le_of_ble_eq_true rfl, Nat.le_of_ble_eq_true rfl⟩) hK hU  rfl hl.1 rfl (Nat.le_of_ble_eq_true rfl) dX1_inside_21 ⟨Nat.zero_le _, Nat.zero_le _⟩ (fun h3 => ?_) (fun h3 => ?_)
      · refine li_if_eq (tgt := 36) hx hb (by unfold iR; omega) dX1_inside_24 (by decide) (fun h => absurd h (by decide)) (fun _ => ?_)
        refine lv_iload hx hb dX1_inside_27 (lv_at hl 7 rfl) ?_
        refine li_if_lt (tgt := 36) hx hb (by unfold iR; omega) dX1_inside_29 (by decide) (fun h4 => ?_) (fun h4 => ?_)
        · refine li_iconst hx hb dX1_inside_36 ?_
          exact bt_S (As := [.int (iI 0)]) (rest := []) ⟨hx, hb, hml, hown, hts⟩ (c_X1_need_f l hst g ad σ τ w sa) (va_cwS 1 hts gX1_inside_X1_need rfl rfl rfl (by decide +kernel) ⟨Nat.le_of_ble_eq_true rfl, Nat.le_of_ble_eq_true rfl⟩) hK hU hT bx_F.rf bx_Lc.nil rfl hl.1 rfl (Nat.le_of_ble_eq_true rfl) dX1_inside_37 ⟨Nat.le_of_ble_eq_true rfl, Nat.le_of_ble_eq_true rfl⟩ hout hlocks (Nat.le_of_ble_eq_true rfl) (Nat.le_of_ble_eq_true rfl)
        · refine li_iconst hx hb dX1_inside_32 ?_
          refine lv_goto (tgt := 37) hx hb dX1_inside_33 (by decide) ?_
          refine bc_SN (As := [.int (iI 1)]) (rest := []) ⟨hx, hb, hml, hown, hts⟩ (c_X1_need_t l g ad σ τ w) (va_cwS 1 hts gX1_inside_X1_need rfl rfl rfl (by decide +kernel) ⟨Nat.le_of_ble_eq_true rfl, Nat.le_of_ble_eq_true rfl⟩) hK hU rfl hl.1 rfl (Nat.le_of_ble_eq_true rfl) dX1_inside_37 ⟨Nat.zero_le _, Nat.zero_le _⟩ ?_
          refine lv_iload hx hb dX1_inside_40 (lv_at hl 7 rfl) ?_
          exfalso
          omega
      · refine li_if_eq (tgt := 36) hx hb (by unfold iR; omega) dX1_inside_24 (by decide) (fun _ => ?_) (fun h => absurd (by decide) h)
        refine li_iconst hx hb dX1_inside_36 ?_
        exact bt_S (As := [.int (iI 0)]) (rest := []) ⟨hx, hb, hml, hown, hts⟩ (c_X1_need_f l hst g ad σ τ w sa) (va_cwS 1 hts gX1_inside_X1_need rfl rfl rfl (by decide +kernel) ⟨Nat.le_of_ble_eq_true rfl, Nat.le_of_ble_eq_true rfl⟩) hK hU hT bx_F.rf bx_Lc.nil rfl hl.1 rfl (Nat.le_of_ble_eq_true rfl) dX1_inside_37 ⟨Nat.le_of_ble_eq_true rfl, Nat.le_of_ble_eq_true rfl⟩ hout hlocks (Nat.le_of_ble_eq_true rfl) (Nat.le_of_ble_eq_true rfl)
    · refine li_if_eq (tgt := 36) hx hb (by unfold iR; omega) dX1_inside_15 (by decide) (fun _ => ?_) (fun h => absurd (by decide) h)
      refine li_iconst hx hb dX1_inside_36 ?_
      exact bt_S (As := [.int (iI 0)]) (rest := []) ⟨hx, hb, hml, hown, hts⟩ (c_X1_need_f l hst g ad σ τ w sa) (va_cwS 1 hts gX1_inside_X1_need rfl rfl rfl (by decide +kernel) ⟨Nat.le_of_ble_eq_true rfl, Nat.le_of_ble_eq_true rfl⟩) hK hU hT bx_F.rf bx_Lc.nil rfl hl.1 rfl (Nat.le_of_ble_eq_true rfl) dX1_inside_37 ⟨Nat.le_of_ble_eq_true rfl, Nat.le_of_ble_eq_true rfl⟩ hout hlocks (Nat.le_of_ble_eq_true rfl) (Nat.le_of_ble_eq_true rfl)
  · refine li_if_eq (tgt := 36) hx hb (by unfold iR; omega) dX1_inside_6 (by decide) (fun _ => ?_) (fun h => absurd (by decide) h)
    refine li_iconst hx hb dX1_inside_36 ?_
    exact bt_S (As := [.int (iI 0)]) (rest := []) ⟨hx, hb, hml, hown, hts⟩ (c_X1_need_f l hst g ad σ τ w sa) (va_cwS 1 hts gX1_inside_X1_need rfl rfl rfl (by decide +kernel) ⟨Nat.le_of_ble_eq_true rfl, Nat.le_of_ble_eq_true rfl⟩) hK hU hT bx_F.rf bx_Lc.nil rfl hl.1 rfl (Nat.le_of_ble_eq_true rfl) dX1_inside_37 ⟨Nat.le_of_ble_eq_true rfl, Nat.le_of_ble_eq_true rfl⟩ hout hlocks (Nat.le_of_ble_eq_true rfl) (Nat.le_of_ble_eq_true rfl)
