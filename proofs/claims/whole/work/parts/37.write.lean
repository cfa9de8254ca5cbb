set_option maxHeartbeats 4000000 in
set_option maxRecDepth 100000 in
theorem c_X0_setCore (l : Launch) (g : bxG) (ad : bxA) (σ τ : bxS) (w : bxW) (p a f t : Int) (hpp : 0 ≤ p ∧ p < 60 ∧ σ 2 p 0 ≠ 0) (hxa : 0 ≤ a ∧ a < 3) : Met l yX0_setCore wsX0_setCore ({ frames := 0, cells := 0, slots := 0, locals := 0 }) (va_Pc [.ref (ad 20 p), .int (iI a), .int (iI f), .int (iI t)] (fun U => bx_I g ad σ τ w U)) (bq_W none g ad (up3 (up3 σ 7 p a f) 8 p a t) τ w) 0 0 (bq_fr g) := by
  refine Met.ofW (cc := cX0_setCore) (maxL := 4) (ret := none) (by decide) rfl ?_
  intro Pg Ev s mI args below meth cd s₁ B hml hv
  obtain ⟨rfl, hU, hK⟩ := hv
  have hx := B.exec
  have hb := B.bytes
  have hr := B.returns
  have hts := atoms_spec (ws := wsX0_setCore) B.pre
  have hown : s.vm.findClass RX0 = some mI.cls := findClass_of_methodNamed B.named
  have hlocks := B.notSynchronized
  have hF : bx_F g s.heap s.heap := bx_F.rf
  have hlc : bx_Lc g [] := bx_Lc.nil
  have hl := lv_entry ([.ref (ad 20 p), .int (iI a), .int (iI f), .int (iI t)]) (n := 4) (Nat.le_of_ble_eq_true rfl)
  rw [lg_entry_eq]
  generalize (lg_sl ([.ref (ad 20 p), .int (iI a), .int (iI f), .int (iI t)]) ++ List.replicate (4 - (lg_sl ([.ref (ad 20 p), .int (iI a), .int (iI f), .int (iI t)])).length) Slot.unset).toArray = ls at hl ⊢
  have hl : lv_has ls 4 [(0, .ref (ad 20 p)), (1, .int (iI a)), (2, .int (iI f)), (3, .int (iI t))] := hl
  have hinX0 : ∀ w ∈ wsX00, w ∈ wsX0_setCore := by decide +kernel
  refine lv_aload_n hx hb dX0_setCore_0 rfl (lv_at hl 0 rfl) ?_
  refine bg_X0_least hx hb hts hinX0 hown hK hU hpp (hts (.fieldLink RX0 9 "ClashBoxes$Part" "least" "[I") (by decide +kernel)) dX0_setCore_1 ?_
  refine lv_iload_n hx hb dX0_setCore_4 rfl (lv_at hl 1 rfl) ?_
  refine lv_iload_n hx hb dX0_setCore_5 rfl (lv_at hl 2 rfl) ?_
  refine bs_21 hx hb hK hU hlc hpp (by omega) (by omega) dX0_setCore_6 (fun H locs hU hF1 hlc => ?_)
  have hF := hF.tr hF1
  refine lv_aload_n hx hb dX0_setCore_7 rfl (lv_at hl 0 rfl) ?_
  refine bg_X0_greatest hx hb hts hinX0 hown hK hU hpp (hts (.fieldLink RX0 15 "ClashBoxes$Part" "greatest" "[I") (by decide +kernel)) dX0_setCore_8 ?_
  refine lv_iload_n hx hb dX0_setCore_11 rfl (lv_at hl 1 rfl) ?_
  refine lv_iload_n hx hb dX0_setCore_12 rfl (lv_at hl 3 rfl) ?_
  refine bs_22 hx hb hK hU hlc hpp (by omega) (by omega) dX0_setCore_13 (fun H locs hU hF1 hlc => ?_)
  have hF := hF.tr hF1
  exact bw_n hx hb hr hlocks (by first | exact hU | simpa using hU) hF hlc dX0_setCore_14

set_option maxHeartbeats 4000000 in
set_option maxRecDepth 100000 in
theorem c_X1_margin_t (l : Launch) (g : bxG) (ad : bxA) (σ τ : bxS) (w : bxW) (p z : Int) (hRp : iR p) (hRz : iR z) (hB : bx_B σ) (hg : (0 ≤ p ∧ p < 60 ∧ σ 2 p 0 ≠ 0) ∧ 0 ≤ z ∧ z ≤ 50) : Met l yX1_margin wsX1_margin ({ frames := 7, cells := 0, slots := 0, locals := 112 }) (va_Pc [.ref (ad 0 0), .int (iI p), .int (iI z)] (fun U => bx_I g ad σ τ w U)) (bq_W (some (.int (iI (σ 4 p 0)))) g ad (up3 σ 4 p 0 z) τ w) 0 0 (bq_fr g) := by
  refine Met.ofW (cc := cX1_margin) (maxL := 5) (ret := (some .int)) (by decide) rfl ?_
  intro Pg Ev s mI args below meth cd s₁ B hml hv
  obtain ⟨rfl, hU, hK⟩ := hv
  have hx := B.exec
  have hb := B.bytes
  have hr := B.returns
  have hts := atoms_spec (ws := wsX1_margin) B.pre
  have hown : s.vm.findClass RX1 = some mI.cls := findClass_of_methodNamed B.named
  have hlocks := B.notSynchronized
  have hF : bx_F g s.heap s.heap := bx_F.rf
  have hlc : bx_Lc g [] := bx_Lc.nil
  have hl := lv_entry ([.ref (ad 0 0), .int (iI p), .int (iI z)]) (n := 5) (Nat.le_of_ble_eq_true rfl)
  rw [lg_entry_eq]
  generalize (lg_sl ([.ref (ad 0 0), .int (iI p), .int (iI z)]) ++ List.replicate (5 - (lg_sl ([.ref (ad 0 0), .int (iI p), .int (iI z)])).length) Slot.unset).toArray = ls at hl ⊢
  have hl : lv_has ls 5 [(0, .ref (ad 0 0)), (1, .int (iI p)), (2, .int (iI z))] := hl
  have hinX0 : ∀ w ∈ wsX00, w ∈ wsX1_margin := by decide +kernel
  have hRp0 : -2147483648 ≤ p ∧ p < 2147483648 := hRp
  have hRz0 : -2147483648 ≤ z ∧ z < 2147483648 := hRz
  refine lv_aload_n hx hb dX1_margin_0 rfl (lv_at hl 0 rfl) ?_
  refine lv_iload_n hx hb dX1_margin_1 rfl (lv_at hl 1 rfl) ?_
  by_cases hp1 : 0 ≤ p ∧ p < 60 ∧ σ 2 p 0 ≠ 0
  · refine bc_V (As := [.int (iI p)]) (rest := []) (kd := 0) (k := 0) (ci := 1) ⟨hx, hb, hml, hown, hts⟩ (c_X1_partAt_t l g ad σ τ w p hp1) (cwV 1 hts gX1_margin_X1_partAt rfl rfl rfl (by decide +kernel) ⟨Nat.le_of_ble_eq_true rfl, Nat.le_of_ble_eq_true rfl⟩) hK hU (bx_L0 (by omega)) rfl rfl rfl hl.1 rfl (Nat.le_of_ble_eq_true rfl) dX1_margin_2 ⟨Nat.le_of_ble_eq_true rfl, Nat.le_of_ble_eq_true rfl⟩ ?_
    refine lv_astore_n (lv' := [(3, .ref (ad 20 p)), (0, .ref (ad 0 0)), (1, .int (iI p)), (2, .int (iI z))]) hx hb dX1_margin_5 rfl hl (by decide) rfl (fun ls hl => ?_)
    refine lv_iload_n hx hb dX1_margin_6 rfl (lv_at hl 3 rfl) ?_
    refine li_iconst hx hb dX1_margin_7 ?_
    refine li_bipush hx hb dX1_margin_8 (by decide) ?_
    refine bc_SB (As := [.int (iI z), .int (iI 0), .int (iI 50)]) (rest := []) ⟨hx, hb, hml, hown, hts⟩ (c_X1_isWithin l g ad σ τ w z 0 50 (by unfold iR; omega) (by unfold iR; omega) (by unfold iR; omega)) (va_cwS 3 hts gX1_margin_X1_isWithin rfl rfl rfl (by decide +kernel) ⟨Nat.le_of_ble_eq_true rfl, Nat.le_of_ble_eq_true rfl⟩) hK hU  rfl hl.1 rfl (Nat.le_of_ble_eq_true rfl) dX1_margin_10 ⟨Nat.le_of_ble_eq_true rfl, Nat.le_of_ble_eq_true rfl⟩ (fun h2 => ?_) (fun h2 => ?_)
    · refine bc_SN (As := [.int (iI 1)]) (rest := []) ⟨hx, hb, hml, hown, hts⟩ (c_X1_need_t l g ad σ τ w) (va_cwS 1 hts gX1_margin_X1_need rfl rfl rfl (by decide +kernel) ⟨Nat.le_of_ble_eq_true rfl, Nat.le_of_ble_eq_true rfl⟩) hK hU rfl hl.1 rfl (Nat.le_of_ble_eq_true rfl) dX1_margin_13 ⟨Nat.le_of_ble_eq_true rfl, Nat.le_of_ble_eq_true rfl⟩ ?_
      refine lv_aload_n hx hb dX1_margin_16 rfl (lv_at hl 0 rfl) ?_
      refine bg_X0_softSpace hx hb hts hinX0 hown hK hU hp1 (hts (.fieldLink RX1 75 "ClashBoxes$Part" "softSpace" "I") (by decide +kernel)) dX1_margin_17 ?_
      have b3 := bB4 hB hp1
      refine lv_istore (lv' := [(4, .int (iI (σ 4 p 0))), (3, .ref (ad 20 p)), (0, .ref (ad 0 0)), (1, .int (iI p)), (2, .int (iI z))]) hx hb dX1_margin_20 hl (by decide) rfl (fun ls hl => ?_)
      refine lv_aload_n hx hb dX1_margin_22 rfl (lv_at hl 1 rfl) ?_
      refine lv_iload_n hx hb dX1_margin_23 rfl (lv_at hl 4 rfl) ?_
      refine bp_X0_softSpace hx hb hts hinX0 hown hK hU hlc hp1 (hts (.fieldLink RX1 75 "ClashBoxes$Part" "softSpace" "I") (by decide +kernel)) dX1_margin_24 (fun H locs hU hF1 hlc => ?_)
      have hF := hF.tr hF1
      refine lv_iload hx hb dX1_margin_27 (lv_at hl 0 rfl) ?_
      refine bw_i hx hb hr hlocks (by first | exact hU | simpa using hU) hF hlc ?_ dX1_margin_29
      rfl
    · exfalso
      omega
  · exfalso
    omega

set_option maxHeartbeats 4000000 in
set_option maxRecDepth 100000 in
theorem c_X1_margin_f (l : Launch) (hst : l.stackTraces = false) (g : bxG) (ad : bxA) (σ τ : bxS) (w : bxW) (sa : Nat → Nat) (p z : Int) (hRp : iR p) (hRz : iR z) (hB : bx_B σ) (hg : ¬ ((0 ≤ p ∧ p < 60 ∧ σ 2 p 0 ≠ 0) ∧ 0 ≤ z ∧ z ≤ 50)) : vx_Met l yX1_margin wsX1_margin ({ frames := 7, cells := 1, slots := 6, locals := 112 }) (va_Pc [.ref (ad 0 0), .int (iI p), .int (iI z)] (fun U => bt_I g ad σ τ w sa U)) bq_no (bq_X g ad σ τ w (fun E => E = bt_iae)) 1 6 (bq_fr g) := by
  refine vx_ofW (cc := cX1_margin) (maxL := 5) (ret := (some .int)) (by decide) rfl ?_
  intro Pg Ev s mI args below meth cd s₁ B hml hout hv
  obtain ⟨rfl, ⟨hU, hK⟩, hT⟩ := hv
  have hx := B.exec
  have hb := B.bytes
  have hr := B.returns
  have hts := atoms_spec (ws := wsX1_margin) B.pre
  have hown : s.vm.findClass RX1 = some mI.cls := findClass_of_methodNamed B.named
  have hlocks := B.notSynchronized
  have hl := lv_entry ([.ref (ad 0 0), .int (iI p), .int (iI z)]) (n := 5) (Nat.le_of_ble_eq_true rfl)
  rw [lg_entry_eq]
  generalize (lg_sl ([.ref (ad 0 0), .int (iI p), .int (iI z)]) ++ List.replicate (5 - (lg_sl ([.ref (ad 0 0), .int (iI p), .int (iI z)])).length) Slot.unset).toArray = ls at hl ⊢
  have hl : lv_has ls 5 [(0, .ref (ad 0 0)), (1, .int (iI p)), (2, .int (iI z))] := hl
  have hRp0 : -2147483648 ≤ p ∧ p < 2147483648 := hRp
  have hRz0 : -2147483648 ≤ z ∧ z < 2147483648 := hRz
  refine lv_aload_n hx hb dX1_margin_0 rfl (lv_at hl 0 rfl) ?_
  refine lv_iload_n hx hb dX1_margin_1 rfl (lv_at hl 1 rfl) ?_
  by_cases hp1 : 0 ≤ p ∧ p < 60 ∧ σ 2 p 0 ≠ 0
  · refine bc_V (As := [.int (iI p)]) (rest := []) (kd := 0) (k := 0) (ci := 1) ⟨hx, hb, hml, hown, hts⟩ (c_X1_partAt_t l g ad σ τ w p hp1) (cwV 1 hts gX1_margin_X1_partAt rfl rfl rfl (by decide +kernel) ⟨Nat.le_of_ble_eq_true rfl, Nat.le_of_ble_eq_true rfl⟩) hK hU (bx_L0 (by omega)) rfl rfl rfl hl.1 rfl (Nat.le_of_ble_eq_true rfl) dX1_margin_2 ⟨Nat.zero_le _, Nat.zero_le _⟩ ?_
    refine lv_astore_n (lv' := [(3, .ref (ad 20 p)), (0, .ref (ad 0 0)), (1, .int (iI p)), (2, .int (iI z))]) hx hb dX1_margin_5 rfl hl (by decide) rfl (fun ls hl => ?_)
    refine lv_iload_n hx hb dX1_margin_6 rfl (lv_at hl 3 rfl) ?_
    refine li_iconst hx hb dX1_margin_7 ?_
    refine li_bipush hx hb dX1_margin_8 (by decide) ?_
    refine bc_SB (As := [.int (iI z), .int (iI 0), .int (iI 50)]) (rest := []) ⟨hx, hb, hml, hown, hts⟩ (c_X1_isWithin l g ad σ τ w z 0 50 (by unfold iR; omega) (by unfold iR; omega) (by unfold iR; omega)) (va_cwS 3 hts gX1_margin_X1_isWithin rfl rfl rfl (by decide +kernel) ⟨Nat.le_of_ble_eq_true rfl, Nat.le_of_ble_eq_true rfl⟩) hK hU  rfl hl.1 rfl (Nat.le_of_ble_eq_true rfl) dX1_margin_10 ⟨Nat.zero_le _, Nat.zero_le _⟩ (fun h2 => ?_) (fun h2 => ?_)
    · refine bc_SN (As := [.int (iI 1)]) (rest := []) ⟨hx, hb, hml, hown, hts⟩ (c_X1_need_t l g ad σ τ w) (va_cwS 1 hts gX1_margin_X1_need rfl rfl rfl (by decide +kernel) ⟨Nat.le_of_ble_eq_true rfl, Nat.le_of_ble_eq_true rfl⟩) hK hU rfl hl.1 rfl (Nat.le_of_ble_eq_true rfl) dX1_margin_13 ⟨Nat.zero_le _, Nat.zero_le _⟩ ?_
      refine lv_aload_n hx hb dX1_margin_16 rfl (lv_at hl 0 rfl) ?_
      exfalso
      omega
    · exact bt_S (As := [.int (iI 0)]) (rest := []) ⟨hx, hb, hml, hown, hts⟩ (c_X1_need_f l hst g ad σ τ w sa) (va_cwS 1 hts gX1_margin_X1_need rfl rfl rfl (by decide +kernel) ⟨Nat.le_of_ble_eq_true rfl, Nat.le_of_ble_eq_true rfl⟩) hK hU hT bx_F.rf bx_Lc.nil rfl hl.1 rfl (Nat.le_of_ble_eq_true rfl) dX1_margin_13 ⟨Nat.le_of_ble_eq_true rfl, Nat.le_of_ble_eq_true rfl⟩ hout hlocks (Nat.le_of_ble_eq_true rfl) (Nat.le_of_ble_eq_true rfl)
  · exact bt_V (As := [.int (iI p)]) (rest := []) (kd := 0) (k := 0) (ci := 1) ⟨hx, hb, hml, hown, hts⟩ (c_X1_partAt_f l hst g ad σ τ w sa p (by unfold iR; omega) hp1) (cwV 1 hts gX1_margin_X1_partAt rfl rfl rfl (by decide +kernel) ⟨Nat.le_of_ble_eq_true rfl, Nat.le_of_ble_eq_true rfl⟩) hK hU hT bx_F.rf bx_Lc.nil (bx_L0 (by omega)) rfl rfl rfl hl.1 rfl (Nat.le_of_ble_eq_true rfl) dX1_margin_2 ⟨Nat.le_of_ble_eq_true rfl, Nat.le_of_ble_eq_true rfl⟩ hout hlocks (Nat.le_of_ble_eq_true rfl) (Nat.le_of_ble_eq_true rfl)

set_option maxHeartbeats 4000000 in
set_option maxRecDepth 100000 in
theorem c_X1_free_t (l : Launch) (g : bxG) (ad : bxA) (σ τ : bxS) (w : bxW) (a b z : Int) (hRa : iR a) (hRb : iR b) (hz : z = 0 ∨ z = 1) (hB : bx_B σ) (hg : (0 ≤ a ∧ a ≤ 7) ∧ 0 ≤ b ∧ b ≤ 7) : Met l yX1_free wsX1_free ({ frames := 7, cells := 0, slots := 0, locals := 110 }) (va_Pc [.ref (ad 0 0), .int (iI a), .int (iI b), .int (iI z)] (fun U => bx_I g ad σ τ w U)) (bq_W (some (.int (iI (zB (σ 9 (a * 8 + b) 0 ≠ 0))))) g ad (up3 (up3 σ 9 (a * 8 + b) 0 z) 9 (b * 8 + a) 0 z) τ w) 0 0 (bq_fr g) := by
  refine Met.ofW (cc := cX1_free) (maxL := 5) (ret := (some .boolean)) (by decide) rfl ?_
  intro Pg Ev s mI args below meth cd s₁ B hml hv
  obtain ⟨rfl, hU, hK⟩ := hv
  have hx := B.exec
  have hb := B.bytes
  have hr := B.returns
  have hts := atoms_spec (ws := wsX1_free) B.pre
  have hown : s.vm.findClass RX1 = some mI.cls := findClass_of_methodNamed B.named
  have hlocks := B.notSynchronized
  have hF : bx_F g s.heap s.heap := bx_F.rf
  have hlc : bx_Lc g [] := bx_Lc.nil
  have hl := lv_entry ([.ref (ad 0 0), .int (iI a), .int (iI b), .int (iI z)]) (n := 5) (Nat.le_of_ble_eq_true rfl)
  rw [lg_entry_eq]
  generalize (lg_sl ([.ref (ad 0 0), .int (iI a), .int (iI b), .int (iI z)]) ++ List.replicate (5 - (lg_sl ([.ref (ad 0 0), .int (iI a), .int (iI b), .int (iI z)])).length) Slot.unset).toArray = ls at hl ⊢
  have hl : lv_has ls 5 [(0, .ref (ad 0 0)), (1, .int (iI a)), (2, .int (iI b)), (3, .int (iI z))] := hl
  have hinX1 : ∀ w ∈ wsX10, w ∈ wsX1_free := by decide +kernel
  have hRa0 : -2147483648 ≤ a ∧ a < 2147483648 := hRa
  have hRb0 : -2147483648 ≤ b ∧ b < 2147483648 := hRb
  refine lv_iload_n hx hb dX1_free_0 rfl (lv_at hl 1 rfl) ?_
  refine bc_SB (As := [.int (iI a)]) (rest := []) ⟨hx, hb, hml, hown, hts⟩ (c_X1_isKind l g ad σ τ w a (by unfold iR; omega)) (va_cwS 1 hts gX1_free_X1_isKind rfl rfl rfl (by decide +kernel) ⟨Nat.le_of_ble_eq_true rfl, Nat.le_of_ble_eq_true rfl⟩) hK hU  rfl hl.1 rfl (Nat.le_of_ble_eq_true rfl) dX1_free_1 ⟨Nat.le_of_ble_eq_true rfl, Nat.le_of_ble_eq_true rfl⟩ (fun h1 => ?_) (fun h1 => ?_)
  · refine li_if_eq (tgt := 18) hx hb (by unfold iR; omega) dX1_free_4 (by decide) (fun h => absurd h (by decide)) (fun _ => ?_)
    refine lv_iload_n hx hb dX1_free_7 rfl (lv_at hl 2 rfl) ?_
    refine bc_SB (As := [.int (iI b)]) (rest := []) ⟨hx, hb, hml, hown, hts⟩ (c_X1_isKind l g ad σ τ w b (by unfold iR; omega)) (va_cwS 1 hts gX1_free_X1_isKind rfl rfl rfl (by decide +kernel) ⟨Nat.le_of_ble_eq_true rfl, Nat.le_of_ble_eq_true rfl⟩) hK hU  rfl hl.1 rfl (Nat.le_of_ble_eq_true rfl) dX1_free_8 ⟨Nat.le_of_ble_eq_true rfl, Nat.le_of_ble_eq_true rfl⟩ (fun h2 => ?_) (fun h2 => ?_)
    · refine li_if_eq (tgt := 18) hx hb (by unfold iR; omega) dX1_free_11 (by decide) (fun h => absurd h (by decide)) (fun _ => ?_)
      refine li_iconst hx hb dX1_free_14 ?_
      refine lv_goto (tgt := 19) hx hb dX1_free_15 (by decide) ?_
      refine bc_SN (As := [.int (iI 1)]) (rest := []) ⟨hx, hb, hml, hown, hts⟩ (c_X1_need_t l g ad σ τ w) (va_cwS 1 hts gX1_free_X1_need rfl rfl rfl (by decide +kernel) ⟨Nat.le_of_ble_eq_true rfl, Nat.le_of_ble_eq_true rfl⟩) hK hU rfl hl.1 rfl (Nat.le_of_ble_eq_true rfl) dX1_free_19 ⟨Nat.le_of_ble_eq_true rfl, Nat.le_of_ble_eq_true rfl⟩ ?_
      refine lv_aload_n hx hb dX1_free_22 rfl (lv_at hl 0 rfl) ?_
      refine lv_iload_n hx hb dX1_free_23 rfl (lv_at hl 1 rfl) ?_
      refine lv_iload_n hx hb dX1_free_24 rfl (lv_at hl 2 rfl) ?_
      refine bc_VB (As := [.int (iI a), .int (iI b)]) (rest := []) (kd := 0) (k := 0) (ci := 1) ⟨hx, hb, hml, hown, hts⟩ (c_X1_areFree l g ad σ τ w a b (by omega) (by omega) hB) (cwV 2 hts gX1_free_X1_areFree rfl rfl rfl (by decide +kernel) ⟨Nat.le_of_ble_eq_true rfl, Nat.le_of_ble_eq_true rfl⟩) hK hU (bx_L0 (by omega)) rfl rfl rfl hl.1 rfl (Nat.le_of_ble_eq_true rfl) dX1_free_25 ⟨Nat.le_of_ble_eq_true rfl, Nat.le_of_ble_eq_true rfl⟩ (fun h3 => ?_) (fun h3 => ?_)
      · refine lv_istore (lv' := [(4, .int (iI 1)), (0, .ref (ad 0 0)), (1, .int (iI a)), (2, .int (iI b)), (3, .int (iI z))]) hx hb dX1_free_28 hl (by decide) rfl (fun ls hl => ?_)
        refine lv_aload_n hx hb dX1_free_30 rfl (lv_at hl 1 rfl) ?_
        refine bg_X1_freeKinds hx hb hts hinX1 hown hK hU (hts (.fieldLink RX1 15 "ClashBoxes" "freeKinds" "[Z") (by decide +kernel)) dX1_free_31 ?_
        refine lv_iload_n hx hb dX1_free_34 rfl (lv_at hl 2 rfl) ?_
        refine li_bipush hx hb dX1_free_35 (by decide) ?_
        refine li_imul hx hb dX1_free_37 ?_
        refine lv_iload_n hx hb dX1_free_38 rfl (lv_at hl 3 rfl) ?_
        refine li_iadd hx hb dX1_free_39 ?_
        refine lv_iload_n hx hb dX1_free_40 rfl (lv_at hl 4 rfl) ?_
        refine bs_2 hx hb hK hU hlc (by omega) (by omega) (by omega) dX1_free_41 (fun H locs hU hF1 hlc => ?_)
        have hF := hF.tr hF1
        refine lv_aload_n hx hb dX1_free_42 rfl (lv_at hl 1 rfl) ?_
        refine bg_X1_freeKinds hx hb hts hinX1 hown hK hU (hts (.fieldLink RX1 15 "ClashBoxes" "freeKinds" "[Z") (by decide +kernel)) dX1_free_43 ?_
        refine lv_iload_n hx hb dX1_free_46 rfl (lv_at hl 3 rfl) ?_
        refine li_bipush hx hb dX1_free_47 (by decide) ?_
        refine li_imul hx hb dX1_free_49 ?_
        refine lv_iload_n hx hb dX1_free_50 rfl (lv_at hl 2 rfl) ?_
        refine li_iadd hx hb dX1_free_51 ?_
        refine lv_iload_n hx hb dX1_free_52 rfl (lv_at hl 4 rfl) ?_
        refine bs_2 hx hb hK hU hlc (by omega) (by omega) (by omega) dX1_free_53 (fun H locs hU hF1 hlc => ?_)
        have hF := hF.tr hF1
        refine lv_iload hx hb dX1_free_54 (lv_at hl 0 rfl) ?_
        refine bw_z hx hb hr hlocks (by first | exact hU | simpa using hU) hF hlc (by omega) ?_ dX1_free_56
        rw [zB_t h3]
      · refine lv_istore (lv' := [(4, .int (iI 0)), (0, .ref (ad 0 0)), (1, .int (iI a)), (2, .int (iI b)), (3, .int (iI z))]) hx hb dX1_free_28 hl (by decide) rfl (fun ls hl => ?_)
        refine lv_aload_n hx hb dX1_free_30 rfl (lv_at hl 1 rfl) ?_
        refine bg_X1_freeKinds hx hb hts hinX1 hown hK hU (hts (.fieldLink RX1 15 "ClashBoxes" "freeKinds" "[Z") (by decide +kernel)) dX1_free_31 ?_
        refine lv_iload_n hx hb dX1_free_34 rfl (lv_at hl 2 rfl) ?_
        refine li_bipush hx hb dX1_free_35 (by decide) ?_
        refine li_imul hx hb dX1_free_37 ?_
        refine lv_iload_n hx hb dX1_free_38 rfl (lv_at hl 3 rfl) ?_
        refine li_iadd hx hb dX1_free_39 ?_
        refine lv_iload_n hx hb dX1_free_40 rfl (lv_at hl 4 rfl) ?_
        refine bs_2 hx hb hK hU hlc (by omega) (by omega) (by omega) dX1_free_41 (fun H locs hU hF1 hlc => ?_)
        have hF := hF.tr hF1
        refine lv_aload_n hx hb dX1_free_42 rfl (lv_at hl 1 rfl) ?_
        refine bg_X1_freeKinds hx hb hts hinX1 hown hK hU (hts (.fieldLink RX1 15 "ClashBoxes" "freeKinds" "[Z") (by decide +kernel)) dX1_free_43 ?_
        refine lv_iload_n hx hb dX1_free_46 rfl (lv_at hl 3 rfl) ?_
        refine li_bipush hx hb dX1_free_47 (by decide) ?_
        refine li_imul hx hb dX1_free_49 ?_
        refine lv_iload_n hx hb dX1_free_50 rfl (lv_at hl 2 rfl) ?_
        refine li_iadd hx hb dX1_free_51 ?_
        refine lv_iload_n hx hb dX1_free_52 rfl (lv_at hl 4 rfl) ?_
        refine bs_2 hx hb hK hU hlc (by omega) (by omega) (by omega) dX1_free_53 (fun H locs hU hF1 hlc => ?_)
        have hF := hF.tr hF1
        refine lv_iload hx hb dX1_free_54 (lv_at hl 0 rfl) ?_
        refine bw_z hx hb hr hlocks (by first | exact hU | simpa using hU) hF hlc (by omega) ?_ dX1_free_56
        rw [zB_f h3]
    · refine li_if_eq (tgt := 18) hx hb (by unfold iR; omega) dX1_free_11 (by decide) (fun _ => ?_) (fun h => absurd (by decide) h)
      refine li_iconst hx hb dX1_free_18 ?_
      exfalso
      omega
  · refine li_if_eq (tgt := 18) hx hb (by unfold iR; omega) dX1_free_4 (by decide) (fun _ => ?_) (fun h => absurd (by decide) h)
    refine li_iconst hx hb dX1_free_18 ?_
    exfalso
    omega

set_option maxHeartbeats 4000000 in
set_option maxRecDepth 100000 in
theorem c_X1_free_f (l : Launch) (hst : l.stackTraces = false) (g : bxG) (ad : bxA) (σ τ : bxS) (w : bxW) (sa : Nat → Nat) (a b z : Int) (hRa : iR a) (hRb : iR b) (hz : z = 0 ∨ z = 1) (hB : bx_B σ) (hg : ¬ ((0 ≤ a ∧ a ≤ 7) ∧ 0 ≤ b ∧ b ≤ 7)) : vx_Met l yX1_free wsX1_free ({ frames := 7, cells := 1, slots := 6, locals := 110 }) (va_Pc [.ref (ad 0 0), .int (iI a), .int (iI b), .int (iI z)] (fun U => bt_I g ad σ τ w sa U)) bq_no (bq_X g ad σ τ w (fun E => E = bt_iae)) 1 6 (bq_fr g) := by
  refine vx_ofW (cc := cX1_free) (maxL := 5) (ret := (some .boolean)) (by decide) rfl ?_
  intro Pg Ev s mI args below meth cd s₁ B hml hout hv
  obtain ⟨rfl, ⟨hU, hK⟩, hT⟩ := hv
  have hx := B.exec
  have hb := B.bytes
  have hr := B.returns
  have hts := atoms_spec (ws := wsX1_free) B.pre
  have hown : s.vm.findClass RX1 = some mI.cls := findClass_of_methodNamed B.named
  have hlocks := B.notSynchronized
  have hl := lv_entry ([.ref (ad 0 0), .int (iI a), .int (iI b), .int (iI z)]) (n := 5) (Nat.le_of_ble_eq_true rfl)
  rw [lg_entry_eq]
  generalize (lg_sl ([.ref (ad 0 0), .int (iI a), .int (iI b), .int (iI z)]) ++ List.replicate (5 - (lg_sl ([.ref (ad 0 0), .int (iI a), .int (iI b), .int (iI z)])).length) Slot.unset).toArray = ls at hl ⊢
  have hl : lv_has ls 5 [(0, .ref (ad 0 0)), (1, .int (iI a)), (2, .int (iI b)), (3, .int (iI z))] := hl
  have hRa0 : -2147483648 ≤ a ∧ a < 2147483648 := hRa
  have hRb0 : -2147483648 ≤ b ∧ b < 2147483648 := hRb
  refine lv_iload_n hx hb dX1_free_0 rfl (lv_at hl 1 rfl) ?_
  refine bc_SB (As := [.int (iI a)]) (rest := []) ⟨hx, hb, hml, hown, hts⟩ (c_X1_isKind l g ad σ τ w a (by unfold iR; omega)) (va_cwS 1 hts gX1_free_X1_isKind rfl rfl rfl (by decide +kernel) ⟨Nat.le_of_ble_eq_true rfl, Nat.le_of_ble_eq_true rfl⟩) hK hU  rfl hl.1 rfl (Nat.le_of_ble_eq_true rfl) dX1_free_1 ⟨Nat.zero_le _, Nat.zero_le _⟩ (fun h1 => ?_) (fun h1 => ?_)
  · refine li_if_eq (tgt := 18) hx hb (by unfold iR; omega) dX1_free_4 (by decide) (fun h => absurd h (by decide)) (fun _ => ?_)
    refine lv_iload_n hx hb dX1_free_7 rfl (lv_at hl 2 rfl) ?_
    refine bc_SB (As := [.int (iI b)]) (rest := []) ⟨hx, hb, hml, hown, hts⟩ (c_X1_isKind l g ad σ τ w b (by unfold iR; omega)) (va_cwS 1 hts gX1_free_X1_isKind rfl rfl rfl (by decide +kernel) ⟨Nat.le_of_ble_eq_true rfl, Nat.le_of_ble_eq_true rfl⟩) hK hU  rfl hl.1 rfl (Nat.le_of_ble_eq_true rfl) dX1_free_8 ⟨Nat.zero_le _, Nat.zero_le _⟩ (fun h2 => ?_) (fun h2 => ?_)
    · refine li_if_eq (tgt := 18) hx hb (by unfold iR; omega) dX1_free_11 (by decide) (fun h => absurd h (by decide)) (fun _ => ?_)
      refine li_iconst hx hb dX1_free_14 ?_
      refine lv_goto (tgt := 19) hx hb dX1_free_15 (by decide) ?_
      refine bc_SN (As := [.int (iI 1)]) (rest := []) ⟨hx, hb, hml, hown, hts⟩ (c_X1_need_t l g ad σ τ w) (va_cwS 1 hts gX1_free_X1_need rfl rfl rfl (by decide +kernel) ⟨Nat.le_of_ble_eq_true rfl, Nat.le_of_ble_eq_true rfl⟩) hK hU rfl hl.1 rfl (Nat.le_of_ble_eq_true rfl) dX1_free_19 ⟨Nat.zero_le _, Nat.zero_le _⟩ ?_
      refine lv_aload_n hx hb dX1_free_22 rfl (lv_at hl 0 rfl) ?_
      exfalso
      omega
    · refine li_if_eq (tgt := 18) hx hb (by unfold iR; omega) dX1_free_11 (by decide) (fun _ => ?_) (fun h => absurd (by decide) h)
      refine li_iconst hx hb dX1_free_18 ?_
      exact bt_S (As := [.int (iI 0)]) (rest := []) ⟨hx, hb, hml, hown, hts⟩ (c_X1_need_f l hst g ad σ τ w sa) (va_cwS 1 hts gX1_free_X1_need rfl rfl rfl (by decide +kernel) ⟨Nat.le_of_ble_eq_true rfl, Nat.le_of_ble_eq_true rfl⟩) hK hU hT bx_F.rf bx_Lc.nil rfl hl.1 rfl (Nat.le_of_ble_eq_true rfl) dX1_free_19 ⟨Nat.le_of_ble_eq_true rfl, Nat.le_of_ble_eq_true rfl⟩ hout hlocks (Nat.le_of_ble_eq_true rfl) (Nat.le_of_ble_eq_true rfl)
  · refine li_if_eq (tgt := 18) hx hb (by unfold iR; omega) dX1_free_4 (by decide) (fun _ => ?_) (fun h => absurd (by decide) h)
    refine li_iconst hx hb dX1_free_18 ?_
    exact bt_S (As := [.int (iI 0)]) (rest := []) ⟨hx, hb, hml, hown, hts⟩ (c_X1_need_f l hst g ad σ τ w sa) (va_cwS 1 hts gX1_free_X1_need rfl rfl rfl (by decide +kernel) ⟨Nat.le_of_ble_eq_true rfl, Nat.le_of_ble_eq_true rfl⟩) hK hU hT bx_F.rf bx_Lc.nil rfl hl.1 rfl (Nat.le_of_ble_eq_true rfl) dX1_free_19 ⟨Nat.le_of_ble_eq_true rfl, Nat.le_of_ble_eq_true rfl⟩ hout hlocks (Nat.le_of_ble_eq_true rfl) (Nat.le_of_ble_eq_true rfl)

set_option maxHeartbeats 4000000 in
set_option maxRecDepth 100000 in
theorem c_X1_move_t (l : Launch) (g : bxG) (ad : bxA) (σ τ : bxS) (w : bxW) (p a d : Int) (hRp : iR p) (hRa : iR a) (hRd : iR d) (hB : bx_B σ) (hg : (0 ≤ p ∧ p < 60 ∧ σ 2 p 0 ≠ 0) ∧ (0 ≤ a ∧ a ≤ 2) ∧ -1000 ≤ d ∧ d ≤ 1000) : Met l yX1_move wsX1_move ({ frames := 7, cells := 0, slots := 0, locals := 112 }) (va_Pc [.ref (ad 0 0), .int (iI p), .int (iI a), .int (iI d)] (fun U => bx_I g ad σ τ w U)) (bq_W (some (.int (iI (if 0 ≤ σ 7 p a + d ∧ σ 8 p a + d ≤ 1000 then 1 else 0)))) g ad (if 0 ≤ σ 7 p a + d ∧ σ 8 p a + d ≤ 1000 then up3 (up3 σ 7 p a (σ 7 p a + d)) 8 p a (σ 8 p a + d) else σ) τ w) 0 0 (bq_fr g) := by
  refine Met.ofW (cc := cX1_move) (maxL := 5) (ret := (some .boolean)) (by decide) rfl ?_
  intro Pg Ev s mI args below meth cd s₁ B hml hv
  obtain ⟨rfl, hU, hK⟩ := hv
  have hx := B.exec
  have hb := B.bytes
  have hr := B.returns
  have hts := atoms_spec (ws := wsX1_move) B.pre
  have hown : s.vm.findClass RX1 = some mI.cls := findClass_of_methodNamed B.named
  have hlocks := B.notSynchronized
  have hF : bx_F g s.heap s.heap := bx_F.rf
  have hlc : bx_Lc g [] := bx_Lc.nil
  have hl := lv_entry ([.ref (ad 0 0), .int (iI p), .int (iI a), .int (iI d)]) (n := 5) (Nat.le_of_ble_eq_true rfl)
  rw [lg_entry_eq]
  generalize (lg_sl ([.ref (ad 0 0), .int (iI p), .int (iI a), .int (iI d)]) ++ List.replicate (5 - (lg_sl ([.ref (ad 0 0), .int (iI p), .int (iI a), .int (iI d)])).length) Slot.unset).toArray = ls at hl ⊢
  have hl : lv_has ls 5 [(0, .ref (ad 0 0)), (1, .int (iI p)), (2, .int (iI a)), (3, .int (iI d))] := hl
  have hinX0 : ∀ w ∈ wsX00, w ∈ wsX1_move := by decide +kernel
  have hRp0 : -2147483648 ≤ p ∧ p < 2147483648 := hRp
  have hRa0 : -2147483648 ≤ a ∧ a < 2147483648 := hRa
  have hRd0 : -2147483648 ≤ d ∧ d < 2147483648 := hRd
  refine lv_aload_n hx hb dX1_move_0 rfl (lv_at hl 0 rfl) ?_
  refine lv_iload_n hx hb dX1_move_1 rfl (lv_at hl 1 rfl) ?_
  by_cases hp1 : 0 ≤ p ∧ p < 60 ∧ σ 2 p 0 ≠ 0
  · refine bc_V (As := [.int (iI p)]) (rest := []) (kd := 0) (k := 0) (ci := 1) ⟨hx, hb, hml, hown, hts⟩ (c_X1_partAt_t l g ad σ τ w p hp1) (cwV 1 hts gX1_move_X1_partAt rfl rfl rfl (by decide +kernel) ⟨Nat.le_of_ble_eq_true rfl, Nat.le_of_ble_eq_true rfl⟩) hK hU (bx_L0 (by omega)) rfl rfl rfl hl.1 rfl (Nat.le_of_ble_eq_true rfl) dX1_move_2 ⟨Nat.le_of_ble_eq_true rfl, Nat.le_of_ble_eq_true rfl⟩ ?_
    refine lv_astore (lv' := [(4, .ref (ad 20 p)), (0, .ref (ad 0 0)), (1, .int (iI p)), (2, .int (iI a)), (3, .int (iI d))]) hx hb dX1_move_5 hl (by decide) rfl (fun ls hl => ?_)
    refine lv_iload_n hx hb dX1_move_7 rfl (lv_at hl 3 rfl) ?_
    refine bc_SB (As := [.int (iI a)]) (rest := []) ⟨hx, hb, hml, hown, hts⟩ (c_X1_isAxis l g ad σ τ w a (by unfold iR; omega)) (va_cwS 1 hts gX1_move_X1_isAxis rfl rfl rfl (by decide +kernel) ⟨Nat.le_of_ble_eq_true rfl, Nat.le_of_ble_eq_true rfl⟩) hK hU  rfl hl.1 rfl (Nat.le_of_ble_eq_true rfl) dX1_move_8 ⟨Nat.le_of_ble_eq_true rfl, Nat.le_of_ble_eq_true rfl⟩ (fun h2 => ?_) (fun h2 => ?_)
    · refine li_if_eq (tgt := 31) hx hb (by unfold iR; omega) dX1_move_11 (by decide) (fun h => absurd h (by decide)) (fun _ => ?_)
      refine lv_iload_n hx hb dX1_move_14 rfl (lv_at hl 4 rfl) ?_
      refine li_sipush hx hb dX1_move_15 (by decide) ?_
      refine li_sipush hx hb dX1_move_18 (by decide) ?_
      refine bc_SB (As := [.int (iI d), .int (iI (-1000)), .int (iI 1000)]) (rest := []) ⟨hx, hb, hml, hown, hts⟩ (c_X1_isWithin l g ad σ τ w d (-1000) 1000 (by unfold iR; omega) (by unfold iR; omega) (by unfold iR; omega)) (va_cwS 3 hts gX1_move_X1_isWithin rfl rfl rfl (by decide +kernel) ⟨Nat.le_of_ble_eq_true rfl, Nat.le_of_ble_eq_true rfl⟩) hK hU  rfl hl.1 rfl (Nat.le_of_ble_eq_true rfl) dX1_move_21 ⟨Nat.le_of_ble_eq_true rfl, Nat.le_of_ble_eq_true rfl⟩ (fun h3 => ?_) (fun h3 => ?_)
      · refine li_if_eq (tgt := 31) hx hb (by unfold iR; omega) dX1_move_24 (by decide) (fun h => absurd h (by decide)) (fun _ => ?_)
        refine li_iconst hx hb dX1_move_27 ?_
        refine lv_goto (tgt := 32) hx hb dX1_move_28 (by decide) ?_
        refine bc_SN (As := [.int (iI 1)]) (rest := []) ⟨hx, hb, hml, hown, hts⟩ (c_X1_need_t l g ad σ τ w) (va_cwS 1 hts gX1_move_X1_need rfl rfl rfl (by decide +kernel) ⟨Nat.le_of_ble_eq_true rfl, Nat.le_of_ble_eq_true rfl⟩) hK hU rfl hl.1 rfl (Nat.le_of_ble_eq_true rfl) dX1_move_32 ⟨Nat.le_of_ble_eq_true rfl, Nat.le_of_ble_eq_true rfl⟩ ?_
        refine lv_aload hx hb dX1_move_35 (lv_at hl 0 rfl) ?_
        refine lv_iload_n hx hb dX1_move_37 rfl (lv_at hl 3 rfl) ?_
        refine lv_iload_n hx hb dX1_move_38 rfl (lv_at hl 4 rfl) ?_
        refine bc_VB (As := [.int (iI a), .int (iI d)]) (rest := []) (kd := 20) (k := p) (ci := 0) ⟨hx, hb, hml, hown, hts⟩ (c_X0_staysInSpace l g ad σ τ w p a d hp1 hB (by omega) (by omega)) (cwV 2 hts gX1_move_X0_staysInSpace rfl rfl rfl (by decide +kernel) ⟨Nat.le_of_ble_eq_true rfl, Nat.le_of_ble_eq_true rfl⟩) hK hU (bx_Lp (by omega) (by omega) hp1) rfl rfl rfl hl.1 rfl (Nat.le_of_ble_eq_true rfl) dX1_move_39 ⟨Nat.le_of_ble_eq_true rfl, Nat.le_of_ble_eq_true rfl⟩ (fun h4 => ?_) (fun h4 => ?_)
        · refine li_if_ne (tgt := 47) hx hb (by unfold iR; omega) dX1_move_42 (by decide) (fun _ => ?_) (fun h => absurd h (by decide))
          refine lv_aload hx hb dX1_move_47 (lv_at hl 0 rfl) ?_
          refine lv_iload_n hx hb dX1_move_49 rfl (lv_at hl 3 rfl) ?_
          refine lv_aload hx hb dX1_move_50 (lv_at hl 0 rfl) ?_
          refine bg_X0_least hx hb hts hinX0 hown hK hU hp1 (hts (.fieldLink RX1 84 "ClashBoxes$Part" "least" "[I") (by decide +kernel)) dX1_move_52 ?_
          refine lv_iload_n hx hb dX1_move_55 rfl (lv_at hl 3 rfl) ?_
          refine bl_21 hx hb hK hU hp1 (by omega) (by omega) dX1_move_56 ?_
          have b5 := bB7 hB hp1 (a := a) (by omega) (by omega)
          refine lv_iload_n hx hb dX1_move_57 rfl (lv_at hl 4 rfl) ?_
          refine li_iadd hx hb dX1_move_58 ?_
          refine lv_aload hx hb dX1_move_59 (lv_at hl 0 rfl) ?_
          refine bg_X0_greatest hx hb hts hinX0 hown hK hU hp1 (hts (.fieldLink RX1 87 "ClashBoxes$Part" "greatest" "[I") (by decide +kernel)) dX1_move_61 ?_
          refine lv_iload_n hx hb dX1_move_64 rfl (lv_at hl 3 rfl) ?_
          refine bl_22 hx hb hK hU hp1 (by omega) (by omega) dX1_move_65 ?_
          have b6 := bB7 hB hp1 (a := a) (by omega) (by omega)
          refine lv_iload_n hx hb dX1_move_66 rfl (lv_at hl 4 rfl) ?_
          refine li_iadd hx hb dX1_move_67 ?_
          refine bc_VW (As := [.int (iI a), .int (iI ((σ 7 p a) + d)), .int (iI ((σ 8 p a) + d))]) (rest := []) (kd := 20) (k := p) (ci := 0) ⟨hx, hb, hml, hown, hts⟩ (c_X0_setCore l g ad σ τ w p a ((σ 7 p a) + d) ((σ 8 p a) + d) hp1 (by omega)) (cwV 3 hts gX1_move_X0_setCore rfl rfl rfl (by decide +kernel) ⟨Nat.le_of_ble_eq_true rfl, Nat.le_of_ble_eq_true rfl⟩) hK hU hlc (bx_Lp (by omega) (by omega) hp1) rfl rfl rfl hl.1 rfl (Nat.le_of_ble_eq_true rfl) dX1_move_68 ⟨Nat.le_of_ble_eq_true rfl, Nat.le_of_ble_eq_true rfl⟩ (fun H locs hU hF1 hlc => ?_)
          have hF := hF.tr hF1
          refine li_iconst hx hb dX1_move_71 ?_
          refine bw_z hx hb hr hlocks (by first | (rw [if_pos (by omega)]; exact hU) | (rw [if_neg (by omega)]; exact hU)) hF hlc (by omega) ?_ dX1_move_72
          first | (rw [if_pos (by omega)]) | (rw [if_neg (by omega)])
        · refine li_if_ne (tgt := 47) hx hb (by unfold iR; omega) dX1_move_42 (by decide) (fun h => absurd (by decide) h) (fun _ => ?_)
          refine li_iconst hx hb dX1_move_45 ?_
          refine bw_z hx hb hr hlocks (by first | (rw [if_pos (by omega)]; exact hU) | (rw [if_neg (by omega)]; exact hU)) hF hlc (by omega) ?_ dX1_move_46
          first | (rw [if_pos (by omega)]) | (rw [if_neg (by omega)])
      · refine li_if_eq (tgt := 31) hx hb (by unfold iR; omega) dX1_move_24 (by decide) (fun _ => ?_) (fun h => absurd (by decide) h)
        refine li_iconst hx hb dX1_move_31 ?_
        exfalso
        omega
    · refine li_if_eq (tgt := 31) hx hb (by unfold iR; omega) dX1_move_11 (by decide) (fun _ => ?_) (fun h => absurd (by decide) h)
      refine li_iconst hx hb dX1_move_31 ?_
      exfalso
      omega
  · exfalso
    omega

set_option maxHeartbeats 4000000 in
set_option maxRecDepth 100000 in
theorem c_X1_move_f (l : Launch) (hst : l.stackTraces = false) (g : bxG) (ad : bxA) (σ τ : bxS) (w : bxW) (sa : Nat → Nat) (p a d : Int) (hRp : iR p) (hRa : iR a) (hRd : iR d) (hB : bx_B σ) (hg : ¬ ((0 ≤ p ∧ p < 60 ∧ σ 2 p 0 ≠ 0) ∧ (0 ≤ a ∧ a ≤ 2) ∧ -1000 ≤ d ∧ d ≤ 1000)) : vx_Met l yX1_move wsX1_move ({ frames := 7, cells := 1, slots := 6, locals := 112 }) (va_Pc [.ref (ad 0 0), .int (iI p), .int (iI a), .int (iI d)] (fun U => bt_I g ad σ τ w sa U)) bq_no (bq_X g ad σ τ w (fun E => E = bt_iae)) 1 6 (bq_fr g) := by
  refine vx_ofW (cc := cX1_move) (maxL := 5) (ret := (some .boolean)) (by decide) rfl ?_
  intro Pg Ev s mI args below meth cd s₁ B hml hout hv
  obtain ⟨rfl, ⟨hU, hK⟩, hT⟩ := hv
  have hx := B.exec
  have hb := B.bytes
  have hr := B.returns
  have hts := atoms_spec (ws := wsX1_move) B.pre
  have hown : s.vm.findClass RX1 = some mI.cls := findClass_of_methodNamed B.named
  have hlocks := B.notSynchronized
  have hl := lv_entry ([.ref (ad 0 0), .int (iI p), .int (iI a), .int (iI d)]) (n := 5) (Nat.le_of_ble_eq_true rfl)
  rw [lg_entry_eq]
  generalize (lg_sl ([.ref (ad 0 0), .int (iI p), .int (iI a), .int (iI d)]) ++ List.replicate (5 - (lg_sl ([.ref (ad 0 0), .int (iI p), .int (iI a), .int (iI d)])).length) Slot.unset).toArray = ls at hl ⊢
  have hl : lv_has ls 5 [(0, .ref (ad 0 0)), (1, .int (iI p)), (2, .int (iI a)), (3, .int (iI d))] := hl
  have hRp0 : -2147483648 ≤ p ∧ p < 2147483648 := hRp
  have hRa0 : -2147483648 ≤ a ∧ a < 2147483648 := hRa
  have hRd0 : -2147483648 ≤ d ∧ d < 2147483648 := hRd
  refine lv_aload_n hx hb dX1_move_0 rfl (lv_at hl 0 rfl) ?_
  refine lv_iload_n hx hb dX1_move_1 rfl (lv_at hl 1 rfl) ?_
  by_cases hp1 : 0 ≤ p ∧ p < 60 ∧ σ 2 p 0 ≠ 0
  · refine bc_V (As := [.int (iI p)]) (rest := []) (kd := 0) (k := 0) (ci := 1) ⟨hx, hb, hml, hown, hts⟩ (c_X1_partAt_t l g ad σ τ w p hp1) (cwV 1 hts gX1_move_X1_partAt rfl rfl rfl (by decide +kernel) ⟨Nat.le_of_ble_eq_true rfl, Nat.le_of_ble_eq_true rfl⟩) hK hU (bx_L0 (by omega)) rfl rfl rfl hl.1 rfl (Nat.le_of_ble_eq_true rfl) dX1_move_2 ⟨Nat.zero_le _, Nat.zero_le _⟩ ?_
    refine lv_astore (lv' := [(4, .ref (ad 20 p)), (0, .ref (ad 0 0)), (1, .int (iI p)), (2, .int (iI a)), (3, .int (iI d))]) hx hb dX1_move_5 hl (by decide) rfl (fun ls hl => ?_)
    refine lv_iload_n hx hb dX1_move_7 rfl (lv_at hl 3 rfl) ?_
    refine bc_SB (As := [.int (iI a)]) (rest := []) ⟨hx, hb, hml, hown, hts⟩ (c_X1_isAxis l g ad σ τ w a (by unfold iR; omega)) (va_cwS 1 hts gX1_move_X1_isAxis rfl rfl rfl (by decide +kernel) ⟨Nat.le_of_ble_eq_true rfl, Nat.le_of_ble_eq_true rfl⟩) hK hU  rfl hl.1 rfl (Nat.le_of_ble_eq_true rfl) dX1_move_8 ⟨Nat.zero_le _, Nat.zero_le _⟩ (fun h2 => ?_) (fun h2 => ?_)
    · refine li_if_eq (tgt := 31) hx hb (by unfold iR; omega) dX1_move_11 (by decide) (fun h => absurd h (by decide)) (fun _ => ?_)
      refine lv_iload_n hx hb dX1_move_14 rfl (lv_at hl 4 rfl) ?_
      refine li_sipush hx hb dX1_move_15 (by decide) ?_
      refine li_sipush hx hb dX1_move_18 (by decide) ?_
      refine bc_SB (As := [.int (iI d), .int (iI (-1000)), .int (iI 1000)]) (rest := []) ⟨hx, hb, hml, hown, hts⟩ (c_X1_isWithin l g ad σ τ w d (-1000) 1000 (by unfold iR; omega) (by unfold iR; omega) (by unfold iR; omega)) (va_cwS 3 hts gX1_move_X1_isWithin rfl rfl rfl (by decide +kernel) ⟨Nat.le_of_ble_eq_true rfl, Nat.le_of_ble_eq_true rfl⟩) hK hU  rfl hl.1 rfl (Nat.le_of_ble_eq_true rfl) dX1_move_21 ⟨Nat.zero_le _, Nat.zero_le _⟩ (fun h3 => ?_) (fun h3 => ?_)
      · refine li_if_eq (tgt := 31) hx hb (by unfold iR; omega) dX1_move_24 (by decide) (fun h => absurd h (by decide)) (fun _ => ?_)
        refine li_iconst hx hb dX1_move_27 ?_
        refine lv_goto (tgt := 32) hx hb dX1_move_28 (by decide) ?_
        refine bc_SN (As := [.int (iI 1)]) (rest := []) ⟨hx, hb, hml, hown, hts⟩ (c_X1_need_t l g ad σ τ w) (va_cwS 1 hts gX1_move_X1_need rfl rfl rfl (by decide +kernel) ⟨Nat.le_of_ble_eq_true rfl, Nat.le_of_ble_eq_true rfl⟩) hK hU rfl hl.1 rfl (Nat.le_of_ble_eq_true rfl) dX1_move_32 ⟨Nat.zero_le _, Nat.zero_le _⟩ ?_
        refine lv_aload hx hb dX1_move_35 (lv_at hl 0 rfl) ?_
        exfalso
        omega
      · refine li_if_eq (tgt := 31) hx hb (by unfold iR; omega) dX1_move_24 (by decide) (fun _ => ?_) (fun h => absurd (by decide) h)
        refine li_iconst hx hb dX1_move_31 ?_
        exact bt_S (As := [.int (iI 0)]) (rest := []) ⟨hx, hb, hml, hown, hts⟩ (c_X1_need_f l hst g ad σ τ w sa) (va_cwS 1 hts gX1_move_X1_need rfl rfl rfl (by decide +kernel) ⟨Nat.le_of_ble_eq_true rfl, Nat.le_of_ble_eq_true rfl⟩) hK hU hT bx_F.rf bx_Lc.nil rfl hl.1 rfl (Nat.le_of_ble_eq_true rfl) dX1_move_32 ⟨Nat.le_of_ble_eq_true rfl, Nat.le_of_ble_eq_true rfl⟩ hout hlocks (Nat.le_of_ble_eq_true rfl) (Nat.le_of_ble_eq_true rfl)
    · refine li_if_eq (tgt := 31) hx hb (by unfold iR; omega) dX1_move_11 (by decide) (fun _ => ?_) (fun h => absurd (by decide) h)
      refine li_iconst hx hb dX1_move_31 ?_
      exact bt_S (As := [.int (iI 0)]) (rest := []) ⟨hx, hb, hml, hown, hts⟩ (c_X1_need_f l hst g ad σ τ w sa) (va_cwS 1 hts gX1_move_X1_need rfl rfl rfl (by decide +kernel) ⟨Nat.le_of_ble_eq_true rfl, Nat.le_of_ble_eq_true rfl⟩) hK hU hT bx_F.rf bx_Lc.nil rfl hl.1 rfl (Nat.le_of_ble_eq_true rfl) dX1_move_32 ⟨Nat.le_of_ble_eq_true rfl, Nat.le_of_ble_eq_true rfl⟩ hout hlocks (Nat.le_of_ble_eq_true rfl) (Nat.le_of_ble_eq_true rfl)
  · exact bt_V (As := [.int (iI p)]) (rest := []) (kd := 0) (k := 0) (ci := 1) ⟨hx, hb, hml, hown, hts⟩ (c_X1_partAt_f l hst g ad σ τ w sa p (by unfold iR; omega) hp1) (cwV 1 hts gX1_move_X1_partAt rfl rfl rfl (by decide +kernel) ⟨Nat.le_of_ble_eq_true rfl, Nat.le_of_ble_eq_true rfl⟩) hK hU hT bx_F.rf bx_Lc.nil (bx_L0 (by omega)) rfl rfl rfl hl.1 rfl (Nat.le_of_ble_eq_true rfl) dX1_move_2 ⟨Nat.le_of_ble_eq_true rfl, Nat.le_of_ble_eq_true rfl⟩ hout hlocks (Nat.le_of_ble_eq_true rfl) (Nat.le_of_ble_eq_true rfl)

set_option maxHeartbeats 4000000 in
set_option maxRecDepth 100000 in
theorem c_X1_drop_t (l : Launch) (g : bxG) (ad : bxA) (σ τ : bxS) (w : bxW) (p : Int) (hRp : iR p) (hB : bx_B σ) (hg : 0 ≤ p ∧ p < 60 ∧ σ 2 p 0 ≠ 0) : Met l yX1_drop wsX1_drop ({ frames := 7, cells := 0, slots := 0, locals := 110 }) (va_Pc [.ref (ad 0 0), .int (iI p)] (fun U => bx_I g ad σ τ w U)) (bq_W (some (.int (iI (σ 1 0 0 - 1)))) g ad (up3 (up3 σ 2 p 0 0) 1 0 0 (σ 1 0 0 - 1)) τ w) 0 0 (bq_fr g) := by
  refine Met.ofW (cc := cX1_drop) (maxL := 2) (ret := (some .int)) (by decide) rfl ?_
  intro Pg Ev s mI args below meth cd s₁ B hml hv
  obtain ⟨rfl, hU, hK⟩ := hv
  have hx := B.exec
  have hb := B.bytes
  have hr := B.returns
  have hts := atoms_spec (ws := wsX1_drop) B.pre
  have hown : s.vm.findClass RX1 = some mI.cls := findClass_of_methodNamed B.named
  have hlocks := B.notSynchronized
  have hF : bx_F g s.heap s.heap := bx_F.rf
  have hlc : bx_Lc g [] := bx_Lc.nil
  have hl := lv_entry ([.ref (ad 0 0), .int (iI p)]) (n := 2) (Nat.le_of_ble_eq_true rfl)
  rw [lg_entry_eq]
  generalize (lg_sl ([.ref (ad 0 0), .int (iI p)]) ++ List.replicate (2 - (lg_sl ([.ref (ad 0 0), .int (iI p)])).length) Slot.unset).toArray = ls at hl ⊢
  have hl : lv_has ls 2 [(0, .ref (ad 0 0)), (1, .int (iI p))] := hl
  have hinX1 : ∀ w ∈ wsX10, w ∈ wsX1_drop := by decide +kernel
  have hRp0 : -2147483648 ≤ p ∧ p < 2147483648 := hRp
  refine lv_aload_n hx hb dX1_drop_0 rfl (lv_at hl 0 rfl) ?_
  refine lv_iload_n hx hb dX1_drop_1 rfl (lv_at hl 1 rfl) ?_
  refine bc_VB (As := [.int (iI p)]) (rest := []) (kd := 0) (k := 0) (ci := 1) ⟨hx, hb, hml, hown, hts⟩ (c_X1_isThere l g ad σ τ w p (by unfold iR; omega)) (cwV 1 hts gX1_drop_X1_isThere rfl rfl rfl (by decide +kernel) ⟨Nat.le_of_ble_eq_true rfl, Nat.le_of_ble_eq_true rfl⟩) hK hU (bx_L0 (by omega)) rfl rfl rfl hl.1 rfl (Nat.le_of_ble_eq_true rfl) dX1_drop_2 ⟨Nat.le_of_ble_eq_true rfl, Nat.le_of_ble_eq_true rfl⟩ (fun h1 => ?_) (fun h1 => ?_)
  · refine bc_SN (As := [.int (iI 1)]) (rest := []) ⟨hx, hb, hml, hown, hts⟩ (c_X1_need_t l g ad σ τ w) (va_cwS 1 hts gX1_drop_X1_need rfl rfl rfl (by decide +kernel) ⟨Nat.le_of_ble_eq_true rfl, Nat.le_of_ble_eq_true rfl⟩) hK hU rfl hl.1 rfl (Nat.le_of_ble_eq_true rfl) dX1_drop_5 ⟨Nat.le_of_ble_eq_true rfl, Nat.le_of_ble_eq_true rfl⟩ ?_
    refine lv_aload_n hx hb dX1_drop_8 rfl (lv_at hl 0 rfl) ?_
    refine bg_X1_row hx hb hts hinX1 hown hK hU (hts (.fieldLink RX1 11 "ClashBoxes" "row" "[LClashBoxes$Part;") (by decide +kernel)) dX1_drop_9 ?_
    refine lv_iload_n hx hb dX1_drop_12 rfl (lv_at hl 1 rfl) ?_
    refine lv_null hx hb dX1_drop_13 ?_
    refine bs_rowN hx hb hK hU hlc (by omega) (by omega) dX1_drop_14 (fun H locs hU hF1 hlc => ?_)
    have hF := hF.tr hF1
    refine lv_aload_n hx hb dX1_drop_15 rfl (lv_at hl 0 rfl) ?_
    refine lv_dup hx hb dX1_drop_16 rfl ?_
    refine bg_X1_left hx hb hts hinX1 hown hK hU (hts (.fieldLink RX1 23 "ClashBoxes" "left" "I") (by decide +kernel)) dX1_drop_17 ?_
    refine W.eq (g2 := F0 mI 20 ls [.int (iI (σ 1 0 0)), .ref (ad 0 0)]) rfl ?_
    refine li_iconst hx hb dX1_drop_20 ?_
    refine li_isub hx hb dX1_drop_21 ?_
    refine bp_X1_left hx hb hts hinX1 hown hK hU hlc (hts (.fieldLink RX1 23 "ClashBoxes" "left" "I") (by decide +kernel)) dX1_drop_22 (fun H locs hU hF1 hlc => ?_)
    have hF := hF.tr hF1
    refine lv_aload_n hx hb dX1_drop_25 rfl (lv_at hl 0 rfl) ?_
    refine bg_X1_left hx hb hts hinX1 hown hK hU (hts (.fieldLink RX1 23 "ClashBoxes" "left" "I") (by decide +kernel)) dX1_drop_26 ?_
    refine W.eq (g2 := F0 mI 29 ls [.int (iI ((σ 1 0 0) - 1))]) rfl ?_
    refine bw_i hx hb hr hlocks (by first | exact hU | simpa using hU) hF hlc ?_ dX1_drop_29
    rfl
  · exfalso
    omega

set_option maxHeartbeats 4000000 in
set_option maxRecDepth 100000 in
theorem c_X1_drop_f (l : Launch) (hst : l.stackTraces = false) (g : bxG) (ad : bxA) (σ τ : bxS) (w : bxW) (sa : Nat → Nat) (p : Int) (hRp : iR p) (hB : bx_B σ) (hg : ¬ (0 ≤ p ∧ p < 60 ∧ σ 2 p 0 ≠ 0)) : vx_Met l yX1_drop wsX1_drop ({ frames := 7, cells := 1, slots := 6, locals := 110 }) (va_Pc [.ref (ad 0 0), .int (iI p)] (fun U => bt_I g ad σ τ w sa U)) bq_no (bq_X g ad σ τ w (fun E => E = bt_iae)) 1 6 (bq_fr g) := by
  refine vx_ofW (cc := cX1_drop) (maxL := 2) (ret := (some .int)) (by decide) rfl ?_
  intro Pg Ev s mI args below meth cd s₁ B hml hout hv
  obtain ⟨rfl, ⟨hU, hK⟩, hT⟩ := hv
  have hx := B.exec
  have hb := B.bytes
  have hr := B.returns
  have hts := atoms_spec (ws := wsX1_drop) B.pre
  have hown : s.vm.findClass RX1 = some mI.cls := findClass_of_methodNamed B.named
  have hlocks := B.notSynchronized
  have hl := lv_entry ([.ref (ad 0 0), .int (iI p)]) (n := 2) (Nat.le_of_ble_eq_true rfl)
  rw [lg_entry_eq]
  generalize (lg_sl ([.ref (ad 0 0), .int (iI p)]) ++ List.replicate (2 - (lg_sl ([.ref (ad 0 0), .int (iI p)])).length) Slot.unset).toArray = ls at hl ⊢
  have hl : lv_has ls 2 [(0, .ref (ad 0 0)), (1, .int (iI p))] := hl
  have hRp0 : -2147483648 ≤ p ∧ p < 2147483648 := hRp
  refine lv_aload_n hx hb dX1_drop_0 rfl (lv_at hl 0 rfl) ?_
  refine lv_iload_n hx hb dX1_drop_1 rfl (lv_at hl 1 rfl) ?_
  refine bc_VB (As := [.int (iI p)]) (rest := []) (kd := 0) (k := 0) (ci := 1) ⟨hx, hb, hml, hown, hts⟩ (c_X1_isThere l g ad σ τ w p (by unfold iR; omega)) (cwV 1 hts gX1_drop_X1_isThere rfl rfl rfl (by decide +kernel) ⟨Nat.le_of_ble_eq_true rfl, Nat.le_of_ble_eq_true rfl⟩) hK hU (bx_L0 (by omega)) rfl rfl rfl hl.1 rfl (Nat.le_of_ble_eq_true rfl) dX1_drop_2 ⟨Nat.zero_le _, Nat.zero_le _⟩ (fun h1 => ?_) (fun h1 => ?_)
  · refine bc_SN (As := [.int (iI 1)]) (rest := []) ⟨hx, hb, hml, hown, hts⟩ (c_X1_need_t l g ad σ τ w) (va_cwS 1 hts gX1_drop_X1_need rfl rfl rfl (by decide +kernel) ⟨Nat.le_of_ble_eq_true rfl, Nat.le_of_ble_eq_true rfl⟩) hK hU rfl hl.1 rfl (Nat.le_of_ble_eq_true rfl) dX1_drop_5 ⟨Nat.zero_le _, Nat.zero_le _⟩ ?_
    refine lv_aload_n hx hb dX1_drop_8 rfl (lv_at hl 0 rfl) ?_
    exfalso
    omega
  · exact bt_S (As := [.int (iI 0)]) (rest := []) ⟨hx, hb, hml, hown, hts⟩ (c_X1_need_f l hst g ad σ τ w sa) (va_cwS 1 hts gX1_drop_X1_need rfl rfl rfl (by decide +kernel) ⟨Nat.le_of_ble_eq_true rfl, Nat.le_of_ble_eq_true rfl⟩) hK hU hT bx_F.rf bx_Lc.nil rfl hl.1 rfl (Nat.le_of_ble_eq_true rfl) dX1_drop_5 ⟨Nat.le_of_ble_eq_true rfl, Nat.le_of_ble_eq_true rfl⟩ hout hlocks (Nat.le_of_ble_eq_true rfl) (Nat.le_of_ble_eq_true rfl)
