set_option maxHeartbeats 4000000 in
set_option maxRecDepth 100000 in
theorem c_X1_isThere (l : Launch) (g : bxG) (ad : bxA) (σ τ : bxS) (w : bxW) (k : Int) (hRk : iR k) : Met l yX1_isThere wsX1_isThere ({ frames := 1, cells := 0, slots := 0, locals := 22 }) (va_Pc [.ref (ad 0 0), .int (iI k)] (fun U => bx_I g ad σ τ w U)) (k2_QcV (.int (iI (zB (0 ≤ k ∧ k < 60 ∧ σ 2 k 0 ≠ 0))))) 0 0 (fun _ => False) := by
  refine Met.ofW (cc := cX1_isThere) (maxL := 2) (ret := (some .boolean)) (by decide) rfl ?_
  intro Pg Ev s mI args below meth cd s₁ B hml hv
  obtain ⟨rfl, hU, hK⟩ := hv
  have hx := B.exec
  have hb := B.bytes
  have hr := B.returns
  have hts := atoms_spec (ws := wsX1_isThere) B.pre
  have hown : s.vm.findClass RX1 = some mI.cls := findClass_of_methodNamed B.named
  have hlocks := B.notSynchronized
  have hl := lv_entry ([.ref (ad 0 0), .int (iI k)]) (n := 2) (Nat.le_of_ble_eq_true rfl)
  rw [lg_entry_eq]
  generalize (lg_sl ([.ref (ad 0 0), .int (iI k)]) ++ List.replicate (2 - (lg_sl ([.ref (ad 0 0), .int (iI k)])).length) Slot.unset).toArray = ls at hl ⊢
  have hl : lv_has ls 2 [(0, .ref (ad 0 0)), (1, .int (iI k))] := hl
  have hinX1 : ∀ w ∈ wsX10, w ∈ wsX1_isThere := by decide +kernel
  have hRk0 : -2147483648 ≤ k ∧ k < 2147483648 := hRk
  refine lv_iload_n hx hb dX1_isThere_0 rfl (lv_at hl 1 rfl) ?_
  refine li_iconst hx hb dX1_isThere_1 ?_
  refine li_bipush hx hb dX1_isThere_2 (by decide) ?_
  refine bc_SB (As := [.int (iI k), .int (iI 0), .int (iI 59)]) (rest := []) ⟨hx, hb, hml, hown, hts⟩ (c_X1_isWithin l g ad σ τ w k 0 59 (by unfold iR; omega) (by unfold iR; omega) (by unfold iR; omega)) (va_cwS 3 hts gX1_isThere_X1_isWithin rfl rfl rfl (by decide +kernel) ⟨Nat.le_of_ble_eq_true rfl, Nat.le_of_ble_eq_true rfl⟩) hK hU  rfl hl.1 rfl (Nat.le_of_ble_eq_true rfl) dX1_isThere_4 ⟨Nat.zero_le _, Nat.zero_le _⟩ (fun h1 => ?_) (fun h1 => ?_)
  · refine li_if_eq (tgt := 23) hx hb (by unfold iR; omega) dX1_isThere_7 (by decide) (fun h => absurd h (by decide)) (fun _ => ?_)
    refine lv_aload_n hx hb dX1_isThere_10 rfl (lv_at hl 0 rfl) ?_
    refine bg_X1_row hx hb hts hinX1 hown hK hU (hts (.fieldLink RX1 11 "ClashBoxes" "row" "[LClashBoxes$Part;") (by decide +kernel)) dX1_isThere_11 ?_
    refine lv_iload_n hx hb dX1_isThere_14 rfl (lv_at hl 1 rfl) ?_
    refine bx_row hx hb hK hU (by omega) (by omega) dX1_isThere_15 (fun h2 => ?_) (fun h2 => ?_)
    · refine lv_ifnullN (tgt := 23) hx hb dX1_isThere_16 (by decide) ?_
      refine li_iconst hx hb dX1_isThere_23 ?_
      refine be_f hx hb hr hlocks ?_ dX1_isThere_24
      omega
    · have hp3 : 0 ≤ k ∧ k < 60 ∧ σ 2 k 0 ≠ 0 := ⟨by omega, by omega, h2⟩
      refine lv_ifnull hx hb dX1_isThere_16 ?_
      refine li_iconst hx hb dX1_isThere_19 ?_
      refine lv_goto (tgt := 24) hx hb dX1_isThere_20 (by decide) ?_
      refine be_t hx hb hr hlocks ?_ dX1_isThere_24
      omega
  · refine li_if_eq (tgt := 23) hx hb (by unfold iR; omega) dX1_isThere_7 (by decide) (fun _ => ?_) (fun h => absurd (by decide) h)
    refine li_iconst hx hb dX1_isThere_23 ?_
    refine be_f hx hb hr hlocks ?_ dX1_isThere_24
    omega

set_option maxHeartbeats 4000000 in
set_option maxRecDepth 100000 in
theorem c_X1_parts (l : Launch) (g : bxG) (ad : bxA) (σ τ : bxS) (w : bxW) : Met l yX1_parts wsX1_parts ({ frames := 0, cells := 0, slots := 0, locals := 0 }) (va_Pc [.ref (ad 0 0)] (fun U => bx_I g ad σ τ w U)) (k2_QcV (.int (iI (σ 1 0 0)))) 0 0 (fun _ => False) := by
  refine Met.ofW (cc := cX1_parts) (maxL := 1) (ret := (some .int)) (by decide) rfl ?_
  intro Pg Ev s mI args below meth cd s₁ B hml hv
  obtain ⟨rfl, hU, hK⟩ := hv
  have hx := B.exec
  have hb := B.bytes
  have hr := B.returns
  have hts := atoms_spec (ws := wsX1_parts) B.pre
  have hown : s.vm.findClass RX1 = some mI.cls := findClass_of_methodNamed B.named
  have hlocks := B.notSynchronized
  have hl := lv_entry ([.ref (ad 0 0)]) (n := 1) (Nat.le_of_ble_eq_true rfl)
  rw [lg_entry_eq]
  generalize (lg_sl ([.ref (ad 0 0)]) ++ List.replicate (1 - (lg_sl ([.ref (ad 0 0)])).length) Slot.unset).toArray = ls at hl ⊢
  have hl : lv_has ls 1 [(0, .ref (ad 0 0))] := hl
  have hinX1 : ∀ w ∈ wsX10, w ∈ wsX1_parts := by decide +kernel
  refine lv_aload_n hx hb dX1_parts_0 rfl (lv_at hl 0 rfl) ?_
  refine bg_X1_left hx hb hts hinX1 hown hK hU (hts (.fieldLink RX1 23 "ClashBoxes" "left" "I") (by decide +kernel)) dX1_parts_1 ?_
  refine be_i hx hb hr hlocks ?_ dX1_parts_4
  rfl

set_option maxHeartbeats 4000000 in
set_option maxRecDepth 100000 in
theorem c_X2_thrown (l : Launch) (g : bxG) (ad : bxA) (σ τ : bxS) (w : bxW) : Met l yX2_thrown wsX2_thrown ({ frames := 0, cells := 0, slots := 0, locals := 0 }) (va_Pc [.ref (ad 7 0)] (fun U => bx_I g ad σ τ w U)) (k2_QcV (.int (iI (w.2)))) 0 0 (fun _ => False) := by
  refine Met.ofW (cc := cX2_thrown) (maxL := 1) (ret := (some .int)) (by decide) rfl ?_
  intro Pg Ev s mI args below meth cd s₁ B hml hv
  obtain ⟨rfl, hU, hK⟩ := hv
  have hx := B.exec
  have hb := B.bytes
  have hr := B.returns
  have hts := atoms_spec (ws := wsX2_thrown) B.pre
  have hown : s.vm.findClass RX2 = some mI.cls := findClass_of_methodNamed B.named
  have hlocks := B.notSynchronized
  have hl := lv_entry ([.ref (ad 7 0)]) (n := 1) (Nat.le_of_ble_eq_true rfl)
  rw [lg_entry_eq]
  generalize (lg_sl ([.ref (ad 7 0)]) ++ List.replicate (1 - (lg_sl ([.ref (ad 7 0)])).length) Slot.unset).toArray = ls at hl ⊢
  have hl : lv_has ls 1 [(0, .ref (ad 7 0))] := hl
  have hinX2 : ∀ w ∈ wsX20, w ∈ wsX2_thrown := by decide +kernel
  refine lv_aload_n hx hb dX2_thrown_0 rfl (lv_at hl 0 rfl) ?_
  refine bg_X2_code hx hb hts hinX2 hown hK hU (hts (.fieldLink RX2 42 "ClashBoxesModel" "code" "I") (by decide +kernel)) dX2_thrown_1 ?_
  refine be_i hx hb hr hlocks ?_ dX2_thrown_4
  rfl

set_option maxHeartbeats 4000000 in
set_option maxRecDepth 100000 in
theorem c_X1_pair_t (l : Launch) (g : bxG) (ad : bxA) (σ τ : bxS) (w : bxW) (p q : Int) (hRp : iR p) (hRq : iR q) (hB : bx_B σ) (hg : (0 ≤ p ∧ p < 60 ∧ σ 2 p 0 ≠ 0) ∧ (0 ≤ q ∧ q < 60 ∧ σ 2 q 0 ≠ 0) ∧ p ≠ q) : Met l yX1_pair wsX1_pair ({ frames := 7, cells := 0, slots := 0, locals := 119 }) (va_Pc [.ref (ad 0 0), .int (iI p), .int (iI q)] (fun U => bx_I g ad σ τ w U)) (k2_QcV (.int (iI (stO σ p q)))) 0 0 (fun _ => False) := by
  refine Met.ofW (cc := cX1_pair) (maxL := 5) (ret := (some .int)) (by decide) rfl ?_
  intro Pg Ev s mI args below meth cd s₁ B hml hv
  obtain ⟨rfl, hU, hK⟩ := hv
  have hx := B.exec
  have hb := B.bytes
  have hr := B.returns
  have hts := atoms_spec (ws := wsX1_pair) B.pre
  have hown : s.vm.findClass RX1 = some mI.cls := findClass_of_methodNamed B.named
  have hlocks := B.notSynchronized
  have hl := lv_entry ([.ref (ad 0 0), .int (iI p), .int (iI q)]) (n := 5) (Nat.le_of_ble_eq_true rfl)
  rw [lg_entry_eq]
  generalize (lg_sl ([.ref (ad 0 0), .int (iI p), .int (iI q)]) ++ List.replicate (5 - (lg_sl ([.ref (ad 0 0), .int (iI p), .int (iI q)])).length) Slot.unset).toArray = ls at hl ⊢
  have hl : lv_has ls 5 [(0, .ref (ad 0 0)), (1, .int (iI p)), (2, .int (iI q))] := hl
  have hRp0 : -2147483648 ≤ p ∧ p < 2147483648 := hRp
  have hRq0 : -2147483648 ≤ q ∧ q < 2147483648 := hRq
  refine lv_aload_n hx hb dX1_pair_0 rfl (lv_at hl 0 rfl) ?_
  refine lv_iload_n hx hb dX1_pair_1 rfl (lv_at hl 1 rfl) ?_
  by_cases hp1 : 0 ≤ p ∧ p < 60 ∧ σ 2 p 0 ≠ 0
  · refine bc_V (As := [.int (iI p)]) (rest := []) (kd := 0) (k := 0) (ci := 1) ⟨hx, hb, hml, hown, hts⟩ (c_X1_partAt_t l g ad σ τ w p hp1) (cwV 1 hts gX1_pair_X1_partAt rfl rfl rfl (by decide +kernel) ⟨Nat.le_of_ble_eq_true rfl, Nat.le_of_ble_eq_true rfl⟩) hK hU (bx_L0 (by omega)) rfl rfl rfl hl.1 rfl (Nat.le_of_ble_eq_true rfl) dX1_pair_2 ⟨Nat.zero_le _, Nat.zero_le _⟩ ?_
    refine lv_astore_n (lv' := [(3, .ref (ad 20 p)), (0, .ref (ad 0 0)), (1, .int (iI p)), (2, .int (iI q))]) hx hb dX1_pair_5 rfl hl (by decide) rfl (fun ls hl => ?_)
    refine lv_aload_n hx hb dX1_pair_6 rfl (lv_at hl 1 rfl) ?_
    refine lv_iload_n hx hb dX1_pair_7 rfl (lv_at hl 3 rfl) ?_
    by_cases hp2 : 0 ≤ q ∧ q < 60 ∧ σ 2 q 0 ≠ 0
    · refine bc_V (As := [.int (iI q)]) (rest := []) (kd := 0) (k := 0) (ci := 1) ⟨hx, hb, hml, hown, hts⟩ (c_X1_partAt_t l g ad σ τ w q hp2) (cwV 1 hts gX1_pair_X1_partAt rfl rfl rfl (by decide +kernel) ⟨Nat.le_of_ble_eq_true rfl, Nat.le_of_ble_eq_true rfl⟩) hK hU (bx_L0 (by omega)) rfl rfl rfl hl.1 rfl (Nat.le_of_ble_eq_true rfl) dX1_pair_8 ⟨Nat.zero_le _, Nat.zero_le _⟩ ?_
      refine lv_astore (lv' := [(4, .ref (ad 20 q)), (3, .ref (ad 20 p)), (0, .ref (ad 0 0)), (1, .int (iI p)), (2, .int (iI q))]) hx hb dX1_pair_11 hl (by decide) rfl (fun ls hl => ?_)
      refine lv_iload_n hx hb dX1_pair_13 rfl (lv_at hl 3 rfl) ?_
      refine lv_iload_n hx hb dX1_pair_14 rfl (lv_at hl 4 rfl) ?_
      refine li_icmp_eq (tgt := 22) hx hb (by unfold iR; omega) (by unfold iR; omega) dX1_pair_15 (by decide) (fun h3 => ?_) (fun h3 => ?_)
      · refine li_iconst hx hb dX1_pair_22 ?_
        exfalso
        omega
      · refine li_iconst hx hb dX1_pair_18 ?_
        refine lv_goto (tgt := 23) hx hb dX1_pair_19 (by decide) ?_
        refine bc_SN (As := [.int (iI 1)]) (rest := []) ⟨hx, hb, hml, hown, hts⟩ (c_X1_need_t l g ad σ τ w) (va_cwS 1 hts gX1_pair_X1_need rfl rfl rfl (by decide +kernel) ⟨Nat.le_of_ble_eq_true rfl, Nat.le_of_ble_eq_true rfl⟩) hK hU rfl hl.1 rfl (Nat.le_of_ble_eq_true rfl) dX1_pair_23 ⟨Nat.zero_le _, Nat.zero_le _⟩ ?_
        refine lv_aload_n hx hb dX1_pair_26 rfl (lv_at hl 2 rfl) ?_
        refine lv_aload_n hx hb dX1_pair_27 rfl (lv_at hl 1 rfl) ?_
        refine lv_aload hx hb dX1_pair_28 (lv_at hl 0 rfl) ?_
        refine bc_V (As := [.ref (ad 20 p), .ref (ad 20 q)]) (rest := []) (kd := 0) (k := 0) (ci := 1) ⟨hx, hb, hml, hown, hts⟩ (c_X1_stateOf l g ad σ τ w p q hp1 hp2 hB) (cwV 2 hts gX1_pair_X1_stateOf rfl rfl rfl (by decide +kernel) ⟨Nat.le_of_ble_eq_true rfl, Nat.le_of_ble_eq_true rfl⟩) hK hU (bx_L0 (by omega)) rfl rfl rfl hl.1 rfl (Nat.le_of_ble_eq_true rfl) dX1_pair_30 ⟨Nat.zero_le _, Nat.zero_le _⟩ ?_
        have h4 := stO_bd σ p q
        refine be_i hx hb hr hlocks ?_ dX1_pair_33
        rfl
    · exfalso
      omega
  · exfalso
    omega

set_option maxHeartbeats 4000000 in
set_option maxRecDepth 100000 in
theorem c_X1_pair_f (l : Launch) (hst : l.stackTraces = false) (g : bxG) (ad : bxA) (σ τ : bxS) (w : bxW) (sa : Nat → Nat) (p q : Int) (hRp : iR p) (hRq : iR q) (hB : bx_B σ) (hg : ¬ ((0 ≤ p ∧ p < 60 ∧ σ 2 p 0 ≠ 0) ∧ (0 ≤ q ∧ q < 60 ∧ σ 2 q 0 ≠ 0) ∧ p ≠ q)) : vx_Met l yX1_pair wsX1_pair ({ frames := 7, cells := 1, slots := 6, locals := 119 }) (va_Pc [.ref (ad 0 0), .int (iI p), .int (iI q)] (fun U => bt_I g ad σ τ w sa U)) bq_no (bq_X g ad σ τ w (fun E => E = bt_iae)) 1 6 (bq_fr g) := by
  refine vx_ofW (cc := cX1_pair) (maxL := 5) (ret := (some .int)) (by decide) rfl ?_
  intro Pg Ev s mI args below meth cd s₁ B hml hout hv
  obtain ⟨rfl, ⟨hU, hK⟩, hT⟩ := hv
  have hx := B.exec
  have hb := B.bytes
  have hr := B.returns
  have hts := atoms_spec (ws := wsX1_pair) B.pre
  have hown : s.vm.findClass RX1 = some mI.cls := findClass_of_methodNamed B.named
  have hlocks := B.notSynchronized
  have hl := lv_entry ([.ref (ad 0 0), .int (iI p), .int (iI q)]) (n := 5) (Nat.le_of_ble_eq_true rfl)
  rw [lg_entry_eq]
  generalize (lg_sl ([.ref (ad 0 0), .int (iI p), .int (iI q)]) ++ List.replicate (5 - (lg_sl ([.ref (ad 0 0), .int (iI p), .int (iI q)])).length) Slot.unset).toArray = ls at hl ⊢
  have hl : lv_has ls 5 [(0, .ref (ad 0 0)), (1, .int (iI p)), (2, .int (iI q))] := hl
  have hRp0 : -2147483648 ≤ p ∧ p < 2147483648 := hRp
  have hRq0 : -2147483648 ≤ q ∧ q < 2147483648 := hRq
  refine lv_aload_n hx hb dX1_pair_0 rfl (lv_at hl 0 rfl) ?_
  refine lv_iload_n hx hb dX1_pair_1 rfl (lv_at hl 1 rfl) ?_
  by_cases hp1 : 0 ≤ p ∧ p < 60 ∧ σ 2 p 0 ≠ 0
  · refine bc_V (As := [.int (iI p)]) (rest := []) (kd := 0) (k := 0) (ci := 1) ⟨hx, hb, hml, hown, hts⟩ (c_X1_partAt_t l g ad σ τ w p hp1) (cwV 1 hts gX1_pair_X1_partAt rfl rfl rfl (by decide +kernel) ⟨Nat.le_of_ble_eq_true rfl, Nat.le_of_ble_eq_true rfl⟩) hK hU (bx_L0 (by omega)) rfl rfl rfl hl.1 rfl (Nat.le_of_ble_eq_true rfl) dX1_pair_2 ⟨Nat.zero_le _, Nat.zero_le _⟩ ?_
    refine lv_astore_n (lv' := [(3, .ref (ad 20 p)), (0, .ref (ad 0 0)), (1, .int (iI p)), (2, .int (iI q))]) hx hb dX1_pair_5 rfl hl (by decide) rfl (fun ls hl => ?_)
    refine lv_aload_n hx hb dX1_pair_6 rfl (lv_at hl 1 rfl) ?_
    refine lv_iload_n hx hb dX1_pair_7 rfl (lv_at hl 3 rfl) ?_
    by_cases hp2 : 0 ≤ q ∧ q < 60 ∧ σ 2 q 0 ≠ 0
    · refine bc_V (As := [.int (iI q)]) (rest := []) (kd := 0) (k := 0) (ci := 1) ⟨hx, hb, hml, hown, hts⟩ (c_X1_partAt_t l g ad σ τ w q hp2) (cwV 1 hts gX1_pair_X1_partAt rfl rfl rfl (by decide +kernel) ⟨Nat.le_of_ble_eq_true rfl, Nat.le_of_ble_eq_true rfl⟩) hK hU (bx_L0 (by omega)) rfl rfl rfl hl.1 rfl (Nat.le_of_ble_eq_true rfl) dX1_pair_8 ⟨Nat.zero_le _, Nat.zero_le _⟩ ?_
      refine lv_astore (lv' := [(4, .ref (ad 20 q)), (3, .ref (ad 20 p)), (0, .ref (ad 0 0)), (1, .int (iI p)), (2, .int (iI q))]) hx hb dX1_pair_11 hl (by decide) rfl (fun ls hl => ?_)
      refine lv_iload_n hx hb dX1_pair_13 rfl (lv_at hl 3 rfl) ?_
      refine lv_iload_n hx hb dX1_pair_14 rfl (lv_at hl 4 rfl) ?_
      refine li_icmp_eq (tgt := 22) hx hb (by unfold iR; omega) (by unfold iR; omega) dX1_pair_15 (by decide) (fun h3 => ?_) (fun h3 => ?_)
      · refine li_iconst hx hb dX1_pair_22 ?_
        exact bt_S (As := [.int (iI 0)]) (rest := []) ⟨hx, hb, hml, hown, hts⟩ (c_X1_need_f l hst g ad σ τ w sa) (va_cwS 1 hts gX1_pair_X1_need rfl rfl rfl (by decide +kernel) ⟨Nat.le_of_ble_eq_true rfl, Nat.le_of_ble_eq_true rfl⟩) hK hU hT bx_F.rf bx_Lc.nil rfl hl.1 rfl (Nat.le_of_ble_eq_true rfl) dX1_pair_23 ⟨Nat.le_of_ble_eq_true rfl, Nat.le_of_ble_eq_true rfl⟩ hout hlocks (Nat.le_of_ble_eq_true rfl) (Nat.le_of_ble_eq_true rfl)
      · refine li_iconst hx hb dX1_pair_18 ?_
        refine lv_goto (tgt := 23) hx hb dX1_pair_19 (by decide) ?_
        refine bc_SN (As := [.int (iI 1)]) (rest := []) ⟨hx, hb, hml, hown, hts⟩ (c_X1_need_t l g ad σ τ w) (va_cwS 1 hts gX1_pair_X1_need rfl rfl rfl (by decide +kernel) ⟨Nat.le_of_ble_eq_true rfl, Nat.le_of_ble_eq_true rfl⟩) hK hU rfl hl.1 rfl (Nat.le_of_ble_eq_true rfl) dX1_pair_23 ⟨Nat.zero_le _, Nat.zero_le _⟩ ?_
        refine lv_aload_n hx hb dX1_pair_26 rfl (lv_at hl 2 rfl) ?_
        refine lv_aload_n hx hb dX1_pair_27 rfl (lv_at hl 1 rfl) ?_
        exfalso
        omega
    · exact bt_V (As := [.int (iI q)]) (rest := []) (kd := 0) (k := 0) (ci := 1) ⟨hx, hb, hml, hown, hts⟩ (c_X1_partAt_f l hst g ad σ τ w sa q (by unfold iR; omega) hp2) (cwV 1 hts gX1_pair_X1_partAt rfl rfl rfl (by decide +kernel) ⟨Nat.le_of_ble_eq_true rfl, Nat.le_of_ble_eq_true rfl⟩) hK hU hT bx_F.rf bx_Lc.nil (bx_L0 (by omega)) rfl rfl rfl hl.1 rfl (Nat.le_of_ble_eq_true rfl) dX1_pair_8 ⟨Nat.le_of_ble_eq_true rfl, Nat.le_of_ble_eq_true rfl⟩ hout hlocks (Nat.le_of_ble_eq_true rfl) (Nat.le_of_ble_eq_true rfl)
  · exact bt_V (As := [.int (iI p)]) (rest := []) (kd := 0) (k := 0) (ci := 1) ⟨hx, hb, hml, hown, hts⟩ (c_X1_partAt_f l hst g ad σ τ w sa p (by unfold iR; omega) hp1) (cwV 1 hts gX1_pair_X1_partAt rfl rfl rfl (by decide +kernel) ⟨Nat.le_of_ble_eq_true rfl, Nat.le_of_ble_eq_true rfl⟩) hK hU hT bx_F.rf bx_Lc.nil (bx_L0 (by omega)) rfl rfl rfl hl.1 rfl (Nat.le_of_ble_eq_true rfl) dX1_pair_2 ⟨Nat.le_of_ble_eq_true rfl, Nat.le_of_ble_eq_true rfl⟩ hout hlocks (Nat.le_of_ble_eq_true rfl) (Nat.le_of_ble_eq_true rfl)

set_option maxHeartbeats 4000000 in
set_option maxRecDepth 100000 in
theorem c_X1_hull_t (l : Launch) (g : bxG) (ad : bxA) (σ τ : bxS) (w : bxW) (p a z : Int) (hRp : iR p) (hRa : iR a) (hRz : iR z) (hB : bx_B σ) (hg : (0 ≤ p ∧ p < 60 ∧ σ 2 p 0 ≠ 0) ∧ (0 ≤ a ∧ a ≤ 2) ∧ 0 ≤ z ∧ z ≤ 1) : Met l yX1_hull wsX1_hull ({ frames := 7, cells := 0, slots := 0, locals := 112 }) (va_Pc [.ref (ad 0 0), .int (iI p), .int (iI a), .int (iI z)] (fun U => bx_I g ad σ τ w U)) (k2_QcV (.int (iI (if z = 0 then hLo σ p a else hHi σ p a)))) 0 0 (fun _ => False) := by
  refine Met.ofW (cc := cX1_hull) (maxL := 5) (ret := (some .int)) (by decide) rfl ?_
  intro Pg Ev s mI args below meth cd s₁ B hml hv
  obtain ⟨rfl, hU, hK⟩ := hv
  have hx := B.exec
  have hb := B.bytes
  have hr := B.returns
  have hts := atoms_spec (ws := wsX1_hull) B.pre
  have hown : s.vm.findClass RX1 = some mI.cls := findClass_of_methodNamed B.named
  have hlocks := B.notSynchronized
  have hl := lv_entry ([.ref (ad 0 0), .int (iI p), .int (iI a), .int (iI z)]) (n := 5) (Nat.le_of_ble_eq_true rfl)
  rw [lg_entry_eq]
  generalize (lg_sl ([.ref (ad 0 0), .int (iI p), .int (iI a), .int (iI z)]) ++ List.replicate (5 - (lg_sl ([.ref (ad 0 0), .int (iI p), .int (iI a), .int (iI z)])).length) Slot.unset).toArray = ls at hl ⊢
  have hl : lv_has ls 5 [(0, .ref (ad 0 0)), (1, .int (iI p)), (2, .int (iI a)), (3, .int (iI z))] := hl
  have hRp0 : -2147483648 ≤ p ∧ p < 2147483648 := hRp
  have hRa0 : -2147483648 ≤ a ∧ a < 2147483648 := hRa
  have hRz0 : -2147483648 ≤ z ∧ z < 2147483648 := hRz
  refine lv_aload_n hx hb dX1_hull_0 rfl (lv_at hl 0 rfl) ?_
  refine lv_iload_n hx hb dX1_hull_1 rfl (lv_at hl 1 rfl) ?_
  by_cases hp1 : 0 ≤ p ∧ p < 60 ∧ σ 2 p 0 ≠ 0
  · refine bc_V (As := [.int (iI p)]) (rest := []) (kd := 0) (k := 0) (ci := 1) ⟨hx, hb, hml, hown, hts⟩ (c_X1_partAt_t l g ad σ τ w p hp1) (cwV 1 hts gX1_hull_X1_partAt rfl rfl rfl (by decide +kernel) ⟨Nat.le_of_ble_eq_true rfl, Nat.le_of_ble_eq_true rfl⟩) hK hU (bx_L0 (by omega)) rfl rfl rfl hl.1 rfl (Nat.le_of_ble_eq_true rfl) dX1_hull_2 ⟨Nat.zero_le _, Nat.zero_le _⟩ ?_
    refine lv_astore (lv' := [(4, .ref (ad 20 p)), (0, .ref (ad 0 0)), (1, .int (iI p)), (2, .int (iI a)), (3, .int (iI z))]) hx hb dX1_hull_5 hl (by decide) rfl (fun ls hl => ?_)
    refine lv_iload_n hx hb dX1_hull_7 rfl (lv_at hl 3 rfl) ?_
    refine bc_SB (As := [.int (iI a)]) (rest := []) ⟨hx, hb, hml, hown, hts⟩ (c_X1_isAxis l g ad σ τ w a (by unfold iR; omega)) (va_cwS 1 hts gX1_hull_X1_isAxis rfl rfl rfl (by decide +kernel) ⟨Nat.le_of_ble_eq_true rfl, Nat.le_of_ble_eq_true rfl⟩) hK hU  rfl hl.1 rfl (Nat.le_of_ble_eq_true rfl) dX1_hull_8 ⟨Nat.zero_le _, Nat.zero_le _⟩ (fun h2 => ?_) (fun h2 => ?_)
    · refine li_if_eq (tgt := 27) hx hb (by unfold iR; omega) dX1_hull_11 (by decide) (fun h => absurd h (by decide)) (fun _ => ?_)
      refine lv_iload_n hx hb dX1_hull_14 rfl (lv_at hl 4 rfl) ?_
      refine li_iconst hx hb dX1_hull_15 ?_
      refine li_iconst hx hb dX1_hull_16 ?_
      refine bc_SB (As := [.int (iI z), .int (iI 0), .int (iI 1)]) (rest := []) ⟨hx, hb, hml, hown, hts⟩ (c_X1_isWithin l g ad σ τ w z 0 1 (by unfold iR; omega) (by unfold iR; omega) (by unfold iR; omega)) (va_cwS 3 hts gX1_hull_X1_isWithin rfl rfl rfl (by decide +kernel) ⟨Nat.le_of_ble_eq_true rfl, Nat.le_of_ble_eq_true rfl⟩) hK hU  rfl hl.1 rfl (Nat.le_of_ble_eq_true rfl) dX1_hull_17 ⟨Nat.zero_le _, Nat.zero_le _⟩ (fun h3 => ?_) (fun h3 => ?_)
      · refine li_if_eq (tgt := 27) hx hb (by unfold iR; omega) dX1_hull_20 (by decide) (fun h => absurd h (by decide)) (fun _ => ?_)
        refine li_iconst hx hb dX1_hull_23 ?_
        refine lv_goto (tgt := 28) hx hb dX1_hull_24 (by decide) ?_
        refine bc_SN (As := [.int (iI 1)]) (rest := []) ⟨hx, hb, hml, hown, hts⟩ (c_X1_need_t l g ad σ τ w) (va_cwS 1 hts gX1_hull_X1_need rfl rfl rfl (by decide +kernel) ⟨Nat.le_of_ble_eq_true rfl, Nat.le_of_ble_eq_true rfl⟩) hK hU rfl hl.1 rfl (Nat.le_of_ble_eq_true rfl) dX1_hull_28 ⟨Nat.zero_le _, Nat.zero_le _⟩ ?_
        refine lv_iload_n hx hb dX1_hull_31 rfl (lv_at hl 4 rfl) ?_
        refine li_if_ne (tgt := 44) hx hb (by unfold iR; omega) dX1_hull_32 (by decide) (fun h4 => ?_) (fun h4 => ?_)
        · refine lv_aload hx hb dX1_hull_44 (lv_at hl 0 rfl) ?_
          refine lv_iload_n hx hb dX1_hull_46 rfl (lv_at hl 3 rfl) ?_
          refine bc_V (As := [.int (iI a)]) (rest := []) (kd := 20) (k := p) (ci := 0) ⟨hx, hb, hml, hown, hts⟩ (c_X0_hullGreatest l g ad σ τ w p a hp1 hB (by omega)) (cwV 1 hts gX1_hull_X0_hullGreatest rfl rfl rfl (by decide +kernel) ⟨Nat.le_of_ble_eq_true rfl, Nat.le_of_ble_eq_true rfl⟩) hK hU (bx_Lp (by omega) (by omega) hp1) rfl rfl rfl hl.1 rfl (Nat.le_of_ble_eq_true rfl) dX1_hull_47 ⟨Nat.zero_le _, Nat.zero_le _⟩ ?_
          have h5 := hHi_bd hB hp1 (a := a) (by omega) (by omega)
          refine be_i hx hb hr hlocks ?_ dX1_hull_50
          first | (rw [if_pos (by omega)]) | (rw [if_neg (by omega)])
        · refine lv_aload hx hb dX1_hull_35 (lv_at hl 0 rfl) ?_
          refine lv_iload_n hx hb dX1_hull_37 rfl (lv_at hl 3 rfl) ?_
          refine bc_V (As := [.int (iI a)]) (rest := []) (kd := 20) (k := p) (ci := 0) ⟨hx, hb, hml, hown, hts⟩ (c_X0_hullLeast l g ad σ τ w p a hp1 hB (by omega)) (cwV 1 hts gX1_hull_X0_hullLeast rfl rfl rfl (by decide +kernel) ⟨Nat.le_of_ble_eq_true rfl, Nat.le_of_ble_eq_true rfl⟩) hK hU (bx_Lp (by omega) (by omega) hp1) rfl rfl rfl hl.1 rfl (Nat.le_of_ble_eq_true rfl) dX1_hull_38 ⟨Nat.zero_le _, Nat.zero_le _⟩ ?_
          have h6 := hLo_bd hB hp1 (a := a) (by omega) (by omega)
          refine lv_goto (tgt := 50) hx hb dX1_hull_41 (by decide) ?_
          refine be_i hx hb hr hlocks ?_ dX1_hull_50
          first | (rw [if_pos (by omega)]) | (rw [if_neg (by omega)])
      · refine li_if_eq (tgt := 27) hx hb (by unfold iR; omega) dX1_hull_20 (by decide) (fun _ => ?_) (fun h => absurd (by decide) h)
        refine li_iconst hx hb dX1_hull_27 ?_
        exfalso
        omega
    · refine li_if_eq (tgt := 27) hx hb (by unfold iR; omega) dX1_hull_11 (by decide) (fun _ => ?_) (fun h => absurd (by decide) h)
      refine li_iconst hx hb dX1_hull_27 ?_
      exfalso
      omega
  · exfalso
    omega

set_option maxHeartbeats 4000000 in
set_option maxRecDepth 100000 in
theorem c_X1_hull_f (l : Launch) (hst : l.stackTraces = false) (g : bxG) (ad : bxA) (σ τ : bxS) (w : bxW) (sa : Nat → Nat) (p a z : Int) (hRp : iR p) (hRa : iR a) (hRz : iR z) (hB : bx_B σ) (hg : ¬ ((0 ≤ p ∧ p < 60 ∧ σ 2 p 0 ≠ 0) ∧ (0 ≤ a ∧ a ≤ 2) ∧ 0 ≤ z ∧ z ≤ 1)) : vx_Met l yX1_hull wsX1_hull ({ frames := 7, cells := 1, slots := 6, locals := 112 }) (va_Pc [.ref (ad 0 0), .int (iI p), .int (iI a), .int (iI z)] (fun U => bt_I g ad σ τ w sa U)) bq_no (bq_X g ad σ τ w (fun E => E = bt_iae)) 1 6 (bq_fr g) := by
  refine vx_ofW (cc := cX1_hull) (maxL := 5) (ret := (some .int)) (by decide) rfl ?_
  intro Pg Ev s mI args below meth cd s₁ B hml hout hv
  obtain ⟨rfl, ⟨hU, hK⟩, hT⟩ := hv
  have hx := B.exec
  have hb := B.bytes
  have hr := B.returns
  have hts := atoms_spec (ws := wsX1_hull) B.pre
  have hown : s.vm.findClass RX1 = some mI.cls := findClass_of_methodNamed B.named
  have hlocks := B.notSynchronized
  have hl := lv_entry ([.ref (ad 0 0), .int (iI p), .int (iI a), .int (iI z)]) (n := 5) (Nat.le_of_ble_eq_true rfl)
  rw [lg_entry_eq]
  generalize (lg_sl ([.ref (ad 0 0), .int (iI p), .int (iI a), .int (iI z)]) ++ List.replicate (5 - (lg_sl ([.ref (ad 0 0), .int (iI p), .int (iI a), .int (iI z)])).length) Slot.unset).toArray = ls at hl ⊢
  have hl : lv_has ls 5 [(0, .ref (ad 0 0)), (1, .int (iI p)), (2, .int (iI a)), (3, .int (iI z))] := hl
  have hRp0 : -2147483648 ≤ p ∧ p < 2147483648 := hRp
  have hRa0 : -2147483648 ≤ a ∧ a < 2147483648 := hRa
  have hRz0 : -2147483648 ≤ z ∧ z < 2147483648 := hRz
  refine lv_aload_n hx hb dX1_hull_0 rfl (lv_at hl 0 rfl) ?_
  refine lv_iload_n hx hb dX1_hull_1 rfl (lv_at hl 1 rfl) ?_
  by_cases hp1 : 0 ≤ p ∧ p < 60 ∧ σ 2 p 0 ≠ 0
  · refine bc_V (As := [.int (iI p)]) (rest := []) (kd := 0) (k := 0) (ci := 1) ⟨hx, hb, hml, hown, hts⟩ (c_X1_partAt_t l g ad σ τ w p hp1) (cwV 1 hts gX1_hull_X1_partAt rfl rfl rfl (by decide +kernel) ⟨Nat.le_of_ble_eq_true rfl, Nat.le_of_ble_eq_true rfl⟩) hK hU (bx_L0 (by omega)) rfl rfl rfl hl.1 rfl (Nat.le_of_ble_eq_true rfl) dX1_hull_2 ⟨Nat.zero_le _, Nat.zero_le _⟩ ?_
    refine lv_astore (lv' := [(4, .ref (ad 20 p)), (0, .ref (ad 0 0)), (1, .int (iI p)), (2, .int (iI a)), (3, .int (iI z))]) hx hb dX1_hull_5 hl (by decide) rfl (fun ls hl => ?_)
    refine lv_iload_n hx hb dX1_hull_7 rfl (lv_at hl 3 rfl) ?_
    refine bc_SB (As := [.int (iI a)]) (rest := []) ⟨hx, hb, hml, hown, hts⟩ (c_X1_isAxis l g ad σ τ w a (by unfold iR; omega)) (va_cwS 1 hts gX1_hull_X1_isAxis rfl rfl rfl (by decide +kernel) ⟨Nat.le_of_ble_eq_true rfl, Nat.le_of_ble_eq_true rfl⟩) hK hU  rfl hl.1 rfl (Nat.le_of_ble_eq_true rfl) dX1_hull_8 ⟨Nat.zero_le _, Nat.zero_le _⟩ (fun h2 => ?_) (fun h2 => ?_)
    · refine li_if_eq (tgt := 27) hx hb (by unfold iR; omega) dX1_hull_11 (by decide) (fun h => absurd h (by decide)) (fun _ => ?_)
      refine lv_iload_n hx hb dX1_hull_14 rfl (lv_at hl 4 rfl) ?_
      refine li_iconst hx hb dX1_hull_15 ?_
      refine li_iconst hx hb dX1_hull_16 ?_
      refine bc_SB (As := [.int (iI z), .int (iI 0), .int (iI 1)]) (rest := []) ⟨hx, hb, hml, hown, hts⟩ (c_X1_isWithin l g ad σ τ w z 0 1 (by unfold iR; omega) (by unfold iR; omega) (by unfold iR; omega)) (va_cwS 3 hts gX1_hull_X1_isWithin rfl rfl rfl (by decide +kernel) ⟨Nat.le_of_ble_eq_true rfl, Nat.le_of_ble_eq_true rfl⟩) hK hU  rfl hl.1 rfl (Nat.le_of_ble_eq_true rfl) dX1_hull_17 ⟨Nat.zero_le _, Nat.zero_le _⟩ (fun h3 => ?_) (fun h3 => ?_)
      · refine li_if_eq (tgt := 27) hx hb (by unfold iR; omega) dX1_hull_20 (by decide) (fun h => absurd h (by decide)) (fun _ => ?_)
        refine li_iconst hx hb dX1_hull_23 ?_
        refine lv_goto (tgt := 28) hx hb dX1_hull_24 (by decide) ?_
        refine bc_SN (As := [.int (iI 1)]) (rest := []) ⟨hx, hb, hml, hown, hts⟩ (c_X1_need_t l g ad σ τ w) (va_cwS 1 hts gX1_hull_X1_need rfl rfl rfl (by decide +kernel) ⟨Nat.le_of_ble_eq_true rfl, Nat.le_of_ble_eq_true rfl⟩) hK hU rfl hl.1 rfl (Nat.le_of_ble_eq_true rfl) dX1_hull_28 ⟨Nat.zero_le _, Nat.zero_le _⟩ ?_
        exfalso
        omega
      · refine li_if_eq (tgt := 27) hx hb (by unfold iR; omega) dX1_hull_20 (by decide) (fun _ => ?_) (fun h => absurd (by decide) h)
        refine li_iconst hx hb dX1_hull_27 ?_
        exact bt_S (As := [.int (iI 0)]) (rest := []) ⟨hx, hb, hml, hown, hts⟩ (c_X1_need_f l hst g ad σ τ w sa) (va_cwS 1 hts gX1_hull_X1_need rfl rfl rfl (by decide +kernel) ⟨Nat.le_of_ble_eq_true rfl, Nat.le_of_ble_eq_true rfl⟩) hK hU hT bx_F.rf bx_Lc.nil rfl hl.1 rfl (Nat.le_of_ble_eq_true rfl) dX1_hull_28 ⟨Nat.le_of_ble_eq_true rfl, Nat.le_of_ble_eq_true rfl⟩ hout hlocks (Nat.le_of_ble_eq_true rfl) (Nat.le_of_ble_eq_true rfl)
    · refine li_if_eq (tgt := 27) hx hb (by unfold iR; omega) dX1_hull_11 (by decide) (fun _ => ?_) (fun h => absurd (by decide) h)
      refine li_iconst hx hb dX1_hull_27 ?_
      exact bt_S (As := [.int (iI 0)]) (rest := []) ⟨hx, hb, hml, hown, hts⟩ (c_X1_need_f l hst g ad σ τ w sa) (va_cwS 1 hts gX1_hull_X1_need rfl rfl rfl (by decide +kernel) ⟨Nat.le_of_ble_eq_true rfl, Nat.le_of_ble_eq_true rfl⟩) hK hU hT bx_F.rf bx_Lc.nil rfl hl.1 rfl (Nat.le_of_ble_eq_true rfl) dX1_hull_28 ⟨Nat.le_of_ble_eq_true rfl, Nat.le_of_ble_eq_true rfl⟩ hout hlocks (Nat.le_of_ble_eq_true rfl) (Nat.le_of_ble_eq_true rfl)
  · exact bt_V (As := [.int (iI p)]) (rest := []) (kd := 0) (k := 0) (ci := 1) ⟨hx, hb, hml, hown, hts⟩ (c_X1_partAt_f l hst g ad σ τ w sa p (by unfold iR; omega) hp1) (cwV 1 hts gX1_hull_X1_partAt rfl rfl rfl (by decide +kernel) ⟨Nat.le_of_ble_eq_true rfl, Nat.le_of_ble_eq_true rfl⟩) hK hU hT bx_F.rf bx_Lc.nil (bx_L0 (by omega)) rfl rfl rfl hl.1 rfl (Nat.le_of_ble_eq_true rfl) dX1_hull_2 ⟨Nat.le_of_ble_eq_true rfl, Nat.le_of_ble_eq_true rfl⟩ hout hlocks (Nat.le_of_ble_eq_true rfl) (Nat.le_of_ble_eq_true rfl)

set_option maxHeartbeats 4000000 in
set_option maxRecDepth 100000 in
theorem c_X1_common_t (l : Launch) (g : bxG) (ad : bxA) (σ τ : bxS) (w : bxW) (p q : Int) (hRp : iR p) (hRq : iR q) (hB : bx_B σ) (hg : (0 ≤ p ∧ p < 60 ∧ σ 2 p 0 ≠ 0) ∧ (0 ≤ q ∧ q < 60 ∧ σ 2 q 0 ≠ 0) ∧ p ≠ q) : Met l yX1_common wsX1_common ({ frames := 7, cells := 0, slots := 0, locals := 112 }) (va_Pc [.ref (ad 0 0), .int (iI p), .int (iI q)] (fun U => bx_I g ad σ τ w U)) (k2_QcV (.long (1 * ((iI (max 0 (min (hHi σ p 0) (hHi σ q 0) - max (hLo σ p 0) (hLo σ q 0)))).toInt64) * ((iI (max 0 (min (hHi σ p 1) (hHi σ q 1) - max (hLo σ p 1) (hLo σ q 1)))).toInt64) * ((iI (max 0 (min (hHi σ p 2) (hHi σ q 2) - max (hLo σ p 2) (hLo σ q 2)))).toInt64)))) 0 0 (fun _ => False) := by
  refine Met.ofW (cc := cX1_common) (maxL := 10) (ret := (some .long)) (by decide) rfl ?_
  intro Pg Ev s mI args below meth cd s₁ B hml hv
  obtain ⟨rfl, hU, hK⟩ := hv
  have hx := B.exec
  have hb := B.bytes
  have hr := B.returns
  have hts := atoms_spec (ws := wsX1_common) B.pre
  have hown : s.vm.findClass RX1 = some mI.cls := findClass_of_methodNamed B.named
  have hlocks := B.notSynchronized
  have hl := lv_entry ([.ref (ad 0 0), .int (iI p), .int (iI q)]) (n := 10) (Nat.le_of_ble_eq_true rfl)
  rw [lg_entry_eq]
  generalize (lg_sl ([.ref (ad 0 0), .int (iI p), .int (iI q)]) ++ List.replicate (10 - (lg_sl ([.ref (ad 0 0), .int (iI p), .int (iI q)])).length) Slot.unset).toArray = ls at hl ⊢
  have hl : lv_has ls 10 [(0, .ref (ad 0 0)), (1, .int (iI p)), (2, .int (iI q))] := hl
  have hRp0 : -2147483648 ≤ p ∧ p < 2147483648 := hRp
  have hRq0 : -2147483648 ≤ q ∧ q < 2147483648 := hRq
  refine lv_aload_n hx hb dX1_common_0 rfl (lv_at hl 0 rfl) ?_
  refine lv_iload_n hx hb dX1_common_1 rfl (lv_at hl 1 rfl) ?_
  by_cases hp1 : 0 ≤ p ∧ p < 60 ∧ σ 2 p 0 ≠ 0
  · refine bc_V (As := [.int (iI p)]) (rest := []) (kd := 0) (k := 0) (ci := 1) ⟨hx, hb, hml, hown, hts⟩ (c_X1_partAt_t l g ad σ τ w p hp1) (cwV 1 hts gX1_common_X1_partAt rfl rfl rfl (by decide +kernel) ⟨Nat.le_of_ble_eq_true rfl, Nat.le_of_ble_eq_true rfl⟩) hK hU (bx_L0 (by omega)) rfl rfl rfl hl.1 rfl (Nat.le_of_ble_eq_true rfl) dX1_common_2 ⟨Nat.zero_le _, Nat.zero_le _⟩ ?_
    refine lv_astore_n (lv' := [(3, .ref (ad 20 p)), (0, .ref (ad 0 0)), (1, .int (iI p)), (2, .int (iI q))]) hx hb dX1_common_5 rfl hl (by decide) rfl (fun ls hl => ?_)
    refine lv_aload_n hx hb dX1_common_6 rfl (lv_at hl 1 rfl) ?_
    refine lv_iload_n hx hb dX1_common_7 rfl (lv_at hl 3 rfl) ?_
    by_cases hp2 : 0 ≤ q ∧ q < 60 ∧ σ 2 q 0 ≠ 0
    · refine bc_V (As := [.int (iI q)]) (rest := []) (kd := 0) (k := 0) (ci := 1) ⟨hx, hb, hml, hown, hts⟩ (c_X1_partAt_t l g ad σ τ w q hp2) (cwV 1 hts gX1_common_X1_partAt rfl rfl rfl (by decide +kernel) ⟨Nat.le_of_ble_eq_true rfl, Nat.le_of_ble_eq_true rfl⟩) hK hU (bx_L0 (by omega)) rfl rfl rfl hl.1 rfl (Nat.le_of_ble_eq_true rfl) dX1_common_8 ⟨Nat.zero_le _, Nat.zero_le _⟩ ?_
      refine lv_astore (lv' := [(4, .ref (ad 20 q)), (3, .ref (ad 20 p)), (0, .ref (ad 0 0)), (1, .int (iI p)), (2, .int (iI q))]) hx hb dX1_common_11 hl (by decide) rfl (fun ls hl => ?_)
      refine lv_iload_n hx hb dX1_common_13 rfl (lv_at hl 3 rfl) ?_
      refine lv_iload_n hx hb dX1_common_14 rfl (lv_at hl 4 rfl) ?_
      refine li_icmp_eq (tgt := 22) hx hb (by unfold iR; omega) (by unfold iR; omega) dX1_common_15 (by decide) (fun h3 => ?_) (fun h3 => ?_)
      · refine li_iconst hx hb dX1_common_22 ?_
        exfalso
        omega
      · refine li_iconst hx hb dX1_common_18 ?_
        refine lv_goto (tgt := 23) hx hb dX1_common_19 (by decide) ?_
        refine bc_SN (As := [.int (iI 1)]) (rest := []) ⟨hx, hb, hml, hown, hts⟩ (c_X1_need_t l g ad σ τ w) (va_cwS 1 hts gX1_common_X1_need rfl rfl rfl (by decide +kernel) ⟨Nat.le_of_ble_eq_true rfl, Nat.le_of_ble_eq_true rfl⟩) hK hU rfl hl.1 rfl (Nat.le_of_ble_eq_true rfl) dX1_common_23 ⟨Nat.zero_le _, Nat.zero_le _⟩ ?_
        refine lv_lconst (v := 1) hx hb dX1_common_26 (by decide) ?_
        refine lv_lstore (lv' := [(5, .long 1), (4, .ref (ad 20 q)), (3, .ref (ad 20 p)), (0, .ref (ad 0 0)), (1, .int (iI p)), (2, .int (iI q))]) hx hb dX1_common_27 hl (by decide) rfl (fun ls hl => ?_)
        refine li_iconst hx hb dX1_common_29 ?_
        refine lv_istore (lv' := [(7, .int (iI 0)), (5, .long 1), (4, .ref (ad 20 q)), (3, .ref (ad 20 p)), (0, .ref (ad 0 0)), (1, .int (iI p)), (2, .int (iI q))]) hx hb dX1_common_30 hl (by decide) rfl (fun ls hl => ?_)
        refine lv_iload hx hb dX1_common_32 (lv_at hl 0 rfl) ?_
        refine li_iconst hx hb dX1_common_34 ?_
        refine li_icmp_ge (tgt := 95) hx hb (by unfold iR; omega) (by unfold iR; omega) dX1_common_35 (by decide) (fun h => absurd h (by decide)) (fun _ => ?_)
        refine lv_aload_n hx hb dX1_common_38 rfl (lv_at hl 3 rfl) ?_
        refine lv_iload hx hb dX1_common_39 (lv_at hl 0 rfl) ?_
        refine bc_V (As := [.int (iI 0)]) (rest := []) (kd := 20) (k := p) (ci := 0) ⟨hx, hb, hml, hown, hts⟩ (c_X0_hullLeast l g ad σ τ w p 0 hp1 hB (by omega)) (cwV 1 hts gX1_common_X0_hullLeast rfl rfl rfl (by decide +kernel) ⟨Nat.le_of_ble_eq_true rfl, Nat.le_of_ble_eq_true rfl⟩) hK hU (bx_Lp (by omega) (by omega) hp1) rfl rfl rfl hl.1 rfl (Nat.le_of_ble_eq_true rfl) dX1_common_41 ⟨Nat.zero_le _, Nat.zero_le _⟩ ?_
        have h4 := hLo_bd hB hp1 (a := 0) (by omega) (by omega)
        refine lv_aload hx hb dX1_common_44 (lv_at hl 2 rfl) ?_
        refine lv_iload hx hb dX1_common_46 (lv_at hl 0 rfl) ?_
        refine bc_V (As := [.int (iI 0)]) (rest := [.int (iI (hLo σ p 0))]) (kd := 20) (k := q) (ci := 0) ⟨hx, hb, hml, hown, hts⟩ (c_X0_hullLeast l g ad σ τ w q 0 hp2 hB (by omega)) (cwV 1 hts gX1_common_X0_hullLeast rfl rfl rfl (by decide +kernel) ⟨Nat.le_of_ble_eq_true rfl, Nat.le_of_ble_eq_true rfl⟩) hK hU (bx_Lp (by omega) (by omega) hp2) rfl rfl rfl hl.1 rfl (Nat.le_of_ble_eq_true rfl) dX1_common_48 ⟨Nat.zero_le _, Nat.zero_le _⟩ ?_
        have h5 := hLo_bd hB hp2 (a := 0) (by omega) (by omega)
        refine li_mmax hx hb (hml.trans hl.1.symm) hown (hts (.methodLink RX1 112 Lib.Math.max.name) (by decide +kernel)) (hts (.static Lib.Math.max.name) (by decide +kernel)) (hts (.initialized "java/lang/Math") (by decide +kernel)) (hts _ (by exact by decide +kernel)) (Nat.le_of_ble_eq_true rfl) (Nat.le_of_ble_eq_true rfl) (Nat.zero_le _) (Nat.zero_le _) (by unfold iR; omega) (by unfold iR; omega) dX1_common_51 ?_
        refine lv_istore (lv' := [(8, .int (iI (max (hLo σ p 0) (hLo σ q 0)))), (7, .int (iI 0)), (5, .long 1), (4, .ref (ad 20 q)), (3, .ref (ad 20 p)), (0, .ref (ad 0 0)), (1, .int (iI p)), (2, .int (iI q))]) hx hb dX1_common_54 hl (by decide) rfl (fun ls hl => ?_)
        refine lv_aload_n hx hb dX1_common_56 rfl (lv_at hl 4 rfl) ?_
        refine lv_iload hx hb dX1_common_57 (lv_at hl 1 rfl) ?_
        refine bc_V (As := [.int (iI 0)]) (rest := []) (kd := 20) (k := p) (ci := 0) ⟨hx, hb, hml, hown, hts⟩ (c_X0_hullGreatest l g ad σ τ w p 0 hp1 hB (by omega)) (cwV 1 hts gX1_common_X0_hullGreatest rfl rfl rfl (by decide +kernel) ⟨Nat.le_of_ble_eq_true rfl, Nat.le_of_ble_eq_true rfl⟩) hK hU (bx_Lp (by omega) (by omega) hp1) rfl rfl rfl hl.1 rfl (Nat.le_of_ble_eq_true rfl) dX1_common_59 ⟨Nat.zero_le _, Nat.zero_le _⟩ ?_
        have h6 := hHi_bd hB hp1 (a := 0) (by omega) (by omega)
        refine lv_aload hx hb dX1_common_62 (lv_at hl 3 rfl) ?_
        refine lv_iload hx hb dX1_common_64 (lv_at hl 1 rfl) ?_
        refine bc_V (As := [.int (iI 0)]) (rest := [.int (iI (hHi σ p 0))]) (kd := 20) (k := q) (ci := 0) ⟨hx, hb, hml, hown, hts⟩ (c_X0_hullGreatest l g ad σ τ w q 0 hp2 hB (by omega)) (cwV 1 hts gX1_common_X0_hullGreatest rfl rfl rfl (by decide +kernel) ⟨Nat.le_of_ble_eq_true rfl, Nat.le_of_ble_eq_true rfl⟩) hK hU (bx_Lp (by omega) (by omega) hp2) rfl rfl rfl hl.1 rfl (Nat.le_of_ble_eq_true rfl) dX1_common_66 ⟨Nat.zero_le _, Nat.zero_le _⟩ ?_
        have h7 := hHi_bd hB hp2 (a := 0) (by omega) (by omega)
        refine li_mmin hx hb (hml.trans hl.1.symm) hown (hts (.methodLink RX1 120 Lib.Math.min.name) (by decide +kernel)) (hts (.static Lib.Math.min.name) (by decide +kernel)) (hts (.initialized "java/lang/Math") (by decide +kernel)) (hts _ (by exact by decide +kernel)) (Nat.le_of_ble_eq_true rfl) (Nat.le_of_ble_eq_true rfl) (Nat.zero_le _) (Nat.zero_le _) (by unfold iR; omega) (by unfold iR; omega) dX1_common_69 ?_
        refine lv_istore (lv' := [(9, .int (iI (min (hHi σ p 0) (hHi σ q 0)))), (8, .int (iI (max (hLo σ p 0) (hLo σ q 0)))), (7, .int (iI 0)), (5, .long 1), (4, .ref (ad 20 q)), (3, .ref (ad 20 p)), (0, .ref (ad 0 0)), (1, .int (iI p)), (2, .int (iI q))]) hx hb dX1_common_72 hl (by decide) rfl (fun ls hl => ?_)
        refine lv_lload hx hb dX1_common_74 (lv_at hl 3 rfl) ?_
        refine li_iconst hx hb dX1_common_76 ?_
        refine lv_iload hx hb dX1_common_77 (lv_at hl 0 rfl) ?_
        refine lv_iload hx hb dX1_common_79 (lv_at hl 1 rfl) ?_
        refine li_isub hx hb dX1_common_81 ?_
        refine li_mmax hx hb (hml.trans hl.1.symm) hown (hts (.methodLink RX1 112 Lib.Math.max.name) (by decide +kernel)) (hts (.static Lib.Math.max.name) (by decide +kernel)) (hts (.initialized "java/lang/Math") (by decide +kernel)) (hts _ (by exact by decide +kernel)) (Nat.le_of_ble_eq_true rfl) (Nat.le_of_ble_eq_true rfl) (Nat.zero_le _) (Nat.zero_le _) (by unfold iR; omega) (by unfold iR; omega) dX1_common_82 ?_
        refine lv_i2l (v := (iI (max 0 ((min (hHi σ p 0) (hHi σ q 0)) - (max (hLo σ p 0) (hLo σ q 0))))).toInt64) hx hb dX1_common_85 rfl ?_
        refine lv_lmul hx hb dX1_common_86 ?_
        refine lv_lstore (lv' := [(5, .long (1 * ((iI (max 0 ((min (hHi σ p 0) (hHi σ q 0)) - (max (hLo σ p 0) (hLo σ q 0))))).toInt64))), (9, .int (iI (min (hHi σ p 0) (hHi σ q 0)))), (8, .int (iI (max (hLo σ p 0) (hLo σ q 0)))), (7, .int (iI 0)), (4, .ref (ad 20 q)), (3, .ref (ad 20 p)), (0, .ref (ad 0 0)), (1, .int (iI p)), (2, .int (iI q))]) hx hb dX1_common_87 hl (by decide) rfl (fun ls hl => ?_)
        refine li_iinc (k0 := 3) (lv' := [(7, .int (iI (0 + 1))), (5, .long (1 * ((iI (max 0 ((min (hHi σ p 0) (hHi σ q 0)) - (max (hLo σ p 0) (hLo σ q 0))))).toInt64))), (9, .int (iI (min (hHi σ p 0) (hHi σ q 0)))), (8, .int (iI (max (hLo σ p 0) (hLo σ q 0)))), (4, .ref (ad 20 q)), (3, .ref (ad 20 p)), (0, .ref (ad 0 0)), (1, .int (iI p)), (2, .int (iI q))]) hx hb dX1_common_89 hl rfl (by decide) rfl (fun ls hl => ?_)
        have hl : lv_has ls 10 [(7, .int (iI 1)), (5, .long (1 * ((iI (max 0 ((min (hHi σ p 0) (hHi σ q 0)) - (max (hLo σ p 0) (hLo σ q 0))))).toInt64))), (9, .int (iI (min (hHi σ p 0) (hHi σ q 0)))), (8, .int (iI (max (hLo σ p 0) (hLo σ q 0)))), (4, .ref (ad 20 q)), (3, .ref (ad 20 p)), (0, .ref (ad 0 0)), (1, .int (iI p)), (2, .int (iI q))] := hl
        refine lv_goto (tgt := 32) hx hb dX1_common_92 (by decide) ?_
        refine lv_iload hx hb dX1_common_32 (lv_at hl 0 rfl) ?_
        refine li_iconst hx hb dX1_common_34 ?_
        refine li_icmp_ge (tgt := 95) hx hb (by unfold iR; omega) (by unfold iR; omega) dX1_common_35 (by decide) (fun h => absurd h (by decide)) (fun _ => ?_)
        refine lv_aload_n hx hb dX1_common_38 rfl (lv_at hl 5 rfl) ?_
        refine lv_iload hx hb dX1_common_39 (lv_at hl 0 rfl) ?_
        refine bc_V (As := [.int (iI 1)]) (rest := []) (kd := 20) (k := p) (ci := 0) ⟨hx, hb, hml, hown, hts⟩ (c_X0_hullLeast l g ad σ τ w p 1 hp1 hB (by omega)) (cwV 1 hts gX1_common_X0_hullLeast rfl rfl rfl (by decide +kernel) ⟨Nat.le_of_ble_eq_true rfl, Nat.le_of_ble_eq_true rfl⟩) hK hU (bx_Lp (by omega) (by omega) hp1) rfl rfl rfl hl.1 rfl (Nat.le_of_ble_eq_true rfl) dX1_common_41 ⟨Nat.zero_le _, Nat.zero_le _⟩ ?_
        have h8 := hLo_bd hB hp1 (a := 1) (by omega) (by omega)
        refine lv_aload hx hb dX1_common_44 (lv_at hl 4 rfl) ?_
        refine lv_iload hx hb dX1_common_46 (lv_at hl 0 rfl) ?_
        refine bc_V (As := [.int (iI 1)]) (rest := [.int (iI (hLo σ p 1))]) (kd := 20) (k := q) (ci := 0) ⟨hx, hb, hml, hown, hts⟩ (c_X0_hullLeast l g ad σ τ w q 1 hp2 hB (by omega)) (cwV 1 hts gX1_common_X0_hullLeast rfl rfl rfl (by decide +kernel) ⟨Nat.le_of_ble_eq_true rfl, Nat.le_of_ble_eq_true rfl⟩) hK hU (bx_Lp (by omega) (by omega) hp2) rfl rfl rfl hl.1 rfl (Nat.le_of_ble_eq_true rfl) dX1_common_48 ⟨Nat.zero_le _, Nat.zero_le _⟩ ?_
        have h9 := hLo_bd hB hp2 (a := 1) (by omega) (by omega)
        refine li_mmax hx hb (hml.trans hl.1.symm) hown (hts (.methodLink RX1 112 Lib.Math.max.name) (by decide +kernel)) (hts (.static Lib.Math.max.name) (by decide +kernel)) (hts (.initialized "java/lang/Math") (by decide +kernel)) (hts _ (by exact by decide +kernel)) (Nat.le_of_ble_eq_true rfl) (Nat.le_of_ble_eq_true rfl) (Nat.zero_le _) (Nat.zero_le _) (by unfold iR; omega) (by unfold iR; omega) dX1_common_51 ?_
        refine lv_istore (lv' := [(8, .int (iI (max (hLo σ p 1) (hLo σ q 1)))), (7, .int (iI 1)), (5, .long (1 * ((iI (max 0 ((min (hHi σ p 0) (hHi σ q 0)) - (max (hLo σ p 0) (hLo σ q 0))))).toInt64))), (9, .int (iI (min (hHi σ p 0) (hHi σ q 0)))), (4, .ref (ad 20 q)), (3, .ref (ad 20 p)), (0, .ref (ad 0 0)), (1, .int (iI p)), (2, .int (iI q))]) hx hb dX1_common_54 hl (by decide) rfl (fun ls hl => ?_)
        refine lv_aload_n hx hb dX1_common_56 rfl (lv_at hl 5 rfl) ?_
        refine lv_iload hx hb dX1_common_57 (lv_at hl 1 rfl) ?_
        refine bc_V (As := [.int (iI 1)]) (rest := []) (kd := 20) (k := p) (ci := 0) ⟨hx, hb, hml, hown, hts⟩ (c_X0_hullGreatest l g ad σ τ w p 1 hp1 hB (by omega)) (cwV 1 hts gX1_common_X0_hullGreatest rfl rfl rfl (by decide +kernel) ⟨Nat.le_of_ble_eq_true rfl, Nat.le_of_ble_eq_true rfl⟩) hK hU (bx_Lp (by omega) (by omega) hp1) rfl rfl rfl hl.1 rfl (Nat.le_of_ble_eq_true rfl) dX1_common_59 ⟨Nat.zero_le _, Nat.zero_le _⟩ ?_
        have h10 := hHi_bd hB hp1 (a := 1) (by omega) (by omega)
        refine lv_aload hx hb dX1_common_62 (lv_at hl 4 rfl) ?_
        refine lv_iload hx hb dX1_common_64 (lv_at hl 1 rfl) ?_
        refine bc_V (As := [.int (iI 1)]) (rest := [.int (iI (hHi σ p 1))]) (kd := 20) (k := q) (ci := 0) ⟨hx, hb, hml, hown, hts⟩ (c_X0_hullGreatest l g ad σ τ w q 1 hp2 hB (by omega)) (cwV 1 hts gX1_common_X0_hullGreatest rfl rfl rfl (by decide +kernel) ⟨Nat.le_of_ble_eq_true rfl, Nat.le_of_ble_eq_true rfl⟩) hK hU (bx_Lp (by omega) (by omega) hp2) rfl rfl rfl hl.1 rfl (Nat.le_of_ble_eq_true rfl) dX1_common_66 ⟨Nat.zero_le _, Nat.zero_le _⟩ ?_
        have h11 := hHi_bd hB hp2 (a := 1) (by omega) (by omega)
        refine li_mmin hx hb (hml.trans hl.1.symm) hown (hts (.methodLink RX1 120 Lib.Math.min.name) (by decide +kernel)) (hts (.static Lib.Math.min.name) (by decide +kernel)) (hts (.initialized "java/lang/Math") (by decide +kernel)) (hts _ (by exact by decide +kernel)) (Nat.le_of_ble_eq_true rfl) (Nat.le_of_ble_eq_true rfl) (Nat.zero_le _) (Nat.zero_le _) (by unfold iR; omega) (by unfold iR; omega) dX1_common_69 ?_
        refine lv_istore (lv' := [(9, .int (iI (min (hHi σ p 1) (hHi σ q 1)))), (8, .int (iI (max (hLo σ p 1) (hLo σ q 1)))), (7, .int (iI 1)), (5, .long (1 * ((iI (max 0 ((min (hHi σ p 0) (hHi σ q 0)) - (max (hLo σ p 0) (hLo σ q 0))))).toInt64))), (4, .ref (ad 20 q)), (3, .ref (ad 20 p)), (0, .ref (ad 0 0)), (1, .int (iI p)), (2, .int (iI q))]) hx hb dX1_common_72 hl (by decide) rfl (fun ls hl => ?_)
        refine lv_lload hx hb dX1_common_74 (lv_at hl 3 rfl) ?_
        refine li_iconst hx hb dX1_common_76 ?_
        refine lv_iload hx hb dX1_common_77 (lv_at hl 0 rfl) ?_
        refine lv_iload hx hb dX1_common_79 (lv_at hl 1 rfl) ?_
        refine li_isub hx hb dX1_common_81 ?_
        refine li_mmax hx hb (hml.trans hl.1.symm) hown (hts (.methodLink RX1 112 Lib.Math.max.name) (by decide +kernel)) (hts (.static Lib.Math.max.name) (by decide +kernel)) (hts (.initialized "java/lang/Math") (by decide +kernel)) (hts _ (by exact by decide +kernel)) (Nat.le_of_ble_eq_true rfl) (Nat.le_of_ble_eq_true rfl) (Nat.zero_le _) (Nat.zero_le _) (by unfold iR; omega) (by unfold iR; omega) dX1_common_82 ?_
        refine lv_i2l (v := (iI (max 0 ((min (hHi σ p 1) (hHi σ q 1)) - (max (hLo σ p 1) (hLo σ q 1))))).toInt64) hx hb dX1_common_85 rfl ?_
        refine lv_lmul hx hb dX1_common_86 ?_
        refine lv_lstore (lv' := [(5, .long ((1 * ((iI (max 0 ((min (hHi σ p 0) (hHi σ q 0)) - (max (hLo σ p 0) (hLo σ q 0))))).toInt64)) * ((iI (max 0 ((min (hHi σ p 1) (hHi σ q 1)) - (max (hLo σ p 1) (hLo σ q 1))))).toInt64))), (9, .int (iI (min (hHi σ p 1) (hHi σ q 1)))), (8, .int (iI (max (hLo σ p 1) (hLo σ q 1)))), (7, .int (iI 1)), (4, .ref (ad 20 q)), (3, .ref (ad 20 p)), (0, .ref (ad 0 0)), (1, .int (iI p)), (2, .int (iI q))]) hx hb dX1_common_87 hl (by decide) rfl (fun ls hl => ?_)
        refine li_iinc (k0 := 3) (lv' := [(7, .int (iI (1 + 1))), (5, .long ((1 * ((iI (max 0 ((min (hHi σ p 0) (hHi σ q 0)) - (max (hLo σ p 0) (hLo σ q 0))))).toInt64)) * ((iI (max 0 ((min (hHi σ p 1) (hHi σ q 1)) - (max (hLo σ p 1) (hLo σ q 1))))).toInt64))), (9, .int (iI (min (hHi σ p 1) (hHi σ q 1)))), (8, .int (iI (max (hLo σ p 1) (hLo σ q 1)))), (4, .ref (ad 20 q)), (3, .ref (ad 20 p)), (0, .ref (ad 0 0)), (1, .int (iI p)), (2, .int (iI q))]) hx hb dX1_common_89 hl rfl (by decide) rfl (fun ls hl => ?_)
        have hl : lv_has ls 10 [(7, .int (iI 2)), (5, .long ((1 * ((iI (max 0 ((min (hHi σ p 0) (hHi σ q 0)) - (max (hLo σ p 0) (hLo σ q 0))))).toInt64)) * ((iI (max 0 ((min (hHi σ p 1) (hHi σ q 1)) - (max (hLo σ p 1) (hLo σ q 1))))).toInt64))), (9, .int (iI (min (hHi σ p 1) (hHi σ q 1)))), (8, .int (iI (max (hLo σ p 1) (hLo σ q 1)))), (4, .ref (ad 20 q)), (3, .ref (ad 20 p)), (0, .ref (ad 0 0)), (1, .int (iI p)), (2, .int (iI q))] := hl
        refine lv_goto (tgt := 32) hx hb dX1_common_92 (by decide) ?_
        refine lv_iload hx hb dX1_common_32 (lv_at hl 0 rfl) ?_
        refine li_iconst hx hb dX1_common_34 ?_
        refine li_icmp_ge (tgt := 95) hx hb (by unfold iR; omega) (by unfold iR; omega) dX1_common_35 (by decide) (fun h => absurd h (by decide)) (fun _ => ?_)
        refine lv_aload_n hx hb dX1_common_38 rfl (lv_at hl 5 rfl) ?_
        refine lv_iload hx hb dX1_common_39 (lv_at hl 0 rfl) ?_
        refine bc_V (As := [.int (iI 2)]) (rest := []) (kd := 20) (k := p) (ci := 0) ⟨hx, hb, hml, hown, hts⟩ (c_X0_hullLeast l g ad σ τ w p 2 hp1 hB (by omega)) (cwV 1 hts gX1_common_X0_hullLeast rfl rfl rfl (by decide +kernel) ⟨Nat.le_of_ble_eq_true rfl, Nat.le_of_ble_eq_true rfl⟩) hK hU (bx_Lp (by omega) (by omega) hp1) rfl rfl rfl hl.1 rfl (Nat.le_of_ble_eq_true rfl) dX1_common_41 ⟨Nat.zero_le _, Nat.zero_le _⟩ ?_
        have h12 := hLo_bd hB hp1 (a := 2) (by omega) (by omega)
        refine lv_aload hx hb dX1_common_44 (lv_at hl 4 rfl) ?_
        refine lv_iload hx hb dX1_common_46 (lv_at hl 0 rfl) ?_
        refine bc_V (As := [.int (iI 2)]) (rest := [.int (iI (hLo σ p 2))]) (kd := 20) (k := q) (ci := 0) ⟨hx, hb, hml, hown, hts⟩ (c_X0_hullLeast l g ad σ τ w q 2 hp2 hB (by omega)) (cwV 1 hts gX1_common_X0_hullLeast rfl rfl rfl (by decide +kernel) ⟨Nat.le_of_ble_eq_true rfl, Nat.le_of_ble_eq_true rfl⟩) hK hU (bx_Lp (by omega) (by omega) hp2) rfl rfl rfl hl.1 rfl (Nat.le_of_ble_eq_true rfl) dX1_common_48 ⟨Nat.zero_le _, Nat.zero_le _⟩ ?_
        have h13 := hLo_bd hB hp2 (a := 2) (by omega) (by omega)
        refine li_mmax hx hb (hml.trans hl.1.symm) hown (hts (.methodLink RX1 112 Lib.Math.max.name) (by decide +kernel)) (hts (.static Lib.Math.max.name) (by decide +kernel)) (hts (.initialized "java/lang/Math") (by decide +kernel)) (hts _ (by exact by decide +kernel)) (Nat.le_of_ble_eq_true rfl) (Nat.le_of_ble_eq_true rfl) (Nat.zero_le _) (Nat.zero_le _) (by unfold iR; omega) (by unfold iR; omega) dX1_common_51 ?_
        refine lv_istore (lv' := [(8, .int (iI (max (hLo σ p 2) (hLo σ q 2)))), (7, .int (iI 2)), (5, .long ((1 * ((iI (max 0 ((min (hHi σ p 0) (hHi σ q 0)) - (max (hLo σ p 0) (hLo σ q 0))))).toInt64)) * ((iI (max 0 ((min (hHi σ p 1) (hHi σ q 1)) - (max (hLo σ p 1) (hLo σ q 1))))).toInt64))), (9, .int (iI (min (hHi σ p 1) (hHi σ q 1)))), (4, .ref (ad 20 q)), (3, .ref (ad 20 p)), (0, .ref (ad 0 0)), (1, .int (iI p)), (2, .int (iI q))]) hx hb dX1_common_54 hl (by decide) rfl (fun ls hl => ?_)
        refine lv_aload_n hx hb dX1_common_56 rfl (lv_at hl 5 rfl) ?_
        refine lv_iload hx hb dX1_common_57 (lv_at hl 1 rfl) ?_
        refine bc_V (As := [.int (iI 2)]) (rest := []) (kd := 20) (k := p) (ci := 0) ⟨hx, hb, hml, hown, hts⟩ (c_X0_hullGreatest l g ad σ τ w p 2 hp1 hB (by omega)) (cwV 1 hts gX1_common_X0_hullGreatest rfl rfl rfl (by decide +kernel) ⟨Nat.le_of_ble_eq_true rfl, Nat.le_of_ble_eq_true rfl⟩) hK hU (bx_Lp (by omega) (by omega) hp1) rfl rfl rfl hl.1 rfl (Nat.le_of_ble_eq_true rfl) dX1_common_59 ⟨Nat.zero_le _, Nat.zero_le _⟩ ?_
        have h14 := hHi_bd hB hp1 (a := 2) (by omega) (by omega)
        refine lv_aload hx hb dX1_common_62 (lv_at hl 4 rfl) ?_
        refine lv_iload hx hb dX1_common_64 (lv_at hl 1 rfl) ?_
        refine bc_V (As := [.int (iI 2)]) (rest := [.int (iI (hHi σ p 2))]) (kd := 20) (k := q) (ci := 0) ⟨hx, hb, hml, hown, hts⟩ (c_X0_hullGreatest l g ad σ τ w q 2 hp2 hB (by omega)) (cwV 1 hts gX1_common_X0_hullGreatest rfl rfl rfl (by decide +kernel) ⟨Nat.le_of_ble_eq_true rfl, Nat.le_of_ble_eq_true rfl⟩) hK hU (bx_Lp (by omega) (by omega) hp2) rfl rfl rfl hl.1 rfl (Nat.le_of_ble_eq_true rfl) dX1_common_66 ⟨Nat.zero_le _, Nat.zero_le _⟩ ?_
        have h15 := hHi_bd hB hp2 (a := 2) (by omega) (by omega)
        refine li_mmin hx hb (hml.trans hl.1.symm) hown (hts (.methodLink RX1 120 Lib.Math.min.name) (by decide +kernel)) (hts (.static Lib.Math.min.name) (by decide +kernel)) (hts (.initialized "java/lang/Math") (by decide +kernel)) (hts _ (by exact by decide +kernel)) (Nat.le_of_ble_eq_true rfl) (Nat.le_of_ble_eq_true rfl) (Nat.zero_le _) (Nat.zero_le _) (by unfold iR; omega) (by unfold iR; omega) dX1_common_69 ?_
        refine lv_istore (lv' := [(9, .int (iI (min (hHi σ p 2) (hHi σ q 2)))), (8, .int (iI (max (hLo σ p 2) (hLo σ q 2)))), (7, .int (iI 2)), (5, .long ((1 * ((iI (max 0 ((min (hHi σ p 0) (hHi σ q 0)) - (max (hLo σ p 0) (hLo σ q 0))))).toInt64)) * ((iI (max 0 ((min (hHi σ p 1) (hHi σ q 1)) - (max (hLo σ p 1) (hLo σ q 1))))).toInt64))), (4, .ref (ad 20 q)), (3, .ref (ad 20 p)), (0, .ref (ad 0 0)), (1, .int (iI p)), (2, .int (iI q))]) hx hb dX1_common_72 hl (by decide) rfl (fun ls hl => ?_)
        refine lv_lload hx hb dX1_common_74 (lv_at hl 3 rfl) ?_
        refine li_iconst hx hb dX1_common_76 ?_
        refine lv_iload hx hb dX1_common_77 (lv_at hl 0 rfl) ?_
        refine lv_iload hx hb dX1_common_79 (lv_at hl 1 rfl) ?_
        refine li_isub hx hb dX1_common_81 ?_
        refine li_mmax hx hb (hml.trans hl.1.symm) hown (hts (.methodLink RX1 112 Lib.Math.max.name) (by decide +kernel)) (hts (.static Lib.Math.max.name) (by decide +kernel)) (hts (.initialized "java/lang/Math") (by decide +kernel)) (hts _ (by exact by decide +kernel)) (Nat.le_of_ble_eq_true rfl) (Nat.le_of_ble_eq_true rfl) (Nat.zero_le _) (Nat.zero_le _) (by unfold iR; omega) (by unfold iR; omega) dX1_common_82 ?_
        refine lv_i2l (v := (iI (max 0 ((min (hHi σ p 2) (hHi σ q 2)) - (max (hLo σ p 2) (hLo σ q 2))))).toInt64) hx hb dX1_common_85 rfl ?_
        refine lv_lmul hx hb dX1_common_86 ?_
        refine lv_lstore (lv' := [(5, .long (((1 * ((iI (max 0 ((min (hHi σ p 0) (hHi σ q 0)) - (max (hLo σ p 0) (hLo σ q 0))))).toInt64)) * ((iI (max 0 ((min (hHi σ p 1) (hHi σ q 1)) - (max (hLo σ p 1) (hLo σ q 1))))).toInt64)) * ((iI (max 0 ((min (hHi σ p 2) (hHi σ q 2)) - (max (hLo σ p 2) (hLo σ q 2))))).toInt64))), (9, .int (iI (min (hHi σ p 2) (hHi σ q 2)))), (8, .int (iI (max (hLo σ p 2) (hLo σ q 2)))), (7, .int (iI 2)), (4, .ref (ad 20 q)), (3, .ref (ad 20 p)), (0, .ref (ad 0 0)), (1, .int (iI p)), (2, .int (iI q))]) hx hb dX1_common_87 hl (by decide) rfl (fun ls hl => ?_)
        refine li_iinc (k0 := 3) (lv' := [(7, .int (iI (2 + 1))), (5, .long (((1 * ((iI (max 0 ((min (hHi σ p 0) (hHi σ q 0)) - (max (hLo σ p 0) (hLo σ q 0))))).toInt64)) * ((iI (max 0 ((min (hHi σ p 1) (hHi σ q 1)) - (max (hLo σ p 1) (hLo σ q 1))))).toInt64)) * ((iI (max 0 ((min (hHi σ p 2) (hHi σ q 2)) - (max (hLo σ p 2) (hLo σ q 2))))).toInt64))), (9, .int (iI (min (hHi σ p 2) (hHi σ q 2)))), (8, .int (iI (max (hLo σ p 2) (hLo σ q 2)))), (4, .ref (ad 20 q)), (3, .ref (ad 20 p)), (0, .ref (ad 0 0)), (1, .int (iI p)), (2, .int (iI q))]) hx hb dX1_common_89 hl rfl (by decide) rfl (fun ls hl => ?_)
        have hl : lv_has ls 10 [(7, .int (iI 3)), (5, .long (((1 * ((iI (max 0 ((min (hHi σ p 0) (hHi σ q 0)) - (max (hLo σ p 0) (hLo σ q 0))))).toInt64)) * ((iI (max 0 ((min (hHi σ p 1) (hHi σ q 1)) - (max (hLo σ p 1) (hLo σ q 1))))).toInt64)) * ((iI (max 0 ((min (hHi σ p 2) (hHi σ q 2)) - (max (hLo σ p 2) (hLo σ q 2))))).toInt64))), (9, .int (iI (min (hHi σ p 2) (hHi σ q 2)))), (8, .int (iI (max (hLo σ p 2) (hLo σ q 2)))), (4, .ref (ad 20 q)), (3, .ref (ad 20 p)), (0, .ref (ad 0 0)), (1, .int (iI p)), (2, .int (iI q))] := hl
        refine lv_goto (tgt := 32) hx hb dX1_common_92 (by decide) ?_
        refine lv_iload hx hb dX1_common_32 (lv_at hl 0 rfl) ?_
        refine li_iconst hx hb dX1_common_34 ?_
        refine li_icmp_ge (tgt := 95) hx hb (by unfold iR; omega) (by unfold iR; omega) dX1_common_35 (by decide) (fun _ => ?_) (fun h => absurd (by decide) h)
        refine lv_lload hx hb dX1_common_95 (lv_at hl 1 rfl) ?_
        refine be_l hx hb hr hlocks ?_ dX1_common_97
        rfl
    · exfalso
      omega
  · exfalso
    omega

set_option maxHeartbeats 4000000 in
set_option maxRecDepth 100000 in
theorem c_X1_common_f (l : Launch) (hst : l.stackTraces = false) (g : bxG) (ad : bxA) (σ τ : bxS) (w : bxW) (sa : Nat → Nat) (p q : Int) (hRp : iR p) (hRq : iR q) (hB : bx_B σ) (hg : ¬ ((0 ≤ p ∧ p < 60 ∧ σ 2 p 0 ≠ 0) ∧ (0 ≤ q ∧ q < 60 ∧ σ 2 q 0 ≠ 0) ∧ p ≠ q)) : vx_Met l yX1_common wsX1_common ({ frames := 7, cells := 1, slots := 6, locals := 112 }) (va_Pc [.ref (ad 0 0), .int (iI p), .int (iI q)] (fun U => bt_I g ad σ τ w sa U)) bq_no (bq_X g ad σ τ w (fun E => E = bt_iae)) 1 6 (bq_fr g) := by
  refine vx_ofW (cc := cX1_common) (maxL := 10) (ret := (some .long)) (by decide) rfl ?_
  intro Pg Ev s mI args below meth cd s₁ B hml hout hv
  obtain ⟨rfl, ⟨hU, hK⟩, hT⟩ := hv
  have hx := B.exec
  have hb := B.bytes
  have hr := B.returns
  have hts := atoms_spec (ws := wsX1_common) B.pre
  have hown : s.vm.findClass RX1 = some mI.cls := findClass_of_methodNamed B.named
  have hlocks := B.notSynchronized
  have hl := lv_entry ([.ref (ad 0 0), .int (iI p), .int (iI q)]) (n := 10) (Nat.le_of_ble_eq_true rfl)
  rw [lg_entry_eq]
  generalize (lg_sl ([.ref (ad 0 0), .int (iI p), .int (iI q)]) ++ List.replicate (10 - (lg_sl ([.ref (ad 0 0), .int (iI p), .int (iI q)])).length) Slot.unset).toArray = ls at hl ⊢
  have hl : lv_has ls 10 [(0, .ref (ad 0 0)), (1, .int (iI p)), (2, .int (iI q))] := hl
  have hRp0 : -2147483648 ≤ p ∧ p < 2147483648 := hRp
  have hRq0 : -2147483648 ≤ q ∧ q < 2147483648 := hRq
  refine lv_aload_n hx hb dX1_common_0 rfl (lv_at hl 0 rfl) ?_
  refine lv_iload_n hx hb dX1_common_1 rfl (lv_at hl 1 rfl) ?_
  by_cases hp1 : 0 ≤ p ∧ p < 60 ∧ σ 2 p 0 ≠ 0
  · refine bc_V (As := [.int (iI p)]) (rest := []) (kd := 0) (k := 0) (ci := 1) ⟨hx, hb, hml, hown, hts⟩ (c_X1_partAt_t l g ad σ τ w p hp1) (cwV 1 hts gX1_common_X1_partAt rfl rfl rfl (by decide +kernel) ⟨Nat.le_of_ble_eq_true rfl, Nat.le_of_ble_eq_true rfl⟩) hK hU (bx_L0 (by omega)) rfl rfl rfl hl.1 rfl (Nat.le_of_ble_eq_true rfl) dX1_common_2 ⟨Nat.zero_le _, Nat.zero_le _⟩ ?_
    refine lv_astore_n (lv' := [(3, .ref (ad 20 p)), (0, .ref (ad 0 0)), (1, .int (iI p)), (2, .int (iI q))]) hx hb dX1_common_5 rfl hl (by decide) rfl (fun ls hl => ?_)
    refine lv_aload_n hx hb dX1_common_6 rfl (lv_at hl 1 rfl) ?_
    refine lv_iload_n hx hb dX1_common_7 rfl (lv_at hl 3 rfl) ?_
    by_cases hp2 : 0 ≤ q ∧ q < 60 ∧ σ 2 q 0 ≠ 0
    · refine bc_V (As := [.int (iI q)]) (rest := []) (kd := 0) (k := 0) (ci := 1) ⟨hx, hb, hml, hown, hts⟩ (c_X1_partAt_t l g ad σ τ w q hp2) (cwV 1 hts gX1_common_X1_partAt rfl rfl rfl (by decide +kernel) ⟨Nat.le_of_ble_eq_true rfl, Nat.le_of_ble_eq_true rfl⟩) hK hU (bx_L0 (by omega)) rfl rfl rfl hl.1 rfl (Nat.le_of_ble_eq_true rfl) dX1_common_8 ⟨Nat.zero_le _, Nat.zero_le _⟩ ?_
      refine lv_astore (lv' := [(4, .ref (ad 20 q)), (3, .ref (ad 20 p)), (0, .ref (ad 0 0)), (1, .int (iI p)), (2, .int (iI q))]) hx hb dX1_common_11 hl (by decide) rfl (fun ls hl => ?_)
      refine lv_iload_n hx hb dX1_common_13 rfl (lv_at hl 3 rfl) ?_
      refine lv_iload_n hx hb dX1_common_14 rfl (lv_at hl 4 rfl) ?_
      refine li_icmp_eq (tgt := 22) hx hb (by unfold iR; omega) (by unfold iR; omega) dX1_common_15 (by decide) (fun h3 => ?_) (fun h3 => ?_)
      · refine li_iconst hx hb dX1_common_22 ?_
        exact bt_S (As := [.int (iI 0)]) (rest := []) ⟨hx, hb, hml, hown, hts⟩ (c_X1_need_f l hst g ad σ τ w sa) (va_cwS 1 hts gX1_common_X1_need rfl rfl rfl (by decide +kernel) ⟨Nat.le_of_ble_eq_true rfl, Nat.le_of_ble_eq_true rfl⟩) hK hU hT bx_F.rf bx_Lc.nil rfl hl.1 rfl (Nat.le_of_ble_eq_true rfl) dX1_common_23 ⟨Nat.le_of_ble_eq_true rfl, Nat.le_of_ble_eq_true rfl⟩ hout hlocks (Nat.le_of_ble_eq_true rfl) (Nat.le_of_ble_eq_true rfl)
      · refine li_iconst hx hb dX1_common_18 ?_
        refine lv_goto (tgt := 23) hx hb dX1_common_19 (by decide) ?_
        refine bc_SN (As := [.int (iI 1)]) (rest := []) ⟨hx, hb, hml, hown, hts⟩ (c_X1_need_t l g ad σ τ w) (va_cwS 1 hts gX1_common_X1_need rfl rfl rfl (by decide +kernel) ⟨Nat.le_of_ble_eq_true rfl, Nat.le_of_ble_eq_true rfl⟩) hK hU rfl hl.1 rfl (Nat.le_of_ble_eq_true rfl) dX1_common_23 ⟨Nat.zero_le _, Nat.zero_le _⟩ ?_
        exfalso
        omega
    · exact bt_V (As := [.int (iI q)]) (rest := []) (kd := 0) (k := 0) (ci := 1) ⟨hx, hb, hml, hown, hts⟩ (c_X1_partAt_f l hst g ad σ τ w sa q (by unfold iR; omega) hp2) (cwV 1 hts gX1_common_X1_partAt rfl rfl rfl (by decide +kernel) ⟨Nat.le_of_ble_eq_true rfl, Nat.le_of_ble_eq_true rfl⟩) hK hU hT bx_F.rf bx_Lc.nil (bx_L0 (by omega)) rfl rfl rfl hl.1 rfl (Nat.le_of_ble_eq_true rfl) dX1_common_8 ⟨Nat.le_of_ble_eq_true rfl, Nat.le_of_ble_eq_true rfl⟩ hout hlocks (Nat.le_of_ble_eq_true rfl) (Nat.le_of_ble_eq_true rfl)
  · exact bt_V (As := [.int (iI p)]) (rest := []) (kd := 0) (k := 0) (ci := 1) ⟨hx, hb, hml, hown, hts⟩ (c_X1_partAt_f l hst g ad σ τ w sa p (by unfold iR; omega) hp1) (cwV 1 hts gX1_common_X1_partAt rfl rfl rfl (by decide +kernel) ⟨Nat.le_of_ble_eq_true rfl, Nat.le_of_ble_eq_true rfl⟩) hK hU hT bx_F.rf bx_Lc.nil (bx_L0 (by omega)) rfl rfl rfl hl.1 rfl (Nat.le_of_ble_eq_true rfl) dX1_common_2 ⟨Nat.le_of_ble_eq_true rfl, Nat.le_of_ble_eq_true rfl⟩ hout hlocks (Nat.le_of_ble_eq_true rfl) (Nat.le_of_ble_eq_true rfl)
