set_option maxHeartbeats 4000000 in
set_option maxRecDepth 100000 in
theorem c_X1_isWithin (l : Launch) (g : bxG) (ad : bxA) (σ τ : bxS) (w : bxW) (a lo hi : Int) (hRa : iR a) (hRlo : iR lo) (hRhi : iR hi) : Met l yX1_isWithin wsX1_isWithin ({ frames := 0, cells := 0, slots := 0, locals := 0 }) (va_Pc [.int (iI a), .int (iI lo), .int (iI hi)] (fun U => bx_I g ad σ τ w U)) (k2_QcV (.int (iI (zB (lo ≤ a ∧ a ≤ hi))))) 0 0 (fun _ => False) := by
  refine Met.ofW (cc := cX1_isWithin) (maxL := 3) (ret := (some .boolean)) (by decide) rfl ?_
  intro Pg Ev s mI args below meth cd s₁ B hml hv
  obtain ⟨rfl, hU, hK⟩ := hv
  have hx := B.exec
  have hb := B.bytes
  have hr := B.returns
  have hts := atoms_spec (ws := wsX1_isWithin) B.pre
  have hown : s.vm.findClass RX1 = some mI.cls := findClass_of_methodNamed B.named
  have hlocks := B.notSynchronized
  have hl := lv_entry ([.int (iI a), .int (iI lo), .int (iI hi)]) (n := 3) (Nat.le_of_ble_eq_true rfl)
  rw [lg_entry_eq]
  generalize (lg_sl ([.int (iI a), .int (iI lo), .int (iI hi)]) ++ List.replicate (3 - (lg_sl ([.int (iI a), .int (iI lo), .int (iI hi)])).length) Slot.unset).toArray = ls at hl ⊢
  have hl : lv_has ls 3 [(0, .int (iI a)), (1, .int (iI lo)), (2, .int (iI hi))] := hl
  have hRa0 : -2147483648 ≤ a ∧ a < 2147483648 := hRa
  have hRlo0 : -2147483648 ≤ lo ∧ lo < 2147483648 := hRlo
  have hRhi0 : -2147483648 ≤ hi ∧ hi < 2147483648 := hRhi
  refine lv_iload_n hx hb dX1_isWithin_0 rfl (lv_at hl 0 rfl) ?_
  refine lv_iload_n hx hb dX1_isWithin_1 rfl (lv_at hl 1 rfl) ?_
  refine li_icmp_lt (tgt := 14) hx hb (by unfold iR; omega) (by unfold iR; omega) dX1_isWithin_2 (by decide) (fun h1 => ?_) (fun h1 => ?_)
  · refine li_iconst hx hb dX1_isWithin_14 ?_
    refine be_f hx hb hr hlocks ?_ dX1_isWithin_15
    omega
  · refine lv_iload_n hx hb dX1_isWithin_5 rfl (lv_at hl 0 rfl) ?_
    refine lv_iload_n hx hb dX1_isWithin_6 rfl (lv_at hl 2 rfl) ?_
    refine li_icmp_gt (tgt := 14) hx hb (by unfold iR; omega) (by unfold iR; omega) dX1_isWithin_7 (by decide) (fun h2 => ?_) (fun h2 => ?_)
    · refine li_iconst hx hb dX1_isWithin_14 ?_
      refine be_f hx hb hr hlocks ?_ dX1_isWithin_15
      omega
    · refine li_iconst hx hb dX1_isWithin_10 ?_
      refine lv_goto (tgt := 15) hx hb dX1_isWithin_11 (by decide) ?_
      refine be_t hx hb hr hlocks ?_ dX1_isWithin_15
      omega

set_option maxHeartbeats 4000000 in
set_option maxRecDepth 100000 in
theorem c_X2_isIn (l : Launch) (g : bxG) (ad : bxA) (σ τ : bxS) (w : bxW) (a lo hi : Int) (hRa : iR a) (hRlo : iR lo) (hRhi : iR hi) : Met l yX2_isIn wsX2_isIn ({ frames := 0, cells := 0, slots := 0, locals := 0 }) (va_Pc [.int (iI a), .int (iI lo), .int (iI hi)] (fun U => bx_I g ad σ τ w U)) (k2_QcV (.int (iI (zB (lo ≤ a ∧ a ≤ hi))))) 0 0 (fun _ => False) := by
  refine Met.ofW (cc := cX2_isIn) (maxL := 3) (ret := (some .boolean)) (by decide) rfl ?_
  intro Pg Ev s mI args below meth cd s₁ B hml hv
  obtain ⟨rfl, hU, hK⟩ := hv
  have hx := B.exec
  have hb := B.bytes
  have hr := B.returns
  have hts := atoms_spec (ws := wsX2_isIn) B.pre
  have hown : s.vm.findClass RX2 = some mI.cls := findClass_of_methodNamed B.named
  have hlocks := B.notSynchronized
  have hl := lv_entry ([.int (iI a), .int (iI lo), .int (iI hi)]) (n := 3) (Nat.le_of_ble_eq_true rfl)
  rw [lg_entry_eq]
  generalize (lg_sl ([.int (iI a), .int (iI lo), .int (iI hi)]) ++ List.replicate (3 - (lg_sl ([.int (iI a), .int (iI lo), .int (iI hi)])).length) Slot.unset).toArray = ls at hl ⊢
  have hl : lv_has ls 3 [(0, .int (iI a)), (1, .int (iI lo)), (2, .int (iI hi))] := hl
  have hRa0 : -2147483648 ≤ a ∧ a < 2147483648 := hRa
  have hRlo0 : -2147483648 ≤ lo ∧ lo < 2147483648 := hRlo
  have hRhi0 : -2147483648 ≤ hi ∧ hi < 2147483648 := hRhi
  refine lv_iload_n hx hb dX2_isIn_0 rfl (lv_at hl 0 rfl) ?_
  refine lv_iload_n hx hb dX2_isIn_1 rfl (lv_at hl 1 rfl) ?_
  refine li_icmp_lt (tgt := 14) hx hb (by unfold iR; omega) (by unfold iR; omega) dX2_isIn_2 (by decide) (fun h1 => ?_) (fun h1 => ?_)
  · refine li_iconst hx hb dX2_isIn_14 ?_
    refine be_f hx hb hr hlocks ?_ dX2_isIn_15
    omega
  · refine lv_iload_n hx hb dX2_isIn_5 rfl (lv_at hl 0 rfl) ?_
    refine lv_iload_n hx hb dX2_isIn_6 rfl (lv_at hl 2 rfl) ?_
    refine li_icmp_gt (tgt := 14) hx hb (by unfold iR; omega) (by unfold iR; omega) dX2_isIn_7 (by decide) (fun h2 => ?_) (fun h2 => ?_)
    · refine li_iconst hx hb dX2_isIn_14 ?_
      refine be_f hx hb hr hlocks ?_ dX2_isIn_15
      omega
    · refine li_iconst hx hb dX2_isIn_10 ?_
      refine lv_goto (tgt := 15) hx hb dX2_isIn_11 (by decide) ?_
      refine be_t hx hb hr hlocks ?_ dX2_isIn_15
      omega

set_option maxHeartbeats 4000000 in
set_option maxRecDepth 100000 in
theorem c_X1_isKind (l : Launch) (g : bxG) (ad : bxA) (σ τ : bxS) (w : bxW) (a : Int) (hRa : iR a) : Met l yX1_isKind wsX1_isKind ({ frames := 1, cells := 0, slots := 0, locals := 22 }) (va_Pc [.int (iI a)] (fun U => bx_I g ad σ τ w U)) (k2_QcV (.int (iI (zB (0 ≤ a ∧ a ≤ 7))))) 0 0 (fun _ => False) := by
  refine Met.ofW (cc := cX1_isKind) (maxL := 1) (ret := (some .boolean)) (by decide) rfl ?_
  intro Pg Ev s mI args below meth cd s₁ B hml hv
  obtain ⟨rfl, hU, hK⟩ := hv
  have hx := B.exec
  have hb := B.bytes
  have hr := B.returns
  have hts := atoms_spec (ws := wsX1_isKind) B.pre
  have hown : s.vm.findClass RX1 = some mI.cls := findClass_of_methodNamed B.named
  have hlocks := B.notSynchronized
  have hl := lv_entry ([.int (iI a)]) (n := 1) (Nat.le_of_ble_eq_true rfl)
  rw [lg_entry_eq]
  generalize (lg_sl ([.int (iI a)]) ++ List.replicate (1 - (lg_sl ([.int (iI a)])).length) Slot.unset).toArray = ls at hl ⊢
  have hl : lv_has ls 1 [(0, .int (iI a))] := hl
  have hRa0 : -2147483648 ≤ a ∧ a < 2147483648 := hRa
  refine lv_iload_n hx hb dX1_isKind_0 rfl (lv_at hl 0 rfl) ?_
  refine li_iconst hx hb dX1_isKind_1 ?_
  refine li_bipush hx hb dX1_isKind_2 (by decide) ?_
  refine bc_SB (As := [.int (iI a), .int (iI 0), .int (iI 7)]) (rest := []) ⟨hx, hb, hml, hown, hts⟩ (c_X1_isWithin l g ad σ τ w a 0 7 (by unfold iR; omega) (by unfold iR; omega) (by unfold iR; omega)) (va_cwS 3 hts gX1_isKind_X1_isWithin rfl rfl rfl (by decide +kernel) ⟨Nat.le_of_ble_eq_true rfl, Nat.le_of_ble_eq_true rfl⟩) hK hU  rfl hl.1 rfl (Nat.le_of_ble_eq_true rfl) dX1_isKind_4 ⟨Nat.zero_le _, Nat.zero_le _⟩ (fun h1 => ?_) (fun h1 => ?_)
  · refine be_t hx hb hr hlocks ?_ dX1_isKind_7
    omega
  · refine be_f hx hb hr hlocks ?_ dX1_isKind_7
    omega

set_option maxHeartbeats 4000000 in
set_option maxRecDepth 100000 in
theorem c_X2_isKind (l : Launch) (g : bxG) (ad : bxA) (σ τ : bxS) (w : bxW) (a : Int) (hRa : iR a) : Met l yX2_isKind wsX2_isKind ({ frames := 1, cells := 0, slots := 0, locals := 22 }) (va_Pc [.int (iI a)] (fun U => bx_I g ad σ τ w U)) (k2_QcV (.int (iI (zB (0 ≤ a ∧ a ≤ 7))))) 0 0 (fun _ => False) := by
  refine Met.ofW (cc := cX2_isKind) (maxL := 1) (ret := (some .boolean)) (by decide) rfl ?_
  intro Pg Ev s mI args below meth cd s₁ B hml hv
  obtain ⟨rfl, hU, hK⟩ := hv
  have hx := B.exec
  have hb := B.bytes
  have hr := B.returns
  have hts := atoms_spec (ws := wsX2_isKind) B.pre
  have hown : s.vm.findClass RX2 = some mI.cls := findClass_of_methodNamed B.named
  have hlocks := B.notSynchronized
  have hl := lv_entry ([.int (iI a)]) (n := 1) (Nat.le_of_ble_eq_true rfl)
  rw [lg_entry_eq]
  generalize (lg_sl ([.int (iI a)]) ++ List.replicate (1 - (lg_sl ([.int (iI a)])).length) Slot.unset).toArray = ls at hl ⊢
  have hl : lv_has ls 1 [(0, .int (iI a))] := hl
  have hRa0 : -2147483648 ≤ a ∧ a < 2147483648 := hRa
  refine lv_iload_n hx hb dX2_isKind_0 rfl (lv_at hl 0 rfl) ?_
  refine li_iconst hx hb dX2_isKind_1 ?_
  refine li_bipush hx hb dX2_isKind_2 (by decide) ?_
  refine bc_SB (As := [.int (iI a), .int (iI 0), .int (iI 7)]) (rest := []) ⟨hx, hb, hml, hown, hts⟩ (c_X2_isIn l g ad σ τ w a 0 7 (by unfold iR; omega) (by unfold iR; omega) (by unfold iR; omega)) (va_cwS 3 hts gX2_isKind_X2_isIn rfl rfl rfl (by decide +kernel) ⟨Nat.le_of_ble_eq_true rfl, Nat.le_of_ble_eq_true rfl⟩) hK hU  rfl hl.1 rfl (Nat.le_of_ble_eq_true rfl) dX2_isKind_4 ⟨Nat.zero_le _, Nat.zero_le _⟩ (fun h1 => ?_) (fun h1 => ?_)
  · refine be_t hx hb hr hlocks ?_ dX2_isKind_7
    omega
  · refine be_f hx hb hr hlocks ?_ dX2_isKind_7
    omega

set_option maxHeartbeats 4000000 in
set_option maxRecDepth 100000 in
theorem c_X1_isAxis (l : Launch) (g : bxG) (ad : bxA) (σ τ : bxS) (w : bxW) (a : Int) (hRa : iR a) : Met l yX1_isAxis wsX1_isAxis ({ frames := 1, cells := 0, slots := 0, locals := 22 }) (va_Pc [.int (iI a)] (fun U => bx_I g ad σ τ w U)) (k2_QcV (.int (iI (zB (0 ≤ a ∧ a ≤ 2))))) 0 0 (fun _ => False) := by
  refine Met.ofW (cc := cX1_isAxis) (maxL := 1) (ret := (some .boolean)) (by decide) rfl ?_
  intro Pg Ev s mI args below meth cd s₁ B hml hv
  obtain ⟨rfl, hU, hK⟩ := hv
  have hx := B.exec
  have hb := B.bytes
  have hr := B.returns
  have hts := atoms_spec (ws := wsX1_isAxis) B.pre
  have hown : s.vm.findClass RX1 = some mI.cls := findClass_of_methodNamed B.named
  have hlocks := B.notSynchronized
  have hl := lv_entry ([.int (iI a)]) (n := 1) (Nat.le_of_ble_eq_true rfl)
  rw [lg_entry_eq]
  generalize (lg_sl ([.int (iI a)]) ++ List.replicate (1 - (lg_sl ([.int (iI a)])).length) Slot.unset).toArray = ls at hl ⊢
  have hl : lv_has ls 1 [(0, .int (iI a))] := hl
  have hRa0 : -2147483648 ≤ a ∧ a < 2147483648 := hRa
  refine lv_iload_n hx hb dX1_isAxis_0 rfl (lv_at hl 0 rfl) ?_
  refine li_iconst hx hb dX1_isAxis_1 ?_
  refine li_iconst hx hb dX1_isAxis_2 ?_
  refine bc_SB (As := [.int (iI a), .int (iI 0), .int (iI 2)]) (rest := []) ⟨hx, hb, hml, hown, hts⟩ (c_X1_isWithin l g ad σ τ w a 0 2 (by unfold iR; omega) (by unfold iR; omega) (by unfold iR; omega)) (va_cwS 3 hts gX1_isAxis_X1_isWithin rfl rfl rfl (by decide +kernel) ⟨Nat.le_of_ble_eq_true rfl, Nat.le_of_ble_eq_true rfl⟩) hK hU  rfl hl.1 rfl (Nat.le_of_ble_eq_true rfl) dX1_isAxis_3 ⟨Nat.zero_le _, Nat.zero_le _⟩ (fun h1 => ?_) (fun h1 => ?_)
  · refine be_t hx hb hr hlocks ?_ dX1_isAxis_6
    omega
  · refine be_f hx hb hr hlocks ?_ dX1_isAxis_6
    omega

set_option maxHeartbeats 4000000 in
set_option maxRecDepth 100000 in
theorem c_X2_isAxis (l : Launch) (g : bxG) (ad : bxA) (σ τ : bxS) (w : bxW) (a : Int) (hRa : iR a) : Met l yX2_isAxis wsX2_isAxis ({ frames := 1, cells := 0, slots := 0, locals := 22 }) (va_Pc [.int (iI a)] (fun U => bx_I g ad σ τ w U)) (k2_QcV (.int (iI (zB (0 ≤ a ∧ a ≤ 2))))) 0 0 (fun _ => False) := by
  refine Met.ofW (cc := cX2_isAxis) (maxL := 1) (ret := (some .boolean)) (by decide) rfl ?_
  intro Pg Ev s mI args below meth cd s₁ B hml hv
  obtain ⟨rfl, hU, hK⟩ := hv
  have hx := B.exec
  have hb := B.bytes
  have hr := B.returns
  have hts := atoms_spec (ws := wsX2_isAxis) B.pre
  have hown : s.vm.findClass RX2 = some mI.cls := findClass_of_methodNamed B.named
  have hlocks := B.notSynchronized
  have hl := lv_entry ([.int (iI a)]) (n := 1) (Nat.le_of_ble_eq_true rfl)
  rw [lg_entry_eq]
  generalize (lg_sl ([.int (iI a)]) ++ List.replicate (1 - (lg_sl ([.int (iI a)])).length) Slot.unset).toArray = ls at hl ⊢
  have hl : lv_has ls 1 [(0, .int (iI a))] := hl
  have hRa0 : -2147483648 ≤ a ∧ a < 2147483648 := hRa
  refine lv_iload_n hx hb dX2_isAxis_0 rfl (lv_at hl 0 rfl) ?_
  refine li_iconst hx hb dX2_isAxis_1 ?_
  refine li_iconst hx hb dX2_isAxis_2 ?_
  refine bc_SB (As := [.int (iI a), .int (iI 0), .int (iI 2)]) (rest := []) ⟨hx, hb, hml, hown, hts⟩ (c_X2_isIn l g ad σ τ w a 0 2 (by unfold iR; omega) (by unfold iR; omega) (by unfold iR; omega)) (va_cwS 3 hts gX2_isAxis_X2_isIn rfl rfl rfl (by decide +kernel) ⟨Nat.le_of_ble_eq_true rfl, Nat.le_of_ble_eq_true rfl⟩) hK hU  rfl hl.1 rfl (Nat.le_of_ble_eq_true rfl) dX2_isAxis_3 ⟨Nat.zero_le _, Nat.zero_le _⟩ (fun h1 => ?_) (fun h1 => ?_)
  · refine be_t hx hb hr hlocks ?_ dX2_isAxis_6
    omega
  · refine be_f hx hb hr hlocks ?_ dX2_isAxis_6
    omega

set_option maxHeartbeats 4000000 in
set_option maxRecDepth 100000 in
theorem c_X1_isSpan (l : Launch) (g : bxG) (ad : bxA) (σ τ : bxS) (w : bxW) (a n : Int) (hRa : iR a) (hRn : iR n) : Met l yX1_isSpan wsX1_isSpan ({ frames := 1, cells := 0, slots := 0, locals := 22 }) (va_Pc [.int (iI a), .int (iI n)] (fun U => bx_I g ad σ τ w U)) (k2_QcV (.int (iI (zB (0 ≤ a ∧ a ≤ 1000 ∧ 1 ≤ n ∧ n ≤ 1000 ∧ a + n ≤ 1000))))) 0 0 (fun _ => False) := by
  refine Met.ofW (cc := cX1_isSpan) (maxL := 2) (ret := (some .boolean)) (by decide) rfl ?_
  intro Pg Ev s mI args below meth cd s₁ B hml hv
  obtain ⟨rfl, hU, hK⟩ := hv
  have hx := B.exec
  have hb := B.bytes
  have hr := B.returns
  have hts := atoms_spec (ws := wsX1_isSpan) B.pre
  have hown : s.vm.findClass RX1 = some mI.cls := findClass_of_methodNamed B.named
  have hlocks := B.notSynchronized
  have hl := lv_entry ([.int (iI a), .int (iI n)]) (n := 2) (Nat.le_of_ble_eq_true rfl)
  rw [lg_entry_eq]
  generalize (lg_sl ([.int (iI a), .int (iI n)]) ++ List.replicate (2 - (lg_sl ([.int (iI a), .int (iI n)])).length) Slot.unset).toArray = ls at hl ⊢
  have hl : lv_has ls 2 [(0, .int (iI a)), (1, .int (iI n))] := hl
  have hRa0 : -2147483648 ≤ a ∧ a < 2147483648 := hRa
  have hRn0 : -2147483648 ≤ n ∧ n < 2147483648 := hRn
  refine lv_iload_n hx hb dX1_isSpan_0 rfl (lv_at hl 0 rfl) ?_
  refine li_iconst hx hb dX1_isSpan_1 ?_
  refine li_sipush hx hb dX1_isSpan_2 (by decide) ?_
  refine bc_SB (As := [.int (iI a), .int (iI 0), .int (iI 1000)]) (rest := []) ⟨hx, hb, hml, hown, hts⟩ (c_X1_isWithin l g ad σ τ w a 0 1000 (by unfold iR; omega) (by unfold iR; omega) (by unfold iR; omega)) (va_cwS 3 hts gX1_isSpan_X1_isWithin rfl rfl rfl (by decide +kernel) ⟨Nat.le_of_ble_eq_true rfl, Nat.le_of_ble_eq_true rfl⟩) hK hU  rfl hl.1 rfl (Nat.le_of_ble_eq_true rfl) dX1_isSpan_5 ⟨Nat.zero_le _, Nat.zero_le _⟩ (fun h1 => ?_) (fun h1 => ?_)
  · refine li_if_eq (tgt := 35) hx hb (by unfold iR; omega) dX1_isSpan_8 (by decide) (fun h => absurd h (by decide)) (fun _ => ?_)
    refine lv_iload_n hx hb dX1_isSpan_11 rfl (lv_at hl 1 rfl) ?_
    refine li_iconst hx hb dX1_isSpan_12 ?_
    refine li_sipush hx hb dX1_isSpan_13 (by decide) ?_
    refine bc_SB (As := [.int (iI n), .int (iI 1), .int (iI 1000)]) (rest := []) ⟨hx, hb, hml, hown, hts⟩ (c_X1_isWithin l g ad σ τ w n 1 1000 (by unfold iR; omega) (by unfold iR; omega) (by unfold iR; omega)) (va_cwS 3 hts gX1_isSpan_X1_isWithin rfl rfl rfl (by decide +kernel) ⟨Nat.le_of_ble_eq_true rfl, Nat.le_of_ble_eq_true rfl⟩) hK hU  rfl hl.1 rfl (Nat.le_of_ble_eq_true rfl) dX1_isSpan_16 ⟨Nat.zero_le _, Nat.zero_le _⟩ (fun h2 => ?_) (fun h2 => ?_)
    · refine li_if_eq (tgt := 35) hx hb (by unfold iR; omega) dX1_isSpan_19 (by decide) (fun h => absurd h (by decide)) (fun _ => ?_)
      refine lv_iload_n hx hb dX1_isSpan_22 rfl (lv_at hl 0 rfl) ?_
      refine lv_iload_n hx hb dX1_isSpan_23 rfl (lv_at hl 1 rfl) ?_
      refine li_iadd hx hb dX1_isSpan_24 ?_
      refine li_sipush hx hb dX1_isSpan_25 (by decide) ?_
      refine li_icmp_gt (tgt := 35) hx hb (by unfold iR; omega) (by unfold iR; omega) dX1_isSpan_28 (by decide) (fun h3 => ?_) (fun h3 => ?_)
      · refine li_iconst hx hb dX1_isSpan_35 ?_
        refine be_f hx hb hr hlocks ?_ dX1_isSpan_36
        omega
      · refine li_iconst hx hb dX1_isSpan_31 ?_
        refine lv_goto (tgt := 36) hx hb dX1_isSpan_32 (by decide) ?_
        refine be_t hx hb hr hlocks ?_ dX1_isSpan_36
        omega
    · refine li_if_eq (tgt := 35) hx hb (by unfold iR; omega) dX1_isSpan_19 (by decide) (fun _ => ?_) (fun h => absurd (by decide) h)
      refine li_iconst hx hb dX1_isSpan_35 ?_
      refine be_f hx hb hr hlocks ?_ dX1_isSpan_36
      omega
  · refine li_if_eq (tgt := 35) hx hb (by unfold iR; omega) dX1_isSpan_8 (by decide) (fun _ => ?_) (fun h => absurd (by decide) h)
    refine li_iconst hx hb dX1_isSpan_35 ?_
    refine be_f hx hb hr hlocks ?_ dX1_isSpan_36
    omega

set_option maxHeartbeats 4000000 in
set_option maxRecDepth 100000 in
theorem c_X2_isSpan (l : Launch) (g : bxG) (ad : bxA) (σ τ : bxS) (w : bxW) (a n : Int) (hRa : iR a) (hRn : iR n) : Met l yX2_isSpan wsX2_isSpan ({ frames := 1, cells := 0, slots := 0, locals := 22 }) (va_Pc [.int (iI a), .int (iI n)] (fun U => bx_I g ad σ τ w U)) (k2_QcV (.int (iI (zB (0 ≤ a ∧ a ≤ 1000 ∧ 1 ≤ n ∧ n ≤ 1000 ∧ a + n ≤ 1000))))) 0 0 (fun _ => False) := by
  refine Met.ofW (cc := cX2_isSpan) (maxL := 2) (ret := (some .boolean)) (by decide) rfl ?_
  intro Pg Ev s mI args below meth cd s₁ B hml hv
  obtain ⟨rfl, hU, hK⟩ := hv
  have hx := B.exec
  have hb := B.bytes
  have hr := B.returns
  have hts := atoms_spec (ws := wsX2_isSpan) B.pre
  have hown : s.vm.findClass RX2 = some mI.cls := findClass_of_methodNamed B.named
  have hlocks := B.notSynchronized
  have hl := lv_entry ([.int (iI a), .int (iI n)]) (n := 2) (Nat.le_of_ble_eq_true rfl)
  rw [lg_entry_eq]
  generalize (lg_sl ([.int (iI a), .int (iI n)]) ++ List.replicate (2 - (lg_sl ([.int (iI a), .int (iI n)])).length) Slot.unset).toArray = ls at hl ⊢
  have hl : lv_has ls 2 [(0, .int (iI a)), (1, .int (iI n))] := hl
  have hRa0 : -2147483648 ≤ a ∧ a < 2147483648 := hRa
  have hRn0 : -2147483648 ≤ n ∧ n < 2147483648 := hRn
  refine lv_iload_n hx hb dX2_isSpan_0 rfl (lv_at hl 0 rfl) ?_
  refine li_iconst hx hb dX2_isSpan_1 ?_
  refine li_sipush hx hb dX2_isSpan_2 (by decide) ?_
  refine bc_SB (As := [.int (iI a), .int (iI 0), .int (iI 1000)]) (rest := []) ⟨hx, hb, hml, hown, hts⟩ (c_X2_isIn l g ad σ τ w a 0 1000 (by unfold iR; omega) (by unfold iR; omega) (by unfold iR; omega)) (va_cwS 3 hts gX2_isSpan_X2_isIn rfl rfl rfl (by decide +kernel) ⟨Nat.le_of_ble_eq_true rfl, Nat.le_of_ble_eq_true rfl⟩) hK hU  rfl hl.1 rfl (Nat.le_of_ble_eq_true rfl) dX2_isSpan_5 ⟨Nat.zero_le _, Nat.zero_le _⟩ (fun h1 => ?_) (fun h1 => ?_)
  · refine li_if_eq (tgt := 35) hx hb (by unfold iR; omega) dX2_isSpan_8 (by decide) (fun h => absurd h (by decide)) (fun _ => ?_)
    refine lv_iload_n hx hb dX2_isSpan_11 rfl (lv_at hl 1 rfl) ?_
    refine li_iconst hx hb dX2_isSpan_12 ?_
    refine li_sipush hx hb dX2_isSpan_13 (by decide) ?_
    refine bc_SB (As := [.int (iI n), .int (iI 1), .int (iI 1000)]) (rest := []) ⟨hx, hb, hml, hown, hts⟩ (c_X2_isIn l g ad σ τ w n 1 1000 (by unfold iR; omega) (by unfold iR; omega) (by unfold iR; omega)) (va_cwS 3 hts gX2_isSpan_X2_isIn rfl rfl rfl (by decide +kernel) ⟨Nat.le_of_ble_eq_true rfl, Nat.le_of_ble_eq_true rfl⟩) hK hU  rfl hl.1 rfl (Nat.le_of_ble_eq_true rfl) dX2_isSpan_16 ⟨Nat.zero_le _, Nat.zero_le _⟩ (fun h2 => ?_) (fun h2 => ?_)
    · refine li_if_eq (tgt := 35) hx hb (by unfold iR; omega) dX2_isSpan_19 (by decide) (fun h => absurd h (by decide)) (fun _ => ?_)
      refine lv_iload_n hx hb dX2_isSpan_22 rfl (lv_at hl 0 rfl) ?_
      refine lv_iload_n hx hb dX2_isSpan_23 rfl (lv_at hl 1 rfl) ?_
      refine li_iadd hx hb dX2_isSpan_24 ?_
      refine li_sipush hx hb dX2_isSpan_25 (by decide) ?_
      refine li_icmp_gt (tgt := 35) hx hb (by unfold iR; omega) (by unfold iR; omega) dX2_isSpan_28 (by decide) (fun h3 => ?_) (fun h3 => ?_)
      · refine li_iconst hx hb dX2_isSpan_35 ?_
        refine be_f hx hb hr hlocks ?_ dX2_isSpan_36
        omega
      · refine li_iconst hx hb dX2_isSpan_31 ?_
        refine lv_goto (tgt := 36) hx hb dX2_isSpan_32 (by decide) ?_
        refine be_t hx hb hr hlocks ?_ dX2_isSpan_36
        omega
    · refine li_if_eq (tgt := 35) hx hb (by unfold iR; omega) dX2_isSpan_19 (by decide) (fun _ => ?_) (fun h => absurd (by decide) h)
      refine li_iconst hx hb dX2_isSpan_35 ?_
      refine be_f hx hb hr hlocks ?_ dX2_isSpan_36
      omega
  · refine li_if_eq (tgt := 35) hx hb (by unfold iR; omega) dX2_isSpan_8 (by decide) (fun _ => ?_) (fun h => absurd (by decide) h)
    refine li_iconst hx hb dX2_isSpan_35 ?_
    refine be_f hx hb hr hlocks ?_ dX2_isSpan_36
    omega

set_option maxHeartbeats 4000000 in
set_option maxRecDepth 100000 in
theorem c_X1_isSeen (l : Launch) (g : bxG) (ad : bxA) (σ τ : bxS) (w : bxW) (a n : Int) (hRa : iR a) (hRn : iR n) : Met l yX1_isSeen wsX1_isSeen ({ frames := 1, cells := 0, slots := 0, locals := 22 }) (va_Pc [.int (iI a), .int (iI n)] (fun U => bx_I g ad σ τ w U)) (k2_QcV (.int (iI (zB (-2000 ≤ a ∧ a ≤ 2000 ∧ -2000 ≤ n ∧ n ≤ 2000 ∧ a < n))))) 0 0 (fun _ => False) := by
  refine Met.ofW (cc := cX1_isSeen) (maxL := 2) (ret := (some .boolean)) (by decide) rfl ?_
  intro Pg Ev s mI args below meth cd s₁ B hml hv
  obtain ⟨rfl, hU, hK⟩ := hv
  have hx := B.exec
  have hb := B.bytes
  have hr := B.returns
  have hts := atoms_spec (ws := wsX1_isSeen) B.pre
  have hown : s.vm.findClass RX1 = some mI.cls := findClass_of_methodNamed B.named
  have hlocks := B.notSynchronized
  have hl := lv_entry ([.int (iI a), .int (iI n)]) (n := 2) (Nat.le_of_ble_eq_true rfl)
  rw [lg_entry_eq]
  generalize (lg_sl ([.int (iI a), .int (iI n)]) ++ List.replicate (2 - (lg_sl ([.int (iI a), .int (iI n)])).length) Slot.unset).toArray = ls at hl ⊢
  have hl : lv_has ls 2 [(0, .int (iI a)), (1, .int (iI n))] := hl
  have hRa0 : -2147483648 ≤ a ∧ a < 2147483648 := hRa
  have hRn0 : -2147483648 ≤ n ∧ n < 2147483648 := hRn
  refine lv_iload_n hx hb dX1_isSeen_0 rfl (lv_at hl 0 rfl) ?_
  refine li_sipush hx hb dX1_isSeen_1 (by decide) ?_
  refine li_sipush hx hb dX1_isSeen_4 (by decide) ?_
  refine bc_SB (As := [.int (iI a), .int (iI (-2000)), .int (iI 2000)]) (rest := []) ⟨hx, hb, hml, hown, hts⟩ (c_X1_isWithin l g ad σ τ w a (-2000) 2000 (by unfold iR; omega) (by unfold iR; omega) (by unfold iR; omega)) (va_cwS 3 hts gX1_isSeen_X1_isWithin rfl rfl rfl (by decide +kernel) ⟨Nat.le_of_ble_eq_true rfl, Nat.le_of_ble_eq_true rfl⟩) hK hU  rfl hl.1 rfl (Nat.le_of_ble_eq_true rfl) dX1_isSeen_7 ⟨Nat.zero_le _, Nat.zero_le _⟩ (fun h1 => ?_) (fun h1 => ?_)
  · refine li_if_eq (tgt := 35) hx hb (by unfold iR; omega) dX1_isSeen_10 (by decide) (fun h => absurd h (by decide)) (fun _ => ?_)
    refine lv_iload_n hx hb dX1_isSeen_13 rfl (lv_at hl 1 rfl) ?_
    refine li_sipush hx hb dX1_isSeen_14 (by decide) ?_
    refine li_sipush hx hb dX1_isSeen_17 (by decide) ?_
    refine bc_SB (As := [.int (iI n), .int (iI (-2000)), .int (iI 2000)]) (rest := []) ⟨hx, hb, hml, hown, hts⟩ (c_X1_isWithin l g ad σ τ w n (-2000) 2000 (by unfold iR; omega) (by unfold iR; omega) (by unfold iR; omega)) (va_cwS 3 hts gX1_isSeen_X1_isWithin rfl rfl rfl (by decide +kernel) ⟨Nat.le_of_ble_eq_true rfl, Nat.le_of_ble_eq_true rfl⟩) hK hU  rfl hl.1 rfl (Nat.le_of_ble_eq_true rfl) dX1_isSeen_20 ⟨Nat.zero_le _, Nat.zero_le _⟩ (fun h2 => ?_) (fun h2 => ?_)
    · refine li_if_eq (tgt := 35) hx hb (by unfold iR; omega) dX1_isSeen_23 (by decide) (fun h => absurd h (by decide)) (fun _ => ?_)
      refine lv_iload_n hx hb dX1_isSeen_26 rfl (lv_at hl 0 rfl) ?_
      refine lv_iload_n hx hb dX1_isSeen_27 rfl (lv_at hl 1 rfl) ?_
      refine li_icmp_ge (tgt := 35) hx hb (by unfold iR; omega) (by unfold iR; omega) dX1_isSeen_28 (by decide) (fun h3 => ?_) (fun h3 => ?_)
      · refine li_iconst hx hb dX1_isSeen_35 ?_
        refine be_f hx hb hr hlocks ?_ dX1_isSeen_36
        omega
      · refine li_iconst hx hb dX1_isSeen_31 ?_
        refine lv_goto (tgt := 36) hx hb dX1_isSeen_32 (by decide) ?_
        refine be_t hx hb hr hlocks ?_ dX1_isSeen_36
        omega
    · refine li_if_eq (tgt := 35) hx hb (by unfold iR; omega) dX1_isSeen_23 (by decide) (fun _ => ?_) (fun h => absurd (by decide) h)
      refine li_iconst hx hb dX1_isSeen_35 ?_
      refine be_f hx hb hr hlocks ?_ dX1_isSeen_36
      omega
  · refine li_if_eq (tgt := 35) hx hb (by unfold iR; omega) dX1_isSeen_10 (by decide) (fun _ => ?_) (fun h => absurd (by decide) h)
    refine li_iconst hx hb dX1_isSeen_35 ?_
    refine be_f hx hb hr hlocks ?_ dX1_isSeen_36
    omega

set_option maxHeartbeats 4000000 in
set_option maxRecDepth 100000 in
theorem c_X2_isEnds (l : Launch) (g : bxG) (ad : bxA) (σ τ : bxS) (w : bxW) (a n : Int) (hRa : iR a) (hRn : iR n) : Met l yX2_isEnds wsX2_isEnds ({ frames := 1, cells := 0, slots := 0, locals := 22 }) (va_Pc [.int (iI a), .int (iI n)] (fun U => bx_I g ad σ τ w U)) (k2_QcV (.int (iI (zB (-2000 ≤ a ∧ a ≤ 2000 ∧ -2000 ≤ n ∧ n ≤ 2000 ∧ a < n))))) 0 0 (fun _ => False) := by
  refine Met.ofW (cc := cX2_isEnds) (maxL := 2) (ret := (some .boolean)) (by decide) rfl ?_
  intro Pg Ev s mI args below meth cd s₁ B hml hv
  obtain ⟨rfl, hU, hK⟩ := hv
  have hx := B.exec
  have hb := B.bytes
  have hr := B.returns
  have hts := atoms_spec (ws := wsX2_isEnds) B.pre
  have hown : s.vm.findClass RX2 = some mI.cls := findClass_of_methodNamed B.named
  have hlocks := B.notSynchronized
  have hl := lv_entry ([.int (iI a), .int (iI n)]) (n := 2) (Nat.le_of_ble_eq_true rfl)
  rw [lg_entry_eq]
  generalize (lg_sl ([.int (iI a), .int (iI n)]) ++ List.replicate (2 - (lg_sl ([.int (iI a), .int (iI n)])).length) Slot.unset).toArray = ls at hl ⊢
  have hl : lv_has ls 2 [(0, .int (iI a)), (1, .int (iI n))] := hl
  have hRa0 : -2147483648 ≤ a ∧ a < 2147483648 := hRa
  have hRn0 : -2147483648 ≤ n ∧ n < 2147483648 := hRn
  refine lv_iload_n hx hb dX2_isEnds_0 rfl (lv_at hl 0 rfl) ?_
  refine li_sipush hx hb dX2_isEnds_1 (by decide) ?_
  refine li_sipush hx hb dX2_isEnds_4 (by decide) ?_
  refine bc_SB (As := [.int (iI a), .int (iI (-2000)), .int (iI 2000)]) (rest := []) ⟨hx, hb, hml, hown, hts⟩ (c_X2_isIn l g ad σ τ w a (-2000) 2000 (by unfold iR; omega) (by unfold iR; omega) (by unfold iR; omega)) (va_cwS 3 hts gX2_isEnds_X2_isIn rfl rfl rfl (by decide +kernel) ⟨Nat.le_of_ble_eq_true rfl, Nat.le_of_ble_eq_true rfl⟩) hK hU  rfl hl.1 rfl (Nat.le_of_ble_eq_true rfl) dX2_isEnds_7 ⟨Nat.zero_le _, Nat.zero_le _⟩ (fun h1 => ?_) (fun h1 => ?_)
  · refine li_if_eq (tgt := 35) hx hb (by unfold iR; omega) dX2_isEnds_10 (by decide) (fun h => absurd h (by decide)) (fun _ => ?_)
    refine lv_iload_n hx hb dX2_isEnds_13 rfl (lv_at hl 1 rfl) ?_
    refine li_sipush hx hb dX2_isEnds_14 (by decide) ?_
    refine li_sipush hx hb dX2_isEnds_17 (by decide) ?_
    refine bc_SB (As := [.int (iI n), .int (iI (-2000)), .int (iI 2000)]) (rest := []) ⟨hx, hb, hml, hown, hts⟩ (c_X2_isIn l g ad σ τ w n (-2000) 2000 (by unfold iR; omega) (by unfold iR; omega) (by unfold iR; omega)) (va_cwS 3 hts gX2_isEnds_X2_isIn rfl rfl rfl (by decide +kernel) ⟨Nat.le_of_ble_eq_true rfl, Nat.le_of_ble_eq_true rfl⟩) hK hU  rfl hl.1 rfl (Nat.le_of_ble_eq_true rfl) dX2_isEnds_20 ⟨Nat.zero_le _, Nat.zero_le _⟩ (fun h2 => ?_) (fun h2 => ?_)
    · refine li_if_eq (tgt := 35) hx hb (by unfold iR; omega) dX2_isEnds_23 (by decide) (fun h => absurd h (by decide)) (fun _ => ?_)
      refine lv_iload_n hx hb dX2_isEnds_26 rfl (lv_at hl 1 rfl) ?_
      refine lv_iload_n hx hb dX2_isEnds_27 rfl (lv_at hl 0 rfl) ?_
      refine li_icmp_le (tgt := 35) hx hb (by unfold iR; omega) (by unfold iR; omega) dX2_isEnds_28 (by decide) (fun h3 => ?_) (fun h3 => ?_)
      · refine li_iconst hx hb dX2_isEnds_35 ?_
        refine be_f hx hb hr hlocks ?_ dX2_isEnds_36
        omega
      · refine li_iconst hx hb dX2_isEnds_31 ?_
        refine lv_goto (tgt := 36) hx hb dX2_isEnds_32 (by decide) ?_
        refine be_t hx hb hr hlocks ?_ dX2_isEnds_36
        omega
    · refine li_if_eq (tgt := 35) hx hb (by unfold iR; omega) dX2_isEnds_23 (by decide) (fun _ => ?_) (fun h => absurd (by decide) h)
      refine li_iconst hx hb dX2_isEnds_35 ?_
      refine be_f hx hb hr hlocks ?_ dX2_isEnds_36
      omega
  · refine li_if_eq (tgt := 35) hx hb (by unfold iR; omega) dX2_isEnds_10 (by decide) (fun _ => ?_) (fun h => absurd (by decide) h)
    refine li_iconst hx hb dX2_isEnds_35 ?_
    refine be_f hx hb hr hlocks ?_ dX2_isEnds_36
    omega

set_option maxHeartbeats 4000000 in
set_option maxRecDepth 100000 in
theorem c_X1_thirdAxis (l : Launch) (g : bxG) (ad : bxA) (σ τ : bxS) (w : bxW) (a b : Int) (hRa : iR a) (hRb : iR b) : Met l yX1_thirdAxis wsX1_thirdAxis ({ frames := 0, cells := 0, slots := 0, locals := 0 }) (va_Pc [.int (iI a), .int (iI b)] (fun U => bx_I g ad σ τ w U)) (k2_QcV (.int (iI (3 - a - b)))) 0 0 (fun _ => False) := by
  refine Met.ofW (cc := cX1_thirdAxis) (maxL := 2) (ret := (some .int)) (by decide) rfl ?_
  intro Pg Ev s mI args below meth cd s₁ B hml hv
  obtain ⟨rfl, hU, hK⟩ := hv
  have hx := B.exec
  have hb := B.bytes
  have hr := B.returns
  have hts := atoms_spec (ws := wsX1_thirdAxis) B.pre
  have hown : s.vm.findClass RX1 = some mI.cls := findClass_of_methodNamed B.named
  have hlocks := B.notSynchronized
  have hl := lv_entry ([.int (iI a), .int (iI b)]) (n := 2) (Nat.le_of_ble_eq_true rfl)
  rw [lg_entry_eq]
  generalize (lg_sl ([.int (iI a), .int (iI b)]) ++ List.replicate (2 - (lg_sl ([.int (iI a), .int (iI b)])).length) Slot.unset).toArray = ls at hl ⊢
  have hl : lv_has ls 2 [(0, .int (iI a)), (1, .int (iI b))] := hl
  have hRa0 : -2147483648 ≤ a ∧ a < 2147483648 := hRa
  have hRb0 : -2147483648 ≤ b ∧ b < 2147483648 := hRb
  refine li_iconst hx hb dX1_thirdAxis_0 ?_
  refine lv_iload_n hx hb dX1_thirdAxis_1 rfl (lv_at hl 0 rfl) ?_
  refine li_isub hx hb dX1_thirdAxis_2 ?_
  refine lv_iload_n hx hb dX1_thirdAxis_3 rfl (lv_at hl 1 rfl) ?_
  refine li_isub hx hb dX1_thirdAxis_4 ?_
  refine be_i hx hb hr hlocks ?_ dX1_thirdAxis_5
  omega

set_option maxHeartbeats 4000000 in
set_option maxRecDepth 100000 in
theorem c_X2_overlaps (l : Launch) (g : bxG) (ad : bxA) (σ τ : bxS) (w : bxW) (a b c0 d : Int) (hRa : iR a) (hRb : iR b) (hRc0 : iR c0) (hRd : iR d) : Met l yX2_overlaps wsX2_overlaps ({ frames := 0, cells := 0, slots := 0, locals := 0 }) (va_Pc [.int (iI a), .int (iI b), .int (iI c0), .int (iI d)] (fun U => bx_I g ad σ τ w U)) (k2_QcV (.int (iI (zB (a < d ∧ c0 < b))))) 0 0 (fun _ => False) := by
  refine Met.ofW (cc := cX2_overlaps) (maxL := 4) (ret := (some .boolean)) (by decide) rfl ?_
  intro Pg Ev s mI args below meth cd s₁ B hml hv
  obtain ⟨rfl, hU, hK⟩ := hv
  have hx := B.exec
  have hb := B.bytes
  have hr := B.returns
  have hts := atoms_spec (ws := wsX2_overlaps) B.pre
  have hown : s.vm.findClass RX2 = some mI.cls := findClass_of_methodNamed B.named
  have hlocks := B.notSynchronized
  have hl := lv_entry ([.int (iI a), .int (iI b), .int (iI c0), .int (iI d)]) (n := 4) (Nat.le_of_ble_eq_true rfl)
  rw [lg_entry_eq]
  generalize (lg_sl ([.int (iI a), .int (iI b), .int (iI c0), .int (iI d)]) ++ List.replicate (4 - (lg_sl ([.int (iI a), .int (iI b), .int (iI c0), .int (iI d)])).length) Slot.unset).toArray = ls at hl ⊢
  have hl : lv_has ls 4 [(0, .int (iI a)), (1, .int (iI b)), (2, .int (iI c0)), (3, .int (iI d))] := hl
  have hRa0 : -2147483648 ≤ a ∧ a < 2147483648 := hRa
  have hRb0 : -2147483648 ≤ b ∧ b < 2147483648 := hRb
  have hRc00 : -2147483648 ≤ c0 ∧ c0 < 2147483648 := hRc0
  have hRd0 : -2147483648 ≤ d ∧ d < 2147483648 := hRd
  refine lv_iload_n hx hb dX2_overlaps_0 rfl (lv_at hl 0 rfl) ?_
  refine lv_iload_n hx hb dX2_overlaps_1 rfl (lv_at hl 3 rfl) ?_
  refine li_icmp_ge (tgt := 14) hx hb (by unfold iR; omega) (by unfold iR; omega) dX2_overlaps_2 (by decide) (fun h1 => ?_) (fun h1 => ?_)
  · refine li_iconst hx hb dX2_overlaps_14 ?_
    refine be_f hx hb hr hlocks ?_ dX2_overlaps_15
    omega
  · refine lv_iload_n hx hb dX2_overlaps_5 rfl (lv_at hl 2 rfl) ?_
    refine lv_iload_n hx hb dX2_overlaps_6 rfl (lv_at hl 1 rfl) ?_
    refine li_icmp_ge (tgt := 14) hx hb (by unfold iR; omega) (by unfold iR; omega) dX2_overlaps_7 (by decide) (fun h2 => ?_) (fun h2 => ?_)
    · refine li_iconst hx hb dX2_overlaps_14 ?_
      refine be_f hx hb hr hlocks ?_ dX2_overlaps_15
      omega
    · refine li_iconst hx hb dX2_overlaps_10 ?_
      refine lv_goto (tgt := 15) hx hb dX2_overlaps_11 (by decide) ?_
      refine be_t hx hb hr hlocks ?_ dX2_overlaps_15
      omega
