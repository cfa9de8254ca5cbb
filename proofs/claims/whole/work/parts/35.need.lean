theorem bx_lo {g : bxG} {ad : bxA} {σ τ : bxS} {w : bxW} {H : Heap} (hU : bx_U g ad σ τ w H) : g.2.2 ≤ H.size := Nat.le_trans (hU.2.2 0 0 (bx_L0 (by omega))) (Nat.le_of_lt (hU.1 0 0 (bx_L0 (by omega))).lt)

set_option maxHeartbeats 4000000 in
set_option maxRecDepth 100000 in
theorem c_X1_need_t (l : Launch) (g : bxG) (ad : bxA) (σ τ : bxS) (w : bxW) : Met l yX1_need wsX1_need ({ frames := 6, cells := 0, slots := 0, locals := 90 }) (va_Pc [.int (iI 1)] (fun U => bx_I g ad σ τ w U)) bq_N 0 0 (fun _ => False) := by
  refine Met.ofW (cc := cX1_need) (maxL := 1) (ret := none) (by decide) rfl ?_
  intro Pg Ev s mI args below meth cd s₁ B hml hv
  obtain ⟨rfl, hU, hK⟩ := hv
  have hx := B.exec
  have hb := B.bytes
  have hr := B.returns
  have hts := atoms_spec (ws := wsX1_need) B.pre
  have hown : s.vm.findClass RX1 = some mI.cls := findClass_of_methodNamed B.named
  have hlocks := B.notSynchronized
  have hl := lv_entry ([.int (iI 1)]) (n := 1) (Nat.le_of_ble_eq_true rfl)
  rw [lg_entry_eq]
  generalize (lg_sl ([.int (iI 1)]) ++ List.replicate (1 - (lg_sl ([.int (iI 1)])).length) Slot.unset).toArray = ls at hl ⊢
  have hl : lv_has ls 1 [(0, .int (iI 1))] := hl
  refine lv_iload_n hx hb dX1_need_0 rfl (lv_at hl 0 rfl) ?_
  refine li_if_ne (tgt := 14) hx hb (by unfold iR; omega) dX1_need_1 (by decide) (fun _ => ?_) (fun h => absurd h (by decide))
  exact be_n hx hb hr hlocks dX1_need_14

set_option maxHeartbeats 4000000 in
set_option maxRecDepth 100000 in
theorem c_X1_need_f (l : Launch) (hst : l.stackTraces = false) (g : bxG) (ad : bxA) (σ τ : bxS) (w : bxW) (sa : Nat → Nat) : vx_Met l yX1_need wsX1_need ({ frames := 6, cells := 1, slots := 6, locals := 90 }) (va_Pc [.int (iI 0)] (fun U => bt_I g ad σ τ w sa U)) bq_no (bq_X g ad σ τ w (fun E => E = bt_iae)) 1 6 (bq_fr g) := by
  refine vx_ofW (cc := cX1_need) (maxL := 1) (ret := none) (by decide) rfl ?_
  intro Pg Ev s mI args below meth cd s₁ B hml hout hv
  obtain ⟨rfl, ⟨hU, hK⟩, hT⟩ := hv
  have hx := B.exec
  have hb := B.bytes
  have hr := B.returns
  have hts := atoms_spec (ws := wsX1_need) B.pre
  have hown : s.vm.findClass RX1 = some mI.cls := findClass_of_methodNamed B.named
  have hlocks := B.notSynchronized
  have hl := lv_entry ([.int (iI 0)]) (n := 1) (Nat.le_of_ble_eq_true rfl)
  rw [lg_entry_eq]
  generalize (lg_sl ([.int (iI 0)]) ++ List.replicate (1 - (lg_sl ([.int (iI 0)])).length) Slot.unset).toArray = ls at hl ⊢
  have hl : lv_has ls 1 [(0, .int (iI 0))] := hl
  refine lv_iload_n hx hb dX1_need_0 rfl (lv_at hl 0 rfl) ?_
  refine li_if_ne (tgt := 14) hx hb (by unfold iR; omega) dX1_need_1 (by decide) (fun h => absurd rfl h) (fun _ => ?_)
  exact vx_throwS (A := bq_fr g) (own := RX1) (cls := "java/lang/IllegalArgumentException") (text := "a number is out of its bounds, or no such part") (names := ["java/lang/RuntimeException", "java/lang/Exception"]) (sa := sa 0) hx hb hst hown (by decide +kernel) (by decide +kernel) (hts (.classLink RX1 138 "java/lang/IllegalArgumentException") (by decide +kernel)) (hts (.initialized "java/lang/IllegalArgumentException") (by decide +kernel)) hT.2.2.2.1 (vx_hat (fun w h => hts w (List.mem_cons_of_mem _ (List.mem_append_right _ h))) bt_in1 hT.args) bt_gd1 hT.2.1 hT.2.2.1 va_S.rf (hl.1.trans hml.symm) dX1_need_4 dX1_need_7 dX1_need_8 dX1_need_10 dX1_need_13 (fun x hx => (hout x hx).elim) (Nat.le_of_ble_eq_true rfl) (Nat.le_of_ble_eq_true rfl) (Nat.le_of_ble_eq_true rfl) (Nat.le_of_ble_eq_true rfl) hlocks (fun t _ _ hq => ⟨rfl, hU.grow hq, ⟨by assumption, fun q hq2 => hq q (Nat.lt_of_lt_of_le hq2 (bx_lo hU))⟩⟩) (fun z hz => nomatch hz) (Nat.le_refl _) (Nat.le_refl _)

set_option maxHeartbeats 4000000 in
set_option maxRecDepth 100000 in
theorem c_X1_needRoom_t (l : Launch) (g : bxG) (ad : bxA) (σ τ : bxS) (w : bxW) (hm : σ 0 0 0 < 60) (hB : bx_B σ) : Met l yX1_needRoom wsX1_needRoom ({ frames := 6, cells := 0, slots := 0, locals := 90 }) (va_Pc [.ref (ad 0 0)] (fun U => bx_I g ad σ τ w U)) bq_N 0 0 (fun _ => False) := by
  refine Met.ofW (cc := cX1_needRoom) (maxL := 1) (ret := none) (by decide) rfl ?_
  intro Pg Ev s mI args below meth cd s₁ B hml hv
  obtain ⟨rfl, hU, hK⟩ := hv
  have hx := B.exec
  have hb := B.bytes
  have hr := B.returns
  have hts := atoms_spec (ws := wsX1_needRoom) B.pre
  have hown : s.vm.findClass RX1 = some mI.cls := findClass_of_methodNamed B.named
  have hlocks := B.notSynchronized
  have hl := lv_entry ([.ref (ad 0 0)]) (n := 1) (Nat.le_of_ble_eq_true rfl)
  rw [lg_entry_eq]
  generalize (lg_sl ([.ref (ad 0 0)]) ++ List.replicate (1 - (lg_sl ([.ref (ad 0 0)])).length) Slot.unset).toArray = ls at hl ⊢
  have hl : lv_has ls 1 [(0, .ref (ad 0 0))] := hl
  have hinX1 : ∀ w ∈ wsX10, w ∈ wsX1_needRoom := by decide +kernel
  have b0 := bB0 hB
  refine lv_aload_n hx hb dX1_needRoom_0 rfl (lv_at hl 0 rfl) ?_
  refine bg_X1_made hx hb hts hinX1 hown hK hU (hts (.fieldLink RX1 19 "ClashBoxes" "made" "I") (by decide +kernel)) dX1_needRoom_1 ?_
  refine li_bipush hx hb dX1_needRoom_4 (by decide) ?_
  refine li_icmp_lt (tgt := 19) hx hb (by unfold iR; omega) (by unfold iR; omega) dX1_needRoom_6 (by decide) (fun _ => ?_) (fun h => absurd hm h)
  exact be_n hx hb hr hlocks dX1_needRoom_19

set_option maxHeartbeats 4000000 in
set_option maxRecDepth 100000 in
theorem c_X1_needRoom_f (l : Launch) (hst : l.stackTraces = false) (g : bxG) (ad : bxA) (σ τ : bxS) (w : bxW) (sa : Nat → Nat) (hm : ¬ σ 0 0 0 < 60) (hB : bx_B σ) : vx_Met l yX1_needRoom wsX1_needRoom ({ frames := 6, cells := 1, slots := 6, locals := 90 }) (va_Pc [.ref (ad 0 0)] (fun U => bt_I g ad σ τ w sa U)) bq_no (bq_X g ad σ τ w (fun E => E = bt_ise)) 1 6 (bq_fr g) := by
  refine vx_ofW (cc := cX1_needRoom) (maxL := 1) (ret := none) (by decide) rfl ?_
  intro Pg Ev s mI args below meth cd s₁ B hml hout hv
  obtain ⟨rfl, ⟨hU, hK⟩, hT⟩ := hv
  have hx := B.exec
  have hb := B.bytes
  have hr := B.returns
  have hts := atoms_spec (ws := wsX1_needRoom) B.pre
  have hown : s.vm.findClass RX1 = some mI.cls := findClass_of_methodNamed B.named
  have hlocks := B.notSynchronized
  have hl := lv_entry ([.ref (ad 0 0)]) (n := 1) (Nat.le_of_ble_eq_true rfl)
  rw [lg_entry_eq]
  generalize (lg_sl ([.ref (ad 0 0)]) ++ List.replicate (1 - (lg_sl ([.ref (ad 0 0)])).length) Slot.unset).toArray = ls at hl ⊢
  have hl : lv_has ls 1 [(0, .ref (ad 0 0))] := hl
  have hinX1 : ∀ w ∈ wsX10, w ∈ wsX1_needRoom := by decide +kernel
  have b0 := bB0 hB
  refine lv_aload_n hx hb dX1_needRoom_0 rfl (lv_at hl 0 rfl) ?_
  refine bg_X1_made hx hb hts hinX1 hown hK hU (hts (.fieldLink RX1 19 "ClashBoxes" "made" "I") (by decide +kernel)) dX1_needRoom_1 ?_
  refine li_bipush hx hb dX1_needRoom_4 (by decide) ?_
  refine li_icmp_lt (tgt := 19) hx hb (by unfold iR; omega) (by unfold iR; omega) dX1_needRoom_6 (by decide) (fun h => absurd h hm) (fun _ => ?_)
  exact vx_throwS (A := bq_fr g) (own := RX1) (cls := "java/lang/IllegalStateException") (text := "there were 60 parts") (names := ["java/lang/RuntimeException", "java/lang/Exception"]) (sa := sa 2) hx hb hst hown (by decide +kernel) (by decide +kernel) (hts (.classLink RX1 145 "java/lang/IllegalStateException") (by decide +kernel)) (hts (.initialized "java/lang/IllegalStateException") (by decide +kernel)) hT.2.2.2.2.2 (vx_hat (fun w h => hts w (List.mem_cons_of_mem _ (List.mem_append_right _ h))) bt_in2 hT.args) bt_gd2 hT.2.1 hT.2.2.1 va_S.rf (hl.1.trans hml.symm) dX1_needRoom_9 dX1_needRoom_12 dX1_needRoom_13 dX1_needRoom_15 dX1_needRoom_18 (fun x hx => (hout x hx).elim) (Nat.le_of_ble_eq_true rfl) (Nat.le_of_ble_eq_true rfl) (Nat.le_of_ble_eq_true rfl) (Nat.le_of_ble_eq_true rfl) hlocks (fun t _ _ hq => ⟨rfl, hU.grow hq, ⟨by assumption, fun q hq2 => hq q (Nat.lt_of_lt_of_le hq2 (bx_lo hU))⟩⟩) (fun z hz => nomatch hz) (Nat.le_refl _) (Nat.le_refl _)

set_option maxHeartbeats 4000000 in
set_option maxRecDepth 100000 in
theorem c_X1_partAt_t (l : Launch) (g : bxG) (ad : bxA) (σ τ : bxS) (w : bxW) (k : Int) (hp : 0 ≤ k ∧ k < 60 ∧ σ 2 k 0 ≠ 0) : Met l yX1_partAt wsX1_partAt ({ frames := 6, cells := 0, slots := 0, locals := 90 }) (va_Pc [.ref (ad 0 0), .int (iI k)] (fun U => bx_I g ad σ τ w U)) (k2_QcV (.ref (ad 20 k))) 0 0 (fun _ => False) := by
  refine Met.ofW (cc := cX1_partAt) (maxL := 3) (ret := (some (.object "ClashBoxes$Part"))) (by decide) rfl ?_
  intro Pg Ev s mI args below meth cd s₁ B hml hv
  obtain ⟨rfl, hU, hK⟩ := hv
  have hx := B.exec
  have hb := B.bytes
  have hr := B.returns
  have hts := atoms_spec (ws := wsX1_partAt) B.pre
  have hown : s.vm.findClass RX1 = some mI.cls := findClass_of_methodNamed B.named
  have hlocks := B.notSynchronized
  have hl := lv_entry ([.ref (ad 0 0), .int (iI k)]) (n := 3) (Nat.le_of_ble_eq_true rfl)
  rw [lg_entry_eq]
  generalize (lg_sl ([.ref (ad 0 0), .int (iI k)]) ++ List.replicate (3 - (lg_sl ([.ref (ad 0 0), .int (iI k)])).length) Slot.unset).toArray = ls at hl ⊢
  have hl : lv_has ls 3 [(0, .ref (ad 0 0)), (1, .int (iI k))] := hl
  have hinX1 : ∀ w ∈ wsX10, w ∈ wsX1_partAt := by decide +kernel
  refine lv_iload_n hx hb dX1_partAt_0 rfl (lv_at hl 1 rfl) ?_
  refine li_iconst hx hb dX1_partAt_1 ?_
  refine li_bipush hx hb dX1_partAt_2 (by decide) ?_
  refine bc_SB (As := [.int (iI k), .int (iI 0), .int (iI 59)]) (rest := []) ⟨hx, hb, hml, hown, hts⟩ (c_X1_isWithin l g ad σ τ w k 0 59 (by unfold iR; omega) (by unfold iR; omega) (by unfold iR; omega)) (va_cwS 3 hts gX1_partAt_X1_isWithin rfl rfl rfl (by decide +kernel) ⟨Nat.le_of_ble_eq_true rfl, Nat.le_of_ble_eq_true rfl⟩) hK hU rfl hl.1 rfl (Nat.le_of_ble_eq_true rfl) dX1_partAt_4 ⟨Nat.zero_le _, Nat.zero_le _⟩ (fun h1 => ?_) (fun h1 => ?_)
  · refine li_if_eq (tgt := 19) hx hb (by unfold iR; omega) dX1_partAt_7 (by decide) (fun h => absurd h (by decide)) (fun _ => ?_)
    refine lv_aload_n hx hb dX1_partAt_10 rfl (lv_at hl 0 rfl) ?_
    refine bg_X1_row hx hb hts hinX1 hown hK hU (hts (.fieldLink RX1 11 "ClashBoxes" "row" "[LClashBoxes$Part;") (by decide +kernel)) dX1_partAt_11 ?_
    refine lv_iload_n hx hb dX1_partAt_14 rfl (lv_at hl 1 rfl) ?_
    refine bx_row hx hb hK hU (by omega) (by omega) dX1_partAt_15 (fun h2 => absurd h2 hp.2.2) (fun _ => ?_)
    refine lv_goto (tgt := 20) hx hb dX1_partAt_16 (by decide) ?_
    refine lv_astore_n (lv' := [(2, .ref (ad 20 k)), (0, .ref (ad 0 0)), (1, .int (iI k))]) hx hb dX1_partAt_20 rfl hl (by decide) rfl (fun ls hl => ?_)
    refine lv_aload_n hx hb dX1_partAt_21 rfl (lv_at hl 0 rfl) ?_
    refine lv_ifnonnull (tgt := 35) hx hb dX1_partAt_22 (by decide) ?_
    refine lv_aload_n hx hb dX1_partAt_35 rfl (lv_at hl 0 rfl) ?_
    exact W.aret hx hb hr (Or.inl ⟨_, rfl⟩) (Or.inr ⟨_, rfl⟩) (fun t ht _ => ⟨rfl, ht⟩) (fun q h => by cases h) dX1_partAt_36 hlocks
  · exfalso
    omega

set_option maxHeartbeats 4000000 in
set_option maxRecDepth 100000 in
theorem c_X1_partAt_f (l : Launch) (hst : l.stackTraces = false) (g : bxG) (ad : bxA) (σ τ : bxS) (w : bxW) (sa : Nat → Nat) (k : Int) (hRk : iR k) (hp : ¬ (0 ≤ k ∧ k < 60 ∧ σ 2 k 0 ≠ 0)) : vx_Met l yX1_partAt wsX1_partAt ({ frames := 6, cells := 1, slots := 6, locals := 90 }) (va_Pc [.ref (ad 0 0), .int (iI k)] (fun U => bt_I g ad σ τ w sa U)) bq_no (bq_X g ad σ τ w (fun E => E = bt_iae)) 1 6 (bq_fr g) := by
  refine vx_ofW (cc := cX1_partAt) (maxL := 3) (ret := (some (.object "ClashBoxes$Part"))) (by decide) rfl ?_
  intro Pg Ev s mI args below meth cd s₁ B hml hout hv
  obtain ⟨rfl, ⟨hU, hK⟩, hT⟩ := hv
  have hx := B.exec
  have hb := B.bytes
  have hr := B.returns
  have hts := atoms_spec (ws := wsX1_partAt) B.pre
  have hown : s.vm.findClass RX1 = some mI.cls := findClass_of_methodNamed B.named
  have hlocks := B.notSynchronized
  have hl := lv_entry ([.ref (ad 0 0), .int (iI k)]) (n := 3) (Nat.le_of_ble_eq_true rfl)
  rw [lg_entry_eq]
  generalize (lg_sl ([.ref (ad 0 0), .int (iI k)]) ++ List.replicate (3 - (lg_sl ([.ref (ad 0 0), .int (iI k)])).length) Slot.unset).toArray = ls at hl ⊢
  have hl : lv_has ls 3 [(0, .ref (ad 0 0)), (1, .int (iI k))] := hl
  have hinX1 : ∀ w ∈ wsX10, w ∈ wsX1_partAt := by decide +kernel
  refine lv_iload_n hx hb dX1_partAt_0 rfl (lv_at hl 1 rfl) ?_
  refine li_iconst hx hb dX1_partAt_1 ?_
  refine li_bipush hx hb dX1_partAt_2 (by decide) ?_
  refine bc_SB (As := [.int (iI k), .int (iI 0), .int (iI 59)]) (rest := []) ⟨hx, hb, hml, hown, hts⟩ (c_X1_isWithin l g ad σ τ w k 0 59 hRk (by unfold iR; omega) (by unfold iR; omega)) (va_cwS 3 hts gX1_partAt_X1_isWithin rfl rfl rfl (by decide +kernel) ⟨Nat.le_of_ble_eq_true rfl, Nat.le_of_ble_eq_true rfl⟩) hK hU rfl hl.1 rfl (Nat.le_of_ble_eq_true rfl) dX1_partAt_4 ⟨Nat.zero_le _, Nat.zero_le _⟩ (fun h1 => ?_) (fun h1 => ?_)
  · refine li_if_eq (tgt := 19) hx hb (by unfold iR; omega) dX1_partAt_7 (by decide) (fun h => absurd h (by decide)) (fun _ => ?_)
    refine lv_aload_n hx hb dX1_partAt_10 rfl (lv_at hl 0 rfl) ?_
    refine bg_X1_row hx hb hts hinX1 hown hK hU (hts (.fieldLink RX1 11 "ClashBoxes" "row" "[LClashBoxes$Part;") (by decide +kernel)) dX1_partAt_11 ?_
    refine lv_iload_n hx hb dX1_partAt_14 rfl (lv_at hl 1 rfl) ?_
    refine bx_row hx hb hK hU (by omega) (by omega) dX1_partAt_15 (fun h2 => ?_) (fun h2 => absurd ⟨h1.1, by omega, h2⟩ hp)
    refine lv_goto (tgt := 20) hx hb dX1_partAt_16 (by decide) ?_
    refine lv_astore_nN (lv' := [(2, .null), (0, .ref (ad 0 0)), (1, .int (iI k))]) hx hb dX1_partAt_20 rfl hl (by decide) rfl (fun ls hl => ?_)
    refine lv_aload_nN hx hb dX1_partAt_21 rfl (lv_at hl 0 rfl) ?_
    refine lv_ifnonnullN hx hb dX1_partAt_22 ?_
    exact vx_throwS (A := bq_fr g) (own := RX1) (cls := "java/lang/IllegalArgumentException") (text := "no such part") (names := ["java/lang/RuntimeException", "java/lang/Exception"]) (sa := sa 1) hx hb hst hown (by decide +kernel) (by decide +kernel) (hts (.classLink RX1 138 "java/lang/IllegalArgumentException") (by decide +kernel)) (hts (.initialized "java/lang/IllegalArgumentException") (by decide +kernel)) hT.2.2.2.2.1 (vx_hat (fun w h => hts w (List.mem_cons_of_mem _ (List.mem_append_right _ h))) bt_in1 hT.args) bt_gd1 hT.2.1 hT.2.2.1 va_S.rf (hl.1.trans hml.symm) dX1_partAt_25 dX1_partAt_28 dX1_partAt_29 dX1_partAt_31 dX1_partAt_34 (fun x hx => (hout x hx).elim) (Nat.le_of_ble_eq_true rfl) (Nat.le_of_ble_eq_true rfl) (Nat.le_of_ble_eq_true rfl) (Nat.le_of_ble_eq_true rfl) hlocks (fun t _ _ hq => ⟨rfl, hU.grow hq, ⟨by assumption, fun q hq2 => hq q (Nat.lt_of_lt_of_le hq2 (bx_lo hU))⟩⟩) (fun z hz => nomatch hz) (Nat.le_refl _) (Nat.le_refl _)
  · refine li_if_eq (tgt := 19) hx hb (by unfold iR; omega) dX1_partAt_7 (by decide) (fun _ => ?_) (fun h => absurd rfl h)
    refine lv_null hx hb dX1_partAt_19 ?_
    refine lv_astore_nN (lv' := [(2, .null), (0, .ref (ad 0 0)), (1, .int (iI k))]) hx hb dX1_partAt_20 rfl hl (by decide) rfl (fun ls hl => ?_)
    refine lv_aload_nN hx hb dX1_partAt_21 rfl (lv_at hl 0 rfl) ?_
    refine lv_ifnonnullN hx hb dX1_partAt_22 ?_
    exact vx_throwS (A := bq_fr g) (own := RX1) (cls := "java/lang/IllegalArgumentException") (text := "no such part") (names := ["java/lang/RuntimeException", "java/lang/Exception"]) (sa := sa 1) hx hb hst hown (by decide +kernel) (by decide +kernel) (hts (.classLink RX1 138 "java/lang/IllegalArgumentException") (by decide +kernel)) (hts (.initialized "java/lang/IllegalArgumentException") (by decide +kernel)) hT.2.2.2.2.1 (vx_hat (fun w h => hts w (List.mem_cons_of_mem _ (List.mem_append_right _ h))) bt_in1 hT.args) bt_gd1 hT.2.1 hT.2.2.1 va_S.rf (hl.1.trans hml.symm) dX1_partAt_25 dX1_partAt_28 dX1_partAt_29 dX1_partAt_31 dX1_partAt_34 (fun x hx => (hout x hx).elim) (Nat.le_of_ble_eq_true rfl) (Nat.le_of_ble_eq_true rfl) (Nat.le_of_ble_eq_true rfl) (Nat.le_of_ble_eq_true rfl) hlocks (fun t _ _ hq => ⟨rfl, hU.grow hq, ⟨by assumption, fun q hq2 => hq q (Nat.lt_of_lt_of_le hq2 (bx_lo hU))⟩⟩) (fun z hz => nomatch hz) (Nat.le_refl _) (Nat.le_refl _)
