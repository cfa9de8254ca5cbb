theorem bx_lo {g : bxG} {ad : bxA} {σ τ : bxS} {w : Int64} {H : Heap} (hU : bx_U g ad σ τ w H) : g.2.2 ≤ H.size := Nat.le_trans (hU.2.2 0 0 (bx_L0 (by omega))) (Nat.le_of_lt (hU.1 0 0 (bx_L0 (by omega))).lt)

set_option maxHeartbeats 4000000 in
set_option maxRecDepth 100000 in
theorem c_X1_need_t (l : Launch) (g : bxG) (ad : bxA) (σ τ : bxS) (w : Int64) : Met l yX1_need wsX1_need ({ frames := 6, cells := 0, slots := 0, locals := 90 }) (va_Pc [.int (iI 1)] (fun U => bx_I g ad σ τ w U)) bq_N 0 0 (fun _ => False) := by
  refine Met.ofW (cc := cX1_need) (maxL := 1) (ret := none) (by decide) rfl ?_
  intro Pg Ev s mI args below meth cd s₁ B hml hv
  obtain ⟨rfl, hU, hK⟩ := hv
  have hx := B.exec
  have hb := B.bytes
  have hr := B.returns
  have hts := atoms_spec (ws := wsX1_need) B.pre
  have hown : s.vm.findClass RX1 = some mI.cls := findClass_of_methodNamed B.named
  have hlocks := B.notSynchronized
  have hl := lv_entry ([.int (iI 1)]) (n := 1) (Nat.le_of_ble_eq_true rfl)
  rw [lg_entry_eq]
  generalize (lg_sl ([.int (iI 1)]) ++ List.replicate (1 - (lg_sl ([.int (iI 1)])).length) Slot.unset).toArray = ls at hl ⊢
  have hl : lv_has ls 1 [(0, .int (iI 1))] := hl
  refine lv_iload_n hx hb dX1_need_0 rfl (lv_at hl 0 rfl) ?_
  refine li_if_ne (tgt := 14) hx hb (by unfold iR; omega) dX1_need_1 (by decide) (fun _ => ?_) (fun h => absurd h (by decide))
  exact be_n hx hb hr hlocks dX1_need_14

set_option maxHeartbeats 4000000 in
set_option maxRecDepth 100000 in
theorem c_X1_need_f (l : Launch) (hst : l.stackTraces = false) (g : bxG) (ad : bxA) (σ τ : bxS) (w : Int64) (sa : Nat → Nat) : vx_Met l yX1_need wsX1_need ({ frames := 6, cells := 1, slots := 6, locals := 90 }) (va_Pc [.int (iI 0)] (fun U => bt_I g ad σ τ w sa U)) bq_no (bq_X g ad σ τ w (fun E => E = bt_iae)) 1 6 (bq_fr g) := by
  refine vx_ofW (cc := cX1_need) (maxL := 1) (ret := none) (by decide) rfl ?_
  intro Pg Ev s mI args below meth cd s₁ B hml hout hv
  obtain ⟨rfl, ⟨hU, hK⟩, hT⟩ := hv
  have hx := B.exec
  have hb := B.bytes
  have hr := B.returns
  have hts := atoms_spec (ws := wsX1_need) B.pre
  have hown : s.vm.findClass RX1 = some mI.cls := findClass_of_methodNamed B.named
  have hlocks := B.notSynchronized
  have hl := lv_entry ([.int (iI 0)]) (n := 1) (Nat.le_of_ble_eq_true rfl)
  rw [lg_entry_eq]
  generalize (lg_sl ([.int (iI 0)]) ++ List.replicate (1 - (lg_sl ([.int (iI 0)])).length) Slot.unset).toArray = ls at hl ⊢
  have hl : lv_has ls 1 [(0, .int (iI 0))] := hl
  refine lv_iload_n hx hb dX1_need_0 rfl (lv_at hl 0 rfl) ?_
  refine li_if_ne (tgt := 14) hx hb (by unfold iR; omega) dX1_need_1 (by decide) (fun h => absurd rfl h) (fun _ => ?_)
  exact vx_throwS (A := bq_fr g) (own := RX1) (cls := "java/lang/IllegalArgumentException") (text := "a number is out of its bounds, or no such part") (names := ["java/lang/RuntimeException", "java/lang/Exception"]) (sa := sa 0) hx hb hst hown (by decide +kernel) (by decide +kernel) (hts (.classLink RX1 138 "java/lang/IllegalArgumentException") (by decide +kernel)) (hts (.initialized "java/lang/IllegalArgumentException") (by decide +kernel)) hT.2.2.2.1 (vx_hat (fun w h => hts w (List.mem_cons_of_mem _ (List.mem_append_right _ h))) bt_in1 hT.args) bt_gd1 hT.2.1 hT.2.2.1 va_S.rf (hl.1.trans hml.symm) dX1_need_4 dX1_need_7 dX1_need_8 dX1_need_10 dX1_need_13 (fun x hx => (hout x hx).elim) (Nat.le_of_ble_eq_true rfl) (Nat.le_of_ble_eq_true rfl) (Nat.le_of_ble_eq_true rfl) (Nat.le_of_ble_eq_true rfl) hlocks (fun t _ _ hq => ⟨rfl, hU.grow hq, ⟨by assumption, fun q hq2 => hq q (Nat.lt_of_lt_of_le hq2 (bx_lo hU))⟩⟩) (fun z hz => nomatch hz) (Nat.le_refl _) (Nat.le_refl _)
