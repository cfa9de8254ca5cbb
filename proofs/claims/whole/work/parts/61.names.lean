theorem c_X1_isPair_N (l : Launch) (g : bxG) (ad : bxA) (σ τ : bxS) (w : bxW) (N : Int → Int) (st p q : Int) (hRst : iR st) (hip : 0 ≤ p ∧ p < 60) (hiq : 0 ≤ q ∧ q < 60) (hB : bx_B σ) : Met l yX1_isPair wsX1_isPair ({ frames := 5, cells := 0, slots := 0, locals := 119 }) (va_Pc [.ref (ad 0 0), .int (iI st), .int (iI p), .int (iI q)] (fun U => bx_I g ad (setF σ 10 N) τ w U)) (k2_QcV (.int (iI (zB (pairP σ st p q))))) 0 0 (fun _ => False) := by
  have h := c_X1_isPair l g ad (setF σ 10 N) τ w st p q hRst hip hiq (bx_B.ag (ag_setF σ (by omega) N) hB)
  rw [pairP_ag (ag_setF σ (by omega) N)] at h
  exact h
theorem c_X2_stateOf_N (l : Launch) (g : bxG) (ad : bxA) (σ τ : bxS) (w : bxW) (N : Int → Int) (p q : Int) (hqp : 0 ≤ p ∧ p < 60 ∧ τ 2 p 0 ≠ 0) (hqq : 0 ≤ q ∧ q < 60 ∧ τ 2 q 0 ≠ 0) (hBt : bx_B τ) (hM : bx_M τ) : Met l yX2_stateOf wsX2_stateOf ({ frames := 4, cells := 0, slots := 0, locals := 105 }) (va_Pc [.ref (ad 7 0), .int (iI p), .int (iI q)] (fun U => bx_I g ad σ (setF τ 10 N) w U)) (k2_QcV (.int (iI (stO (eff τ) p q)))) 0 0 (fun _ => False) := by
  have h := c_X2_stateOf l g ad σ (setF τ 10 N) w p q hqp hqq (bx_B.ag (ag_setF τ (by omega) N) hBt) (bx_M_setF (by omega) N hM)
  rw [stO_ag (ag_eff τ (by omega) (by omega) N)] at h
  exact h
theorem c_X1_isThere_N (l : Launch) (g : bxG) (ad : bxA) (σ τ : bxS) (w : bxW) (N : Int → Int) (k : Int) (hRk : iR k) : Met l yX1_isThere wsX1_isThere ({ frames := 1, cells := 0, slots := 0, locals := 22 }) (va_Pc [.ref (ad 0 0), .int (iI k)] (fun U => bx_I g ad (setF σ 10 N) τ w U)) (k2_QcV (.int (iI (zB (0 ≤ k ∧ k < 60 ∧ σ 2 k 0 ≠ 0))))) 0 0 (fun _ => False) := c_X1_isThere l g ad (setF σ 10 N) τ w k hRk
theorem c_X2_isPart_N (l : Launch) (g : bxG) (ad : bxA) (σ τ : bxS) (w : bxW) (N : Int → Int) (k : Int) (hRk : iR k) (hBt : bx_B τ) : Met l yX2_isPart wsX2_isPart ({ frames := 1, cells := 0, slots := 0, locals := 22 }) (va_Pc [.ref (ad 7 0), .int (iI k)] (fun U => bx_I g ad σ (setF τ 10 N) w U)) (k2_QcV (.int (iI (zB (0 ≤ k ∧ k < 60 ∧ τ 2 k 0 ≠ 0))))) 0 0 (fun _ => False) := c_X2_isPart l g ad σ (setF τ 10 N) w k hRk (bx_B.ag (ag_setF τ (by omega) N) hBt)

set_option maxHeartbeats 4000000 in
set_option maxRecDepth 100000 in
theorem c_X1_joinNames (l : Launch) (g : bxG) (ad : bxA) (σ τ : bxS) (w : bxW) (N : Int → Int) (kp gv : Int) (h6kp : 0 ≤ kp ∧ kp < 60) (h6gv : 0 ≤ gv ∧ gv < 60) (hB : bx_B σ) (hN : nmB σ N) : Met l yX1_joinNames wsX1_joinNames ({ frames := 0, cells := 0, slots := 0, locals := 0 }) (va_Pc [.ref (ad 0 0), .int (iI kp), .int (iI gv)] (fun U => bx_I g ad (setF σ 10 N) τ w U)) (bq_W none g ad (setF σ 10 (jnp N (σ 0 0 0) kp gv)) τ w) 0 0 (bq_fr g) := by
  refine Met.ofW (cc := cX1_joinNames) (maxL := 4) (ret := none) (by decide) rfl ?_
  intro Pg Ev s mI args below meth cd s₁ B hml hv
  obtain ⟨rfl, hU, hK⟩ := hv
  have hx := B.exec
  have hb := B.bytes
  have hr := B.returns
  have hts := atoms_spec (ws := wsX1_joinNames) B.pre
  have hown : s.vm.findClass RX1 = some mI.cls := findClass_of_methodNamed B.named
  have hlocks := B.notSynchronized
  have hF : bx_F g s.heap s.heap := bx_F.rf
  have hlc : bx_Lc g [] := bx_Lc.nil
  have hl := lv_entry ([.ref (ad 0 0), .int (iI kp), .int (iI gv)]) (n := 4) (Nat.le_of_ble_eq_true rfl)
  rw [lg_entry_eq]
  generalize (lg_sl ([.ref (ad 0 0), .int (iI kp), .int (iI gv)]) ++ List.replicate (4 - (lg_sl ([.ref (ad 0 0), .int (iI kp), .int (iI gv)])).length) Slot.unset).toArray = ls at hl ⊢
  have hl : lv_has ls 4 [(0, .ref (ad 0 0)), (1, .int (iI kp)), (2, .int (iI gv))] := hl
  have hinX1 : ∀ w ∈ wsX10, w ∈ wsX1_joinNames := by decide +kernel
  have hm0 := bB0 hB
  refine li_iconst hx hb dX1_joinNames_0 ?_
  refine lv_istore_n (lv' := [(3, .int (iI 0)), (0, .ref (ad 0 0)), (1, .int (iI kp)), (2, .int (iI gv))]) hx hb dX1_joinNames_1 rfl hl (by decide) rfl (fun ls hl => ?_)
  refine bl_loopW (V := Int) (nL := 4) (S := fun v => setF σ 10 (jnp N v kp gv)) (T := fun v => τ) (I := fun v => [(3, .int (iI v)), (0, .ref (ad 0 0)), (1, .int (iI kp)), (2, .int (iI gv))]) (Inv := fun v => (0 ≤ v ∧ v ≤ σ 0 0 0)) (μ := fun v => 60 - v) ?_ (0) _ _ (show (0 ≤ 0 ∧ 0 ≤ σ 0 0 0) from (by omega)) (by show bx_U g ad (setF σ 10 (jnp N 0 kp gv)) τ w _; rw [jnp_0]; exact hU) hF hlc ls (lv_sub hl [0, 1, 2, 3] rfl)
  intro i1 H locs hI hU hF hlc ih1 ls hl
  have hI : (0 ≤ i1 ∧ i1 ≤ σ 0 0 0) := hI
  have ha1 := hI
  have hl : lv_has ls 4 [(3, .int (iI i1)), (0, .ref (ad 0 0)), (1, .int (iI kp)), (2, .int (iI gv))] := hl
  have hU : bx_U g ad (setF σ 10 (jnp N i1 kp gv)) τ w H := hU
  have hm0 := bB0 hB
  have hj9 := jnp_at N kp gv i1
  refine lv_iload_n hx hb dX1_joinNames_2 rfl (lv_at hl 0 rfl) ?_
  refine lv_aload_n hx hb dX1_joinNames_3 rfl (lv_at hl 1 rfl) ?_
  refine bg_X1_made hx hb hts hinX1 hown hK hU (hts (.fieldLink RX1 19 "ClashBoxes" "made" "I") (by decide +kernel)) dX1_joinNames_4 ?_
  refine W.eq (g2 := F0 mI 7 ls [.int (iI (σ 0 0 0)), .int (iI i1)]) rfl ?_
  refine li_icmp_ge (tgt := 33) hx hb (by unfold iR; omega) (by unfold iR; omega) dX1_joinNames_7 (by decide) (fun h2 => ?_) (fun h2 => ?_)
  · exact bw_n hx hb hr hlocks (by rw [show σ 0 0 0 = i1 by omega]; exact hU) hF hlc dX1_joinNames_33
  · refine lv_aload_n hx hb dX1_joinNames_10 rfl (lv_at hl 1 rfl) ?_
    refine bg_X1_names hx hb hts hinX1 hown hK hU (hts (.fieldLink RX1 26 "ClashBoxes" "names" "[I") (by decide +kernel)) dX1_joinNames_11 ?_
    refine lv_iload_n hx hb dX1_joinNames_14 rfl (lv_at hl 0 rfl) ?_
    refine bl_3 hx hb hK hU (by omega) (by omega) dX1_joinNames_15 ?_
    refine W.eq (g2 := F0 mI 16 ls [.int (iI ((jnp N i1 kp gv) i1))]) rfl ?_
    have hb9 := hN i1 (by omega) (by omega)
    refine lv_iload_n hx hb dX1_joinNames_16 rfl (lv_at hl 3 rfl) ?_
    refine li_icmp_ne (tgt := 27) hx hb (by unfold iR; omega) (by unfold iR; omega) dX1_joinNames_17 (by decide) (fun h3 => ?_) (fun h3 => ?_)
    · refine li_iinc (k0 := 0) (lv' := [(3, .int (iI (i1 + 1))), (0, .ref (ad 0 0)), (1, .int (iI kp)), (2, .int (iI gv))]) hx hb dX1_joinNames_27 hl rfl (by decide) rfl (fun ls hl => ?_)
      refine lv_goto (tgt := 2) hx hb dX1_joinNames_30 (by decide) ?_
      exact ih1 (i1 + 1) _ _ (show (0 ≤ (i1 + 1) ∧ (i1 + 1) ≤ σ 0 0 0) from (by omega)) (by show bx_U g ad (setF σ 10 (jnp N (i1 + 1) kp gv)) τ w _; rw [← jnp_ns (show N i1 ≠ gv by omega)]; exact hU) hF hlc (show 0 ≤ 60 - (i1 + 1) by omega) (show 60 - (i1 + 1) < 60 - i1 by omega) ls (lv_sub hl [0, 1, 2, 3] rfl)
    · refine lv_aload_n hx hb dX1_joinNames_20 rfl (lv_at hl 1 rfl) ?_
      refine bg_X1_names hx hb hts hinX1 hown hK hU (hts (.fieldLink RX1 26 "ClashBoxes" "names" "[I") (by decide +kernel)) dX1_joinNames_21 ?_
      refine lv_iload_n hx hb dX1_joinNames_24 rfl (lv_at hl 0 rfl) ?_
      refine lv_iload_n hx hb dX1_joinNames_25 rfl (lv_at hl 2 rfl) ?_
      refine bs_3 hx hb hK hU hlc (by omega) (by omega) dX1_joinNames_26 (fun H locs hU hF1 hlc => ?_)
      have hF := hF.tr hF1
      have hU : bx_U g ad (setF σ 10 (fun j => if j = i1 then kp else (jnp N i1 kp gv) j)) τ w H := by rw [← up3_setF]; exact hU
      refine li_iinc (k0 := 0) (lv' := [(3, .int (iI (i1 + 1))), (0, .ref (ad 0 0)), (1, .int (iI kp)), (2, .int (iI gv))]) hx hb dX1_joinNames_27 hl rfl (by decide) rfl (fun ls hl => ?_)
      refine lv_goto (tgt := 2) hx hb dX1_joinNames_30 (by decide) ?_
      exact ih1 (i1 + 1) _ _ (show (0 ≤ (i1 + 1) ∧ (i1 + 1) ≤ σ 0 0 0) from (by omega)) (by show bx_U g ad (setF σ 10 (jnp N (i1 + 1) kp gv)) τ w _; rw [← jnp_st (by omega) (show N i1 = gv by omega)]; exact hU) hF hlc (show 0 ≤ 60 - (i1 + 1) by omega) (show 60 - (i1 + 1) < 60 - i1 by omega) ls (lv_sub hl [0, 1, 2, 3] rfl)
