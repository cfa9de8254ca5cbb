theorem c_X1_group_tt (l : Launch) (g : bxG) (ad : bxA) (σ τ : bxS) (w : bxW) (p : Int) (hRp : iR p) (hB : bx_B σ) (hg : 0 ≤ p ∧ p < 60 ∧ σ 2 p 0 ≠ 0) : Met l yX1_group wsX1_group ({ frames := 7, cells := 0, slots := 0, locals := 166 }) (va_Pc [.ref (ad 0 0), .int (iI p)] (fun U => bx_I g ad σ τ w U)) (bq_W (some (.int (iI (gnm σ (fun t => σ 10 t 0) p)))) g ad (setF σ 10 (gnm σ (fun t => σ 10 t 0))) τ w) 0 0 (bq_fr g) := by
  have h := c_X1_group_t l g ad σ τ w (fun t => σ 10 t 0) p hRp hB hg
  rw [setF_self] at h
  exact h

theorem c_X1_groups_tt (l : Launch) (g : bxG) (ad : bxA) (σ τ : bxS) (w : bxW) (hB : bx_B σ) : Met l yX1_groups wsX1_groups ({ frames := 7, cells := 0, slots := 0, locals := 166 }) (va_Pc [.ref (ad 0 0)] (fun U => bx_I g ad σ τ w U)) (bq_W (some (.int (iI (sm (grs (gnm σ (fun t => σ 10 t 0))) (σ 0 0 0))))) g ad (setF (setF σ 11 (szf (gnm σ (fun t => σ 10 t 0)) (fun t => σ 11 t 0) (σ 0 0 0) (σ 0 0 0))) 10 (gnm σ (fun t => σ 10 t 0))) τ w) 0 0 (bq_fr g) := by
  have h := c_X1_groups l g ad σ τ w (fun t => σ 11 t 0) (fun t => σ 10 t 0) hB
  rw [setF_self2 σ (by omega)] at h
  exact h

theorem c_X2_groups_tt (l : Launch) (g : bxG) (ad : bxA) (σ τ : bxS) (w : bxW) (hBt : bx_B τ) (hM : bx_M τ) : Met l yX2_groups wsX2_groups ({ frames := 6, cells := 0, slots := 0, locals := 152 }) (va_Pc [.ref (ad 7 0)] (fun U => bx_I g ad σ τ w U)) (bq_W (some (.int (iI (sm (grm τ (gnm (eff τ) (fun t => τ 10 t 0))) (τ 0 0 0))))) g ad σ (setF τ 10 (gnm (eff τ) (fun t => τ 10 t 0))) (w.1, 0)) 0 0 (bq_fr g) := by
  have h := c_X2_groups l g ad σ τ w (fun t => τ 10 t 0) hBt hM
  rw [setF_self] at h
  exact h

theorem c_X2_group_tt (l : Launch) (g : bxG) (ad : bxA) (σ τ : bxS) (w : bxW) (p : Int) (hRp : iR p) (hBt : bx_B τ) (hM : bx_M τ) (hg : 0 ≤ p ∧ p < 60 ∧ τ 2 p 0 ≠ 0) : Met l yX2_group wsX2_group ({ frames := 6, cells := 0, slots := 0, locals := 152 }) (va_Pc [.ref (ad 7 0), .int (iI p)] (fun U => bx_I g ad σ τ w U)) (bq_W (some (.int (iI ((gnm (eff τ) (fun t => τ 10 t 0)) p)))) g ad σ (setF τ 10 (gnm (eff τ) (fun t => τ 10 t 0))) (w.1, 0)) 0 0 (bq_fr g) := by
  have h := c_X2_group_t l g ad σ τ w (fun t => τ 10 t 0) p hRp hBt hM hg
  rw [setF_self] at h
  exact h

def lB (v : Int) : Int64 := if v = 0 then 0 else 1

set_option maxHeartbeats 4000000 in
set_option maxRecDepth 100000 in
theorem lh_box_t (l : Launch) (g : bxG) (ad : bxA) (σ τ : bxS) (w : bxW) (sa : Nat → Nat) (k x y z dx dy dz : Int) (hRk : iR k) (hRx : iR x) (hRy : iR y) (hRz : iR z) (hRdx : iR dx) (hRdy : iR dy) (hRdz : iR dz) (hB : bx_B σ) (hg : ((0 ≤ k ∧ k ≤ 7) ∧ (0 ≤ x ∧ x ≤ 1000 ∧ 1 ≤ dx ∧ dx ≤ 1000 ∧ x + dx ≤ 1000) ∧ (0 ≤ y ∧ y ≤ 1000 ∧ 1 ≤ dy ∧ dy ≤ 1000 ∧ y + dy ≤ 1000) ∧ (0 ≤ z ∧ z ≤ 1000 ∧ 1 ≤ dz ∧ dz ≤ 1000 ∧ z + dz ≤ 1000)) ∧ σ 0 0 0 < 60) : vx_Met l yL_box wsL_box ({ frames := 8, cells := 3, slots := 12, locals := 138 }) (va_Pc [.ref (ad 0 0), .int (iI k), .int (iI x), .int (iI y), .int (iI z), .int (iI dx), .int (iI dy), .int (iI dz), .ref (ad 17 0)] (fun U => bt_J g ad σ τ w sa U)) (bq_H (some (.int (iI 0))) g (fun H => ∃ ad1, adS ad ad1 ∧ bx_U g ad1 (boxC σ k x y z dx dy dz) τ ((iI (σ 0 0 0)).toInt64, w.2) H)) bq_nx 3 12 (bq_fr g) := by
  refine vx_ofWH (cc := cL_box) (maxL := 10) (ret := (some .int)) (hh := [(0, 20, 23, 13), (0, 20, 27, 15)]) (by decide) rfl ?_
  intro Pg Ev s mI args below meth cd s₁ B hml hv
  obtain ⟨rfl, ⟨⟨hU, hK⟩, hT⟩, hNc⟩ := hv
  have hx := B.exec
  have hb := B.bytes
  have hr := B.returns
  have hts := atoms_spec (ws := wsL_box) B.pre
  have hown : s.vm.findClass RL = some mI.cls := findClass_of_methodNamed B.named
  have hlocks := B.notSynchronized
  have htab := vx_table (x := yL_box) B (hts _ List.mem_cons_self)
  have hF : bx_F g s.heap s.heap := bx_F.rf
  have hlc : bx_Lc g [] := bx_Lc.nil
  refine vx_ret ?_
  have hl := lv_entry ([.ref (ad 0 0), .int (iI k), .int (iI x), .int (iI y), .int (iI z), .int (iI dx), .int (iI dy), .int (iI dz), .ref (ad 17 0)]) (n := 10) (Nat.le_of_ble_eq_true rfl)
  rw [lg_entry_eq]
  generalize (lg_sl ([.ref (ad 0 0), .int (iI k), .int (iI x), .int (iI y), .int (iI z), .int (iI dx), .int (iI dy), .int (iI dz), .ref (ad 17 0)]) ++ List.replicate (10 - (lg_sl ([.ref (ad 0 0), .int (iI k), .int (iI x), .int (iI y), .int (iI z), .int (iI dx), .int (iI dy), .int (iI dz), .ref (ad 17 0)])).length) Slot.unset).toArray = ls at hl ⊢
  have hl : lv_has ls 10 [(0, .ref (ad 0 0)), (1, .int (iI k)), (2, .int (iI x)), (3, .int (iI y)), (4, .int (iI z)), (5, .int (iI dx)), (6, .int (iI dy)), (7, .int (iI dz)), (8, .ref (ad 17 0))] := hl
  have hRk0 : -2147483648 ≤ k ∧ k < 2147483648 := hRk
  have hRx0 : -2147483648 ≤ x ∧ x < 2147483648 := hRx
  have hRy0 : -2147483648 ≤ y ∧ y < 2147483648 := hRy
  have hRz0 : -2147483648 ≤ z ∧ z < 2147483648 := hRz
  have hRdx0 : -2147483648 ≤ dx ∧ dx < 2147483648 := hRdx
  have hRdy0 : -2147483648 ≤ dy ∧ dy < 2147483648 := hRdy
  have hRdz0 : -2147483648 ≤ dz ∧ dz < 2147483648 := hRdz
  refine lv_aload hx hb dL_box_0 (lv_at hl 8 rfl) ?_
  refine li_iconst hx hb dL_box_2 ?_
  refine lv_aload_n hx hb dL_box_3 rfl (lv_at hl 0 rfl) ?_
  refine lv_iload_n hx hb dL_box_4 rfl (lv_at hl 1 rfl) ?_
  refine lv_iload_n hx hb dL_box_5 rfl (lv_at hl 2 rfl) ?_
  refine lv_iload_n hx hb dL_box_6 rfl (lv_at hl 3 rfl) ?_
  refine lv_iload hx hb dL_box_7 (lv_at hl 4 rfl) ?_
  refine lv_iload hx hb dL_box_9 (lv_at hl 5 rfl) ?_
  refine lv_iload hx hb dL_box_11 (lv_at hl 6 rfl) ?_
  refine lv_iload hx hb dL_box_13 (lv_at hl 7 rfl) ?_
  refine bc_VH (As := [.int (iI k), .int (iI x), .int (iI y), .int (iI z), .int (iI dx), .int (iI dy), .int (iI dz)]) (rest := [.int (iI 0), .ref (ad 17 0)]) (kd := 0) (k := 0) (ci := 1) ⟨hx, hb, hml, hown, hts⟩ (c_X1_box_t l g ad σ τ w k x y z dx dy dz (by unfold iR; omega) (by unfold iR; omega) (by unfold iR; omega) (by unfold iR; omega) (by unfold iR; omega) (by unfold iR; omega) (by unfold iR; omega) hB (by omega)) (cwV 7 hts gL_box_X1_box rfl rfl rfl (by decide +kernel) ⟨Nat.le_of_ble_eq_true rfl, Nat.le_of_ble_eq_true rfl⟩) hK hU hlc (bx_L0 (by omega)) rfl rfl rfl hl.1 rfl (Nat.le_of_ble_eq_true rfl) dL_box_15 ⟨Nat.le_of_ble_eq_true rfl, Nat.le_of_ble_eq_true rfl⟩ (fun H locs hP hF1 hlc => ?_)
  have hF := hF.tr hF1
  obtain ⟨ad1, e0, hU⟩ := hP
  refine W.eq (g2 := F0 mI 18 ls [.int (iI (σ 0 0 0)), .int (iI 0), .ref (ad1 17 0)]) (by rw [e0 17 (by omega)]; rfl) ?_
  refine lv_i2l (v := (iI (σ 0 0 0)).toInt64) hx hb dL_box_18 rfl ?_
  refine bs_17 hx hb hK hU hlc dL_box_19 (fun H locs hU hF1 hlc => ?_)
  have hF := hF.tr hF1
  refine lv_goto (tgt := 31) hx hb dL_box_20 (by decide) ?_
  refine li_iconst hx hb dL_box_31 ?_
  exact bh_i hx hb hr hlocks ⟨ad1, e0, hU⟩ hF hlc rfl dL_box_32

set_option maxHeartbeats 4000000 in
set_option maxRecDepth 100000 in
theorem lh_box_f (l : Launch) (hst : l.stackTraces = false) (g : bxG) (ad : bxA) (σ τ : bxS) (w : bxW) (sa : Nat → Nat) (k x y z dx dy dz : Int) (hRk : iR k) (hRx : iR x) (hRy : iR y) (hRz : iR z) (hRdx : iR dx) (hRdy : iR dy) (hRdz : iR dz) (hB : bx_B σ) (hg : ¬ ((0 ≤ k ∧ k ≤ 7) ∧ (0 ≤ x ∧ x ≤ 1000 ∧ 1 ≤ dx ∧ dx ≤ 1000 ∧ x + dx ≤ 1000) ∧ (0 ≤ y ∧ y ≤ 1000 ∧ 1 ≤ dy ∧ dy ≤ 1000 ∧ y + dy ≤ 1000) ∧ (0 ≤ z ∧ z ≤ 1000 ∧ 1 ≤ dz ∧ dz ≤ 1000 ∧ z + dz ≤ 1000))) : vx_Met l yL_box wsL_box ({ frames := 8, cells := 1, slots := 6, locals := 138 }) (va_Pc [.ref (ad 0 0), .int (iI k), .int (iI x), .int (iI y), .int (iI z), .int (iI dx), .int (iI dy), .int (iI dz), .ref (ad 17 0)] (fun U => bt_J g ad σ τ w sa U)) (bq_H (some (.int (iI 1))) g (fun H => bx_U g ad σ τ w H)) bq_nx 1 6 (bq_fr g) := by
  refine vx_ofWH (cc := cL_box) (maxL := 10) (ret := (some .int)) (hh := [(0, 20, 23, 13), (0, 20, 27, 15)]) (by decide) rfl ?_
  intro Pg Ev s mI args below meth cd s₁ B hml hv
  obtain ⟨rfl, ⟨⟨hU, hK⟩, hT⟩, hNc⟩ := hv
  have hx := B.exec
  have hb := B.bytes
  have hr := B.returns
  have hts := atoms_spec (ws := wsL_box) B.pre
  have hown : s.vm.findClass RL = some mI.cls := findClass_of_methodNamed B.named
  have hlocks := B.notSynchronized
  have htab := vx_table (x := yL_box) B (hts _ List.mem_cons_self)
  have hF : bx_F g s.heap s.heap := bx_F.rf
  have hlc : bx_Lc g [] := bx_Lc.nil
  refine vx_ret ?_
  have hl := lv_entry ([.ref (ad 0 0), .int (iI k), .int (iI x), .int (iI y), .int (iI z), .int (iI dx), .int (iI dy), .int (iI dz), .ref (ad 17 0)]) (n := 10) (Nat.le_of_ble_eq_true rfl)
  rw [lg_entry_eq]
  generalize (lg_sl ([.ref (ad 0 0), .int (iI k), .int (iI x), .int (iI y), .int (iI z), .int (iI dx), .int (iI dy), .int (iI dz), .ref (ad 17 0)]) ++ List.replicate (10 - (lg_sl ([.ref (ad 0 0), .int (iI k), .int (iI x), .int (iI y), .int (iI z), .int (iI dx), .int (iI dy), .int (iI dz), .ref (ad 17 0)])).length) Slot.unset).toArray = ls at hl ⊢
  have hl : lv_has ls 10 [(0, .ref (ad 0 0)), (1, .int (iI k)), (2, .int (iI x)), (3, .int (iI y)), (4, .int (iI z)), (5, .int (iI dx)), (6, .int (iI dy)), (7, .int (iI dz)), (8, .ref (ad 17 0))] := hl
  have hRk0 : -2147483648 ≤ k ∧ k < 2147483648 := hRk
  have hRx0 : -2147483648 ≤ x ∧ x < 2147483648 := hRx
  have hRy0 : -2147483648 ≤ y ∧ y < 2147483648 := hRy
  have hRz0 : -2147483648 ≤ z ∧ z < 2147483648 := hRz
  have hRdx0 : -2147483648 ≤ dx ∧ dx < 2147483648 := hRdx
  have hRdy0 : -2147483648 ≤ dy ∧ dy < 2147483648 := hRdy
  have hRdz0 : -2147483648 ≤ dz ∧ dz < 2147483648 := hRdz
  refine lv_aload hx hb dL_box_0 (lv_at hl 8 rfl) ?_
  refine li_iconst hx hb dL_box_2 ?_
  refine lv_aload_n hx hb dL_box_3 rfl (lv_at hl 0 rfl) ?_
  refine lv_iload_n hx hb dL_box_4 rfl (lv_at hl 1 rfl) ?_
  refine lv_iload_n hx hb dL_box_5 rfl (lv_at hl 2 rfl) ?_
  refine lv_iload_n hx hb dL_box_6 rfl (lv_at hl 3 rfl) ?_
  refine lv_iload hx hb dL_box_7 (lv_at hl 4 rfl) ?_
  refine lv_iload hx hb dL_box_9 (lv_at hl 5 rfl) ?_
  refine lv_iload hx hb dL_box_11 (lv_at hl 6 rfl) ?_
  refine lv_iload hx hb dL_box_13 (lv_at hl 7 rfl) ?_
  refine bk_V (E0 := bt_iae) (h := 23) (As := [.int (iI k), .int (iI x), .int (iI y), .int (iI z), .int (iI dx), .int (iI dy), .int (iI dz)]) (rest := [.int (iI 0), .ref (ad 17 0)]) (kd := 0) (k := 0) (ci := 1) ⟨hx, hb, hml, hown, hts⟩ (c_X1_box_f l hst g ad σ τ w sa k x y z dx dy dz (by unfold iR; omega) (by unfold iR; omega) (by unfold iR; omega) (by unfold iR; omega) (by unfold iR; omega) (by unfold iR; omega) (by unfold iR; omega) hB (by omega)) (cwV 7 hts gL_box_X1_box rfl rfl rfl (by decide +kernel) ⟨Nat.le_of_ble_eq_true rfl, Nat.le_of_ble_eq_true rfl⟩) hK hU hT hF hlc (bx_L0 (by omega)) rfl rfl rfl hl.1 rfl (Nat.le_of_ble_eq_true rfl) dL_box_15 ⟨Nat.le_of_ble_eq_true rfl, Nat.le_of_ble_eq_true rfl⟩ (fun thrown hth pl hpl => by rw [htab]; exact bk_one hpl hown hth (by decide) (by decide) (hts (.classLink RL 13 "java/lang/IllegalArgumentException") (by decide +kernel)) (hT.args _ (by decide +kernel)) rfl) (fun qx H locs hU hF1 hlc => ?_)
  have hF := hF.tr hF1
  refine lv_astore (lv' := [(9, .ref qx), (0, .ref (ad 0 0)), (1, .int (iI k)), (2, .int (iI x)), (3, .int (iI y)), (4, .int (iI z)), (5, .int (iI dx)), (6, .int (iI dy)), (7, .int (iI dz)), (8, .ref (ad 17 0))]) hx hb dL_box_23 hl (by decide) rfl (fun ls hl => ?_)
  refine li_iconst hx hb dL_box_25 ?_
  exact bh_i hx hb hr hlocks hU hF hlc rfl dL_box_26

set_option maxHeartbeats 4000000 in
set_option maxRecDepth 100000 in
theorem lh_box_s (l : Launch) (hst : l.stackTraces = false) (g : bxG) (ad : bxA) (σ τ : bxS) (w : bxW) (sa : Nat → Nat) (k x y z dx dy dz : Int) (hRk : iR k) (hRx : iR x) (hRy : iR y) (hRz : iR z) (hRdx : iR dx) (hRdy : iR dy) (hRdz : iR dz) (hB : bx_B σ) (hg : ((0 ≤ k ∧ k ≤ 7) ∧ (0 ≤ x ∧ x ≤ 1000 ∧ 1 ≤ dx ∧ dx ≤ 1000 ∧ x + dx ≤ 1000) ∧ (0 ≤ y ∧ y ≤ 1000 ∧ 1 ≤ dy ∧ dy ≤ 1000 ∧ y + dy ≤ 1000) ∧ (0 ≤ z ∧ z ≤ 1000 ∧ 1 ≤ dz ∧ dz ≤ 1000 ∧ z + dz ≤ 1000)) ∧ ¬ σ 0 0 0 < 60) : vx_Met l yL_box wsL_box ({ frames := 8, cells := 1, slots := 6, locals := 138 }) (va_Pc [.ref (ad 0 0), .int (iI k), .int (iI x), .int (iI y), .int (iI z), .int (iI dx), .int (iI dy), .int (iI dz), .ref (ad 17 0)] (fun U => bt_J g ad σ τ w sa U)) (bq_H (some (.int (iI 2))) g (fun H => bx_U g ad σ τ w H)) bq_nx 1 6 (bq_fr g) := by
  refine vx_ofWH (cc := cL_box) (maxL := 10) (ret := (some .int)) (hh := [(0, 20, 23, 13), (0, 20, 27, 15)]) (by decide) rfl ?_
  intro Pg Ev s mI args below meth cd s₁ B hml hv
  obtain ⟨rfl, ⟨⟨hU, hK⟩, hT⟩, hNc⟩ := hv
  have hx := B.exec
  have hb := B.bytes
  have hr := B.returns
  have hts := atoms_spec (ws := wsL_box) B.pre
  have hown : s.vm.findClass RL = some mI.cls := findClass_of_methodNamed B.named
  have hlocks := B.notSynchronized
  have htab := vx_table (x := yL_box) B (hts _ List.mem_cons_self)
  have hF : bx_F g s.heap s.heap := bx_F.rf
  have hlc : bx_Lc g [] := bx_Lc.nil
  refine vx_ret ?_
  have hl := lv_entry ([.ref (ad 0 0), .int (iI k), .int (iI x), .int (iI y), .int (iI z), .int (iI dx), .int (iI dy), .int (iI dz), .ref (ad 17 0)]) (n := 10) (Nat.le_of_ble_eq_true rfl)
  rw [lg_entry_eq]
  generalize (lg_sl ([.ref (ad 0 0), .int (iI k), .int (iI x), .int (iI y), .int (iI z), .int (iI dx), .int (iI dy), .int (iI dz), .ref (ad 17 0)]) ++ List.replicate (10 - (lg_sl ([.ref (ad 0 0), .int (iI k), .int (iI x), .int (iI y), .int (iI z), .int (iI dx), .int (iI dy), .int (iI dz), .ref (ad 17 0)])).length) Slot.unset).toArray = ls at hl ⊢
  have hl : lv_has ls 10 [(0, .ref (ad 0 0)), (1, .int (iI k)), (2, .int (iI x)), (3, .int (iI y)), (4, .int (iI z)), (5, .int (iI dx)), (6, .int (iI dy)), (7, .int (iI dz)), (8, .ref (ad 17 0))] := hl
  have hRk0 : -2147483648 ≤ k ∧ k < 2147483648 := hRk
  have hRx0 : -2147483648 ≤ x ∧ x < 2147483648 := hRx
  have hRy0 : -2147483648 ≤ y ∧ y < 2147483648 := hRy
  have hRz0 : -2147483648 ≤ z ∧ z < 2147483648 := hRz
  have hRdx0 : -2147483648 ≤ dx ∧ dx < 2147483648 := hRdx
  have hRdy0 : -2147483648 ≤ dy ∧ dy < 2147483648 := hRdy
  have hRdz0 : -2147483648 ≤ dz ∧ dz < 2147483648 := hRdz
  refine lv_aload hx hb dL_box_0 (lv_at hl 8 rfl) ?_
  refine li_iconst hx hb dL_box_2 ?_
  refine lv_aload_n hx hb dL_box_3 rfl (lv_at hl 0 rfl) ?_
  refine lv_iload_n hx hb dL_box_4 rfl (lv_at hl 1 rfl) ?_
  refine lv_iload_n hx hb dL_box_5 rfl (lv_at hl 2 rfl) ?_
  refine lv_iload_n hx hb dL_box_6 rfl (lv_at hl 3 rfl) ?_
  refine lv_iload hx hb dL_box_7 (lv_at hl 4 rfl) ?_
  refine lv_iload hx hb dL_box_9 (lv_at hl 5 rfl) ?_
  refine lv_iload hx hb dL_box_11 (lv_at hl 6 rfl) ?_
  refine lv_iload hx hb dL_box_13 (lv_at hl 7 rfl) ?_
  refine bk_V (E0 := bt_ise) (h := 27) (As := [.int (iI k), .int (iI x), .int (iI y), .int (iI z), .int (iI dx), .int (iI dy), .int (iI dz)]) (rest := [.int (iI 0), .ref (ad 17 0)]) (kd := 0) (k := 0) (ci := 1) ⟨hx, hb, hml, hown, hts⟩ (c_X1_box_s l hst g ad σ τ w sa k x y z dx dy dz (by unfold iR; omega) (by unfold iR; omega) (by unfold iR; omega) (by unfold iR; omega) (by unfold iR; omega) (by unfold iR; omega) (by unfold iR; omega) hB (by omega)) (cwV 7 hts gL_box_X1_box rfl rfl rfl (by decide +kernel) ⟨Nat.le_of_ble_eq_true rfl, Nat.le_of_ble_eq_true rfl⟩) hK hU hT hF hlc (bx_L0 (by omega)) rfl rfl rfl hl.1 rfl (Nat.le_of_ble_eq_true rfl) dL_box_15 ⟨Nat.le_of_ble_eq_true rfl, Nat.le_of_ble_eq_true rfl⟩ (fun thrown hth pl hpl => by rw [htab]; exact bk_pass hpl hown hth (by decide) (by decide) (hts (.classLink RL 13 "java/lang/IllegalArgumentException") (by decide +kernel)) hNc (bk_one hpl hown hth (by decide) (by decide) (hts (.classLink RL 15 "java/lang/IllegalStateException") (by decide +kernel)) (hT.args _ (by decide +kernel)) rfl)) (fun qx H locs hU hF1 hlc => ?_)
  have hF := hF.tr hF1
  refine lv_astore (lv' := [(9, .ref qx), (0, .ref (ad 0 0)), (1, .int (iI k)), (2, .int (iI x)), (3, .int (iI y)), (4, .int (iI z)), (5, .int (iI dx)), (6, .int (iI dy)), (7, .int (iI dz)), (8, .ref (ad 17 0))]) hx hb dL_box_27 hl (by decide) rfl (fun ls hl => ?_)
  refine li_iconst hx hb dL_box_29 ?_
  exact bh_i hx hb hr hlocks hU hF hlc rfl dL_box_30

set_option maxHeartbeats 4000000 in
set_option maxRecDepth 100000 in
theorem lh_tube_t (l : Launch) (g : bxG) (ad : bxA) (σ τ : bxS) (w : bxW) (sa : Nat → Nat) (k a f n u v r : Int) (hRk : iR k) (hRa : iR a) (hRf : iR f) (hRn : iR n) (hRu : iR u) (hRv : iR v) (hRr : iR r) (hB : bx_B σ) (hg : ((0 ≤ k ∧ k ≤ 7) ∧ (0 ≤ a ∧ a ≤ 2) ∧ (0 ≤ f ∧ f ≤ 1000 ∧ 1 ≤ n ∧ n ≤ 1000 ∧ f + n ≤ 1000) ∧ (0 ≤ u ∧ u ≤ 1000) ∧ (0 ≤ v ∧ v ≤ 1000) ∧ 1 ≤ r ∧ r ≤ 200) ∧ σ 0 0 0 < 60) : vx_Met l yL_tube wsL_tube ({ frames := 8, cells := 3, slots := 12, locals := 140 }) (va_Pc [.ref (ad 0 0), .int (iI k), .int (iI a), .int (iI f), .int (iI n), .int (iI u), .int (iI v), .int (iI r), .ref (ad 17 0)] (fun U => bt_J g ad σ τ w sa U)) (bq_H (some (.int (iI 0))) g (fun H => ∃ ad1, adS ad ad1 ∧ bx_U g ad1 (tubC σ k a f n u v r) τ ((iI (σ 0 0 0)).toInt64, w.2) H)) bq_nx 3 12 (bq_fr g) := by
  refine vx_ofWH (cc := cL_tube) (maxL := 10) (ret := (some .int)) (hh := [(0, 20, 23, 13), (0, 20, 27, 15)]) (by decide) rfl ?_
  intro Pg Ev s mI args below meth cd s₁ B hml hv
  obtain ⟨rfl, ⟨⟨hU, hK⟩, hT⟩, hNc⟩ := hv
  have hx := B.exec
  have hb := B.bytes
  have hr := B.returns
  have hts := atoms_spec (ws := wsL_tube) B.pre
  have hown : s.vm.findClass RL = some mI.cls := findClass_of_methodNamed B.named
  have hlocks := B.notSynchronized
  have htab := vx_table (x := yL_tube) B (hts _ List.mem_cons_self)
  have hF : bx_F g s.heap s.heap := bx_F.rf
  have hlc : bx_Lc g [] := bx_Lc.nil
  refine vx_ret ?_
  have hl := lv_entry ([.ref (ad 0 0), .int (iI k), .int (iI a), .int (iI f), .int (iI n), .int (iI u), .int (iI v), .int (iI r), .ref (ad 17 0)]) (n := 10) (Nat.le_of_ble_eq_true rfl)
  rw [lg_entry_eq]
  generalize (lg_sl ([.ref (ad 0 0), .int (iI k), .int (iI a), .int (iI f), .int (iI n), .int (iI u), .int (iI v), .int (iI r), .ref (ad 17 0)]) ++ List.replicate (10 - (lg_sl ([.ref (ad 0 0), .int (iI k), .int (iI a), .int (iI f), .int (iI n), .int (iI u), .int (iI v), .int (iI r), .ref (ad 17 0)])).length) Slot.unset).toArray = ls at hl ⊢
  have hl : lv_has ls 10 [(0, .ref (ad 0 0)), (1, .int (iI k)), (2, .int (iI a)), (3, .int (iI f)), (4, .int (iI n)), (5, .int (iI u)), (6, .int (iI v)), (7, .int (iI r)), (8, .ref (ad 17 0))] := hl
  have hRk0 : -2147483648 ≤ k ∧ k < 2147483648 := hRk
  have hRa0 : -2147483648 ≤ a ∧ a < 2147483648 := hRa
  have hRf0 : -2147483648 ≤ f ∧ f < 2147483648 := hRf
  have hRn0 : -2147483648 ≤ n ∧ n < 2147483648 := hRn
  have hRu0 : -2147483648 ≤ u ∧ u < 2147483648 := hRu
  have hRv0 : -2147483648 ≤ v ∧ v < 2147483648 := hRv
  have hRr0 : -2147483648 ≤ r ∧ r < 2147483648 := hRr
  refine lv_aload hx hb dL_tube_0 (lv_at hl 8 rfl) ?_
  refine li_iconst hx hb dL_tube_2 ?_
  refine lv_aload_n hx hb dL_tube_3 rfl (lv_at hl 0 rfl) ?_
  refine lv_iload_n hx hb dL_tube_4 rfl (lv_at hl 1 rfl) ?_
  refine lv_iload_n hx hb dL_tube_5 rfl (lv_at hl 2 rfl) ?_
  refine lv_iload_n hx hb dL_tube_6 rfl (lv_at hl 3 rfl) ?_
  refine lv_iload hx hb dL_tube_7 (lv_at hl 4 rfl) ?_
  refine lv_iload hx hb dL_tube_9 (lv_at hl 5 rfl) ?_
  refine lv_iload hx hb dL_tube_11 (lv_at hl 6 rfl) ?_
  refine lv_iload hx hb dL_tube_13 (lv_at hl 7 rfl) ?_
  refine bc_VH (As := [.int (iI k), .int (iI a), .int (iI f), .int (iI n), .int (iI u), .int (iI v), .int (iI r)]) (rest := [.int (iI 0), .ref (ad 17 0)]) (kd := 0) (k := 0) (ci := 1) ⟨hx, hb, hml, hown, hts⟩ (c_X1_tube_t l g ad σ τ w k a f n u v r (by unfold iR; omega) (by unfold iR; omega) (by unfold iR; omega) (by unfold iR; omega) (by unfold iR; omega) (by unfold iR; omega) (by unfold iR; omega) hB (by omega)) (cwV 7 hts gL_tube_X1_tube rfl rfl rfl (by decide +kernel) ⟨Nat.le_of_ble_eq_true rfl, Nat.le_of_ble_eq_true rfl⟩) hK hU hlc (bx_L0 (by omega)) rfl rfl rfl hl.1 rfl (Nat.le_of_ble_eq_true rfl) dL_tube_15 ⟨Nat.le_of_ble_eq_true rfl, Nat.le_of_ble_eq_true rfl⟩ (fun H locs hP hF1 hlc => ?_)
  have hF := hF.tr hF1
  obtain ⟨ad1, e0, hU⟩ := hP
  refine W.eq (g2 := F0 mI 18 ls [.int (iI (σ 0 0 0)), .int (iI 0), .ref (ad1 17 0)]) (by rw [e0 17 (by omega)]; rfl) ?_
  refine lv_i2l (v := (iI (σ 0 0 0)).toInt64) hx hb dL_tube_18 rfl ?_
  refine bs_17 hx hb hK hU hlc dL_tube_19 (fun H locs hU hF1 hlc => ?_)
  have hF := hF.tr hF1
  refine lv_goto (tgt := 31) hx hb dL_tube_20 (by decide) ?_
  refine li_iconst hx hb dL_tube_31 ?_
  exact bh_i hx hb hr hlocks ⟨ad1, e0, hU⟩ hF hlc rfl dL_tube_32

set_option maxHeartbeats 4000000 in
set_option maxRecDepth 100000 in
theorem lh_tube_f (l : Launch) (hst : l.stackTraces = false) (g : bxG) (ad : bxA) (σ τ : bxS) (w : bxW) (sa : Nat → Nat) (k a f n u v r : Int) (hRk : iR k) (hRa : iR a) (hRf : iR f) (hRn : iR n) (hRu : iR u) (hRv : iR v) (hRr : iR r) (hB : bx_B σ) (hg : ¬ ((0 ≤ k ∧ k ≤ 7) ∧ (0 ≤ a ∧ a ≤ 2) ∧ (0 ≤ f ∧ f ≤ 1000 ∧ 1 ≤ n ∧ n ≤ 1000 ∧ f + n ≤ 1000) ∧ (0 ≤ u ∧ u ≤ 1000) ∧ (0 ≤ v ∧ v ≤ 1000) ∧ 1 ≤ r ∧ r ≤ 200)) : vx_Met l yL_tube wsL_tube ({ frames := 8, cells := 1, slots := 6, locals := 140 }) (va_Pc [.ref (ad 0 0), .int (iI k), .int (iI a), .int (iI f), .int (iI n), .int (iI u), .int (iI v), .int (iI r), .ref (ad 17 0)] (fun U => bt_J g ad σ τ w sa U)) (bq_H (some (.int (iI 1))) g (fun H => bx_U g ad σ τ w H)) bq_nx 1 6 (bq_fr g) := by
  refine vx_ofWH (cc := cL_tube) (maxL := 10) (ret := (some .int)) (hh := [(0, 20, 23, 13), (0, 20, 27, 15)]) (by decide) rfl ?_
  intro Pg Ev s mI args below meth cd s₁ B hml hv
  obtain ⟨rfl, ⟨⟨hU, hK⟩, hT⟩, hNc⟩ := hv
  have hx := B.exec
  have hb := B.bytes
  have hr := B.returns
  have hts := atoms_spec (ws := wsL_tube) B.pre
  have hown : s.vm.findClass RL = some mI.cls := findClass_of_methodNamed B.named
  have hlocks := B.notSynchronized
  have htab := vx_table (x := yL_tube) B (hts _ List.mem_cons_self)
  have hF : bx_F g s.heap s.heap := bx_F.rf
  have hlc : bx_Lc g [] := bx_Lc.nil
  refine vx_ret ?_
  have hl := lv_entry ([.ref (ad 0 0), .int (iI k), .int (iI a), .int (iI f), .int (iI n), .int (iI u), .int (iI v), .int (iI r), .ref (ad 17 0)]) (n := 10) (Nat.le_of_ble_eq_true rfl)
  rw [lg_entry_eq]
  generalize (lg_sl ([.ref (ad 0 0), .int (iI k), .int (iI a), .int (iI f), .int (iI n), .int (iI u), .int (iI v), .int (iI r), .ref (ad 17 0)]) ++ List.replicate (10 - (lg_sl ([.ref (ad 0 0), .int (iI k), .int (iI a), .int (iI f), .int (iI n), .int (iI u), .int (iI v), .int (iI r), .ref (ad 17 0)])).length) Slot.unset).toArray = ls at hl ⊢
  have hl : lv_has ls 10 [(0, .ref (ad 0 0)), (1, .int (iI k)), (2, .int (iI a)), (3, .int (iI f)), (4, .int (iI n)), (5, .int (iI u)), (6, .int (iI v)), (7, .int (iI r)), (8, .ref (ad 17 0))] := hl
  have hRk0 : -2147483648 ≤ k ∧ k < 2147483648 := hRk
  have hRa0 : -2147483648 ≤ a ∧ a < 2147483648 := hRa
  have hRf0 : -2147483648 ≤ f ∧ f < 2147483648 := hRf
  have hRn0 : -2147483648 ≤ n ∧ n < 2147483648 := hRn
  have hRu0 : -2147483648 ≤ u ∧ u < 2147483648 := hRu
  have hRv0 : -2147483648 ≤ v ∧ v < 2147483648 := hRv
  have hRr0 : -2147483648 ≤ r ∧ r < 2147483648 := hRr
  refine lv_aload hx hb dL_tube_0 (lv_at hl 8 rfl) ?_
  refine li_iconst hx hb dL_tube_2 ?_
  refine lv_aload_n hx hb dL_tube_3 rfl (lv_at hl 0 rfl) ?_
  refine lv_iload_n hx hb dL_tube_4 rfl (lv_at hl 1 rfl) ?_
  refine lv_iload_n hx hb dL_tube_5 rfl (lv_at hl 2 rfl) ?_
  refine lv_iload_n hx hb dL_tube_6 rfl (lv_at hl 3 rfl) ?_
  refine lv_iload hx hb dL_tube_7 (lv_at hl 4 rfl) ?_
  refine lv_iload hx hb dL_tube_9 (lv_at hl 5 rfl) ?_
  refine lv_iload hx hb dL_tube_11 (lv_at hl 6 rfl) ?_
  refine lv_iload hx hb dL_tube_13 (lv_at hl 7 rfl) ?_
  refine bk_V (E0 := bt_iae) (h := 23) (As := [.int (iI k), .int (iI a), .int (iI f), .int (iI n), .int (iI u), .int (iI v), .int (iI r)]) (rest := [.int (iI 0), .ref (ad 17 0)]) (kd := 0) (k := 0) (ci := 1) ⟨hx, hb, hml, hown, hts⟩ (c_X1_tube_f l hst g ad σ τ w sa k a f n u v r (by unfold iR; omega) (by unfold iR; omega) (by unfold iR; omega) (by unfold iR; omega) (by unfold iR; omega) (by unfold iR; omega) (by unfold iR; omega) hB (by omega)) (cwV 7 hts gL_tube_X1_tube rfl rfl rfl (by decide +kernel) ⟨Nat.le_of_ble_eq_true rfl, Nat.le_of_ble_eq_true rfl⟩) hK hU hT hF hlc (bx_L0 (by omega)) rfl rfl rfl hl.1 rfl (Nat.le_of_ble_eq_true rfl) dL_tube_15 ⟨Nat.le_of_ble_eq_true rfl, Nat.le_of_ble_eq_true rfl⟩ (fun thrown hth pl hpl => by rw [htab]; exact bk_one hpl hown hth (by decide) (by decide) (hts (.classLink RL 13 "java/lang/IllegalArgumentException") (by decide +kernel)) (hT.args _ (by decide +kernel)) rfl) (fun qx H locs hU hF1 hlc => ?_)
  have hF := hF.tr hF1
  refine lv_astore (lv' := [(9, .ref qx), (0, .ref (ad 0 0)), (1, .int (iI k)), (2, .int (iI a)), (3, .int (iI f)), (4, .int (iI n)), (5, .int (iI u)), (6, .int (iI v)), (7, .int (iI r)), (8, .ref (ad 17 0))]) hx hb dL_tube_23 hl (by decide) rfl (fun ls hl => ?_)
  refine li_iconst hx hb dL_tube_25 ?_
  exact bh_i hx hb hr hlocks hU hF hlc rfl dL_tube_26

set_option maxHeartbeats 4000000 in
set_option maxRecDepth 100000 in
theorem lh_tube_s (l : Launch) (hst : l.stackTraces = false) (g : bxG) (ad : bxA) (σ τ : bxS) (w : bxW) (sa : Nat → Nat) (k a f n u v r : Int) (hRk : iR k) (hRa : iR a) (hRf : iR f) (hRn : iR n) (hRu : iR u) (hRv : iR v) (hRr : iR r) (hB : bx_B σ) (hg : ((0 ≤ k ∧ k ≤ 7) ∧ (0 ≤ a ∧ a ≤ 2) ∧ (0 ≤ f ∧ f ≤ 1000 ∧ 1 ≤ n ∧ n ≤ 1000 ∧ f + n ≤ 1000) ∧ (0 ≤ u ∧ u ≤ 1000) ∧ (0 ≤ v ∧ v ≤ 1000) ∧ 1 ≤ r ∧ r ≤ 200) ∧ ¬ σ 0 0 0 < 60) : vx_Met l yL_tube wsL_tube ({ frames := 8, cells := 1, slots := 6, locals := 140 }) (va_Pc [.ref (ad 0 0), .int (iI k), .int (iI a), .int (iI f), .int (iI n), .int (iI u), .int (iI v), .int (iI r), .ref (ad 17 0)] (fun U => bt_J g ad σ τ w sa U)) (bq_H (some (.int (iI 2))) g (fun H => bx_U g ad σ τ w H)) bq_nx 1 6 (bq_fr g) := by
  refine vx_ofWH (cc := cL_tube) (maxL := 10) (ret := (some .int)) (hh := [(0, 20, 23, 13), (0, 20, 27, 15)]) (by decide) rfl ?_
  intro Pg Ev s mI args below meth cd s₁ B hml hv
  obtain ⟨rfl, ⟨⟨hU, hK⟩, hT⟩, hNc⟩ := hv
  have hx := B.exec
  have hb := B.bytes
  have hr := B.returns
  have hts := atoms_spec (ws := wsL_tube) B.pre
  have hown : s.vm.findClass RL = some mI.cls := findClass_of_methodNamed B.named
  have hlocks := B.notSynchronized
  have htab := vx_table (x := yL_tube) B (hts _ List.mem_cons_self)
  have hF : bx_F g s.heap s.heap := bx_F.rf
  have hlc : bx_Lc g [] := bx_Lc.nil
  refine vx_ret ?_
  have hl := lv_entry ([.ref (ad 0 0), .int (iI k), .int (iI a), .int (iI f), .int (iI n), .int (iI u), .int (iI v), .int (iI r), .ref (ad 17 0)]) (n := 10) (Nat.le_of_ble_eq_true rfl)
  rw [lg_entry_eq]
  generalize (lg_sl ([.ref (ad 0 0), .int (iI k), .int (iI a), .int (iI f), .int (iI n), .int (iI u), .int (iI v), .int (iI r), .ref (ad 17 0)]) ++ List.replicate (10 - (lg_sl ([.ref (ad 0 0), .int (iI k), .int (iI a), .int (iI f), .int (iI n), .int (iI u), .int (iI v), .int (iI r), .ref (ad 17 0)])).length) Slot.unset).toArray = ls at hl ⊢
  have hl : lv_has ls 10 [(0, .ref (ad 0 0)), (1, .int (iI k)), (2, .int (iI a)), (3, .int (iI f)), (4, .int (iI n)), (5, .int (iI u)), (6, .int (iI v)), (7, .int (iI r)), (8, .ref (ad 17 0))] := hl
  have hRk0 : -2147483648 ≤ k ∧ k < 2147483648 := hRk
  have hRa0 : -2147483648 ≤ a ∧ a < 2147483648 := hRa
  have hRf0 : -2147483648 ≤ f ∧ f < 2147483648 := hRf
  have hRn0 : -2147483648 ≤ n ∧ n < 2147483648 := hRn
  have hRu0 : -2147483648 ≤ u ∧ u < 2147483648 := hRu
  have hRv0 : -2147483648 ≤ v ∧ v < 2147483648 := hRv
  have hRr0 : -2147483648 ≤ r ∧ r < 2147483648 := hRr
  refine lv_aload hx hb dL_tube_0 (lv_at hl 8 rfl) ?_
  refine li_iconst hx hb dL_tube_2 ?_
  refine lv_aload_n hx hb dL_tube_3 rfl (lv_at hl 0 rfl) ?_
  refine lv_iload_n hx hb dL_tube_4 rfl (lv_at hl 1 rfl) ?_
  refine lv_iload_n hx hb dL_tube_5 rfl (lv_at hl 2 rfl) ?_
  refine lv_iload_n hx hb dL_tube_6 rfl (lv_at hl 3 rfl) ?_
  refine lv_iload hx hb dL_tube_7 (lv_at hl 4 rfl) ?_
  refine lv_iload hx hb dL_tube_9 (lv_at hl 5 rfl) ?_
  refine lv_iload hx hb dL_tube_11 (lv_at hl 6 rfl) ?_
  refine lv_iload hx hb dL_tube_13 (lv_at hl 7 rfl) ?_
  refine bk_V (E0 := bt_ise) (h := 27) (As := [.int (iI k), .int (iI a), .int (iI f), .int (iI n), .int (iI u), .int (iI v), .int (iI r)]) (rest := [.int (iI 0), .ref (ad 17 0)]) (kd := 0) (k := 0) (ci := 1) ⟨hx, hb, hml, hown, hts⟩ (c_X1_tube_s l hst g ad σ τ w sa k a f n u v r (by unfold iR; omega) (by unfold iR; omega) (by unfold iR; omega) (by unfold iR; omega) (by unfold iR; omega) (by unfold iR; omega) (by unfold iR; omega) hB (by omega)) (cwV 7 hts gL_tube_X1_tube rfl rfl rfl (by decide +kernel) ⟨Nat.le_of_ble_eq_true rfl, Nat.le_of_ble_eq_true rfl⟩) hK hU hT hF hlc (bx_L0 (by omega)) rfl rfl rfl hl.1 rfl (Nat.le_of_ble_eq_true rfl) dL_tube_15 ⟨Nat.le_of_ble_eq_true rfl, Nat.le_of_ble_eq_true rfl⟩ (fun thrown hth pl hpl => by rw [htab]; exact bk_pass hpl hown hth (by decide) (by decide) (hts (.classLink RL 13 "java/lang/IllegalArgumentException") (by decide +kernel)) hNc (bk_one hpl hown hth (by decide) (by decide) (hts (.classLink RL 15 "java/lang/IllegalStateException") (by decide +kernel)) (hT.args _ (by decide +kernel)) rfl)) (fun qx H locs hU hF1 hlc => ?_)
  have hF := hF.tr hF1
  refine lv_astore (lv' := [(9, .ref qx), (0, .ref (ad 0 0)), (1, .int (iI k)), (2, .int (iI a)), (3, .int (iI f)), (4, .int (iI n)), (5, .int (iI u)), (6, .int (iI v)), (7, .int (iI r)), (8, .ref (ad 17 0))]) hx hb dL_tube_27 hl (by decide) rfl (fun ls hl => ?_)
  refine li_iconst hx hb dL_tube_29 ?_
  exact bh_i hx hb hr hlocks hU hF hlc rfl dL_tube_30

set_option maxHeartbeats 4000000 in
set_option maxRecDepth 100000 in
theorem lh_margin_t (l : Launch) (g : bxG) (ad : bxA) (σ τ : bxS) (w : bxW) (sa : Nat → Nat) (p z : Int) (hRp : iR p) (hRz : iR z) (hB : bx_B σ) (hg : (0 ≤ p ∧ p < 60 ∧ σ 2 p 0 ≠ 0) ∧ 0 ≤ z ∧ z ≤ 50) : vx_Met l yL_margin wsL_margin ({ frames := 8, cells := 0, slots := 0, locals := 136 }) (va_Pc [.ref (ad 0 0), .int (iI p), .int (iI z), .ref (ad 17 0)] (fun U => bt_J g ad σ τ w sa U)) (bq_H (some (.int (iI 0))) g (fun H => bx_U g ad (up3 σ 4 p 0 z) τ ((iI (σ 4 p 0)).toInt64, w.2) H)) bq_nx 0 0 (bq_fr g) := by
  refine vx_ofWH (cc := cL_margin) (maxL := 5) (ret := (some .int)) (hh := [(0, 10, 13, 13)]) (by decide) rfl ?_
  intro Pg Ev s mI args below meth cd s₁ B hml hv
  obtain ⟨rfl, ⟨⟨hU, hK⟩, hT⟩, hNc⟩ := hv
  have hx := B.exec
  have hb := B.bytes
  have hr := B.returns
  have hts := atoms_spec (ws := wsL_margin) B.pre
  have hown : s.vm.findClass RL = some mI.cls := findClass_of_methodNamed B.named
  have hlocks := B.notSynchronized
  have htab := vx_table (x := yL_margin) B (hts _ List.mem_cons_self)
  have hF : bx_F g s.heap s.heap := bx_F.rf
  have hlc : bx_Lc g [] := bx_Lc.nil
  refine vx_ret ?_
  have hl := lv_entry ([.ref (ad 0 0), .int (iI p), .int (iI z), .ref (ad 17 0)]) (n := 5) (Nat.le_of_ble_eq_true rfl)
  rw [lg_entry_eq]
  generalize (lg_sl ([.ref (ad 0 0), .int (iI p), .int (iI z), .ref (ad 17 0)]) ++ List.replicate (5 - (lg_sl ([.ref (ad 0 0), .int (iI p), .int (iI z), .ref (ad 17 0)])).length) Slot.unset).toArray = ls at hl ⊢
  have hl : lv_has ls 5 [(0, .ref (ad 0 0)), (1, .int (iI p)), (2, .int (iI z)), (3, .ref (ad 17 0))] := hl
  have hRp0 : -2147483648 ≤ p ∧ p < 2147483648 := hRp
  have hRz0 : -2147483648 ≤ z ∧ z < 2147483648 := hRz
  refine lv_aload_n hx hb dL_margin_0 rfl (lv_at hl 3 rfl) ?_
  refine li_iconst hx hb dL_margin_1 ?_
  refine lv_aload_n hx hb dL_margin_2 rfl (lv_at hl 0 rfl) ?_
  refine lv_iload_n hx hb dL_margin_3 rfl (lv_at hl 1 rfl) ?_
  refine lv_iload_n hx hb dL_margin_4 rfl (lv_at hl 2 rfl) ?_
  refine bc_VW (As := [.int (iI p), .int (iI z)]) (rest := [.int (iI 0), .ref (ad 17 0)]) (kd := 0) (k := 0) (ci := 1) ⟨hx, hb, hml, hown, hts⟩ (c_X1_margin_t l g ad σ τ w p z (by unfold iR; omega) (by unfold iR; omega) hB (by omega)) (cwV 2 hts gL_margin_X1_margin rfl rfl rfl (by decide +kernel) ⟨Nat.le_of_ble_eq_true rfl, Nat.le_of_ble_eq_true rfl⟩) hK hU hlc (bx_L0 (by omega)) rfl rfl rfl hl.1 rfl (Nat.le_of_ble_eq_true rfl) dL_margin_5 ⟨Nat.le_of_ble_eq_true rfl, Nat.le_of_ble_eq_true rfl⟩ (fun H locs hU hF1 hlc => ?_)
  have hF := hF.tr hF1
  refine lv_i2l (v := (iI (σ 4 p 0)).toInt64) hx hb dL_margin_8 rfl ?_
  refine bs_17 hx hb hK hU hlc dL_margin_9 (fun H locs hU hF1 hlc => ?_)
  have hF := hF.tr hF1
  refine lv_goto (tgt := 17) hx hb dL_margin_10 (by decide) ?_
  refine li_iconst hx hb dL_margin_17 ?_
  exact bh_i hx hb hr hlocks hU hF hlc rfl dL_margin_18

set_option maxHeartbeats 4000000 in
set_option maxRecDepth 100000 in
theorem lh_margin_f (l : Launch) (hst : l.stackTraces = false) (g : bxG) (ad : bxA) (σ τ : bxS) (w : bxW) (sa : Nat → Nat) (p z : Int) (hRp : iR p) (hRz : iR z) (hB : bx_B σ) (hg : ¬ ((0 ≤ p ∧ p < 60 ∧ σ 2 p 0 ≠ 0) ∧ 0 ≤ z ∧ z ≤ 50)) : vx_Met l yL_margin wsL_margin ({ frames := 8, cells := 1, slots := 6, locals := 136 }) (va_Pc [.ref (ad 0 0), .int (iI p), .int (iI z), .ref (ad 17 0)] (fun U => bt_J g ad σ τ w sa U)) (bq_H (some (.int (iI 1))) g (fun H => bx_U g ad σ τ w H)) bq_nx 1 6 (bq_fr g) := by
  refine vx_ofWH (cc := cL_margin) (maxL := 5) (ret := (some .int)) (hh := [(0, 10, 13, 13)]) (by decide) rfl ?_
  intro Pg Ev s mI args below meth cd s₁ B hml hv
  obtain ⟨rfl, ⟨⟨hU, hK⟩, hT⟩, hNc⟩ := hv
  have hx := B.exec
  have hb := B.bytes
  have hr := B.returns
  have hts := atoms_spec (ws := wsL_margin) B.pre
  have hown : s.vm.findClass RL = some mI.cls := findClass_of_methodNamed B.named
  have hlocks := B.notSynchronized
  have htab := vx_table (x := yL_margin) B (hts _ List.mem_cons_self)
  have hF : bx_F g s.heap s.heap := bx_F.rf
  have hlc : bx_Lc g [] := bx_Lc.nil
  refine vx_ret ?_
  have hl := lv_entry ([.ref (ad 0 0), .int (iI p), .int (iI z), .ref (ad 17 0)]) (n := 5) (Nat.le_of_ble_eq_true rfl)
  rw [lg_entry_eq]
  generalize (lg_sl ([.ref (ad 0 0), .int (iI p), .int (iI z), .ref (ad 17 0)]) ++ List.replicate (5 - (lg_sl ([.ref (ad 0 0), .int (iI p), .int (iI z), .ref (ad 17 0)])).length) Slot.unset).toArray = ls at hl ⊢
  have hl : lv_has ls 5 [(0, .ref (ad 0 0)), (1, .int (iI p)), (2, .int (iI z)), (3, .ref (ad 17 0))] := hl
  have hRp0 : -2147483648 ≤ p ∧ p < 2147483648 := hRp
  have hRz0 : -2147483648 ≤ z ∧ z < 2147483648 := hRz
  refine lv_aload_n hx hb dL_margin_0 rfl (lv_at hl 3 rfl) ?_
  refine li_iconst hx hb dL_margin_1 ?_
  refine lv_aload_n hx hb dL_margin_2 rfl (lv_at hl 0 rfl) ?_
  refine lv_iload_n hx hb dL_margin_3 rfl (lv_at hl 1 rfl) ?_
  refine lv_iload_n hx hb dL_margin_4 rfl (lv_at hl 2 rfl) ?_
  refine bk_V (E0 := bt_iae) (h := 13) (As := [.int (iI p), .int (iI z)]) (rest := [.int (iI 0), .ref (ad 17 0)]) (kd := 0) (k := 0) (ci := 1) ⟨hx, hb, hml, hown, hts⟩ (c_X1_margin_f l hst g ad σ τ w sa p z (by unfold iR; omega) (by unfold iR; omega) hB (by omega)) (cwV 2 hts gL_margin_X1_margin rfl rfl rfl (by decide +kernel) ⟨Nat.le_of_ble_eq_true rfl, Nat.le_of_ble_eq_true rfl⟩) hK hU hT hF hlc (bx_L0 (by omega)) rfl rfl rfl hl.1 rfl (Nat.le_of_ble_eq_true rfl) dL_margin_5 ⟨Nat.le_of_ble_eq_true rfl, Nat.le_of_ble_eq_true rfl⟩ (fun thrown hth pl hpl => by rw [htab]; exact bk_one hpl hown hth (by decide) (by decide) (hts (.classLink RL 13 "java/lang/IllegalArgumentException") (by decide +kernel)) (hT.args _ (by decide +kernel)) rfl) (fun qx H locs hU hF1 hlc => ?_)
  have hF := hF.tr hF1
  refine lv_astore (lv' := [(4, .ref qx), (0, .ref (ad 0 0)), (1, .int (iI p)), (2, .int (iI z)), (3, .ref (ad 17 0))]) hx hb dL_margin_13 hl (by decide) rfl (fun ls hl => ?_)
  refine li_iconst hx hb dL_margin_15 ?_
  exact bh_i hx hb hr hlocks hU hF hlc rfl dL_margin_16

set_option maxHeartbeats 4000000 in
set_option maxRecDepth 100000 in
theorem lh_free_t (l : Launch) (g : bxG) (ad : bxA) (σ τ : bxS) (w : bxW) (sa : Nat → Nat) (a b z : Int) (hRa : iR a) (hRb : iR b) (hz : z = 0 ∨ z = 1) (hB : bx_B σ) (hg : (0 ≤ a ∧ a ≤ 7) ∧ 0 ≤ b ∧ b ≤ 7) : vx_Met l yL_free wsL_free ({ frames := 8, cells := 0, slots := 0, locals := 134 }) (va_Pc [.ref (ad 0 0), .int (iI a), .int (iI b), .int (iI z), .ref (ad 17 0)] (fun U => bt_J g ad σ τ w sa U)) (bq_H (some (.int (iI 0))) g (fun H => bx_U g ad (up3 (up3 σ 9 (a * 8 + b) 0 z) 9 (b * 8 + a) 0 z) τ ((lB (zB (σ 9 (a * 8 + b) 0 ≠ 0))), w.2) H)) bq_nx 0 0 (bq_fr g) := by
  refine vx_ofWH (cc := cL_free) (maxL := 6) (ret := (some .int)) (hh := [(0, 19, 22, 13)]) (by decide) rfl ?_
  intro Pg Ev s mI args below meth cd s₁ B hml hv
  obtain ⟨rfl, ⟨⟨hU, hK⟩, hT⟩, hNc⟩ := hv
  have hx := B.exec
  have hb := B.bytes
  have hr := B.returns
  have hts := atoms_spec (ws := wsL_free) B.pre
  have hown : s.vm.findClass RL = some mI.cls := findClass_of_methodNamed B.named
  have hlocks := B.notSynchronized
  have htab := vx_table (x := yL_free) B (hts _ List.mem_cons_self)
  have hF : bx_F g s.heap s.heap := bx_F.rf
  have hlc : bx_Lc g [] := bx_Lc.nil
  refine vx_ret ?_
  have hl := lv_entry ([.ref (ad 0 0), .int (iI a), .int (iI b), .int (iI z), .ref (ad 17 0)]) (n := 6) (Nat.le_of_ble_eq_true rfl)
  rw [lg_entry_eq]
  generalize (lg_sl ([.ref (ad 0 0), .int (iI a), .int (iI b), .int (iI z), .ref (ad 17 0)]) ++ List.replicate (6 - (lg_sl ([.ref (ad 0 0), .int (iI a), .int (iI b), .int (iI z), .ref (ad 17 0)])).length) Slot.unset).toArray = ls at hl ⊢
  have hl : lv_has ls 6 [(0, .ref (ad 0 0)), (1, .int (iI a)), (2, .int (iI b)), (3, .int (iI z)), (4, .ref (ad 17 0))] := hl
  have hRa0 : -2147483648 ≤ a ∧ a < 2147483648 := hRa
  have hRb0 : -2147483648 ≤ b ∧ b < 2147483648 := hRb
  refine lv_aload hx hb dL_free_0 (lv_at hl 4 rfl) ?_
  refine li_iconst hx hb dL_free_2 ?_
  refine lv_aload_n hx hb dL_free_3 rfl (lv_at hl 0 rfl) ?_
  refine lv_iload_n hx hb dL_free_4 rfl (lv_at hl 1 rfl) ?_
  refine lv_iload_n hx hb dL_free_5 rfl (lv_at hl 2 rfl) ?_
  refine lv_iload_n hx hb dL_free_6 rfl (lv_at hl 3 rfl) ?_
  refine bc_VW (As := [.int (iI a), .int (iI b), .int (iI z)]) (rest := [.int (iI 0), .ref (ad 17 0)]) (kd := 0) (k := 0) (ci := 1) ⟨hx, hb, hml, hown, hts⟩ (c_X1_free_t l g ad σ τ w a b z (by unfold iR; omega) (by unfold iR; omega) (by omega) hB (by omega)) (cwV 3 hts gL_free_X1_free rfl rfl rfl (by decide +kernel) ⟨Nat.le_of_ble_eq_true rfl, Nat.le_of_ble_eq_true rfl⟩) hK hU hlc (bx_L0 (by omega)) rfl rfl rfl hl.1 rfl (Nat.le_of_ble_eq_true rfl) dL_free_7 ⟨Nat.le_of_ble_eq_true rfl, Nat.le_of_ble_eq_true rfl⟩ (fun H locs hU hF1 hlc => ?_)
  have hF := hF.tr hF1
  have h1 := zB_01 (σ 9 (a * 8 + b) 0 ≠ 0)
  refine li_if_eq (tgt := 17) hx hb (by unfold iR; omega) dL_free_10 (by decide) (fun h2 => ?_) (fun h2 => ?_)
  · refine lv_lconst (v := 0) hx hb dL_free_17 (by decide) ?_
    refine bs_17 hx hb hK hU hlc dL_free_18 (fun H locs hU hF1 hlc => ?_)
    have hF := hF.tr hF1
    refine lv_goto (tgt := 26) hx hb dL_free_19 (by decide) ?_
    refine li_iconst hx hb dL_free_26 ?_
    exact bh_i hx hb hr hlocks (by rw [show lB (zB (σ 9 (a * 8 + b) 0 ≠ 0)) = _ from if_pos h2]; exact hU) hF hlc rfl dL_free_27
  · refine lv_lconst (v := 1) hx hb dL_free_13 (by decide) ?_
    refine lv_goto (tgt := 18) hx hb dL_free_14 (by decide) ?_
    refine bs_17 hx hb hK hU hlc dL_free_18 (fun H locs hU hF1 hlc => ?_)
    have hF := hF.tr hF1
    refine lv_goto (tgt := 26) hx hb dL_free_19 (by decide) ?_
    refine li_iconst hx hb dL_free_26 ?_
    exact bh_i hx hb hr hlocks (by rw [show lB (zB (σ 9 (a * 8 + b) 0 ≠ 0)) = _ from if_neg h2]; exact hU) hF hlc rfl dL_free_27

set_option maxHeartbeats 4000000 in
set_option maxRecDepth 100000 in
theorem lh_free_f (l : Launch) (hst : l.stackTraces = false) (g : bxG) (ad : bxA) (σ τ : bxS) (w : bxW) (sa : Nat → Nat) (a b z : Int) (hRa : iR a) (hRb : iR b) (hz : z = 0 ∨ z = 1) (hB : bx_B σ) (hg : ¬ ((0 ≤ a ∧ a ≤ 7) ∧ 0 ≤ b ∧ b ≤ 7)) : vx_Met l yL_free wsL_free ({ frames := 8, cells := 1, slots := 6, locals := 134 }) (va_Pc [.ref (ad 0 0), .int (iI a), .int (iI b), .int (iI z), .ref (ad 17 0)] (fun U => bt_J g ad σ τ w sa U)) (bq_H (some (.int (iI 1))) g (fun H => bx_U g ad σ τ w H)) bq_nx 1 6 (bq_fr g) := by
  refine vx_ofWH (cc := cL_free) (maxL := 6) (ret := (some .int)) (hh := [(0, 19, 22, 13)]) (by decide) rfl ?_
  intro Pg Ev s mI args below meth cd s₁ B hml hv
  obtain ⟨rfl, ⟨⟨hU, hK⟩, hT⟩, hNc⟩ := hv
  have hx := B.exec
  have hb := B.bytes
  have hr := B.returns
  have hts := atoms_spec (ws := wsL_free) B.pre
  have hown : s.vm.findClass RL = some mI.cls := findClass_of_methodNamed B.named
  have hlocks := B.notSynchronized
  have htab := vx_table (x := yL_free) B (hts _ List.mem_cons_self)
  have hF : bx_F g s.heap s.heap := bx_F.rf
  have hlc : bx_Lc g [] := bx_Lc.nil
  refine vx_ret ?_
  have hl := lv_entry ([.ref (ad 0 0), .int (iI a), .int (iI b), .int (iI z), .ref (ad 17 0)]) (n := 6) (Nat.le_of_ble_eq_true rfl)
  rw [lg_entry_eq]
  generalize (lg_sl ([.ref (ad 0 0), .int (iI a), .int (iI b), .int (iI z), .ref (ad 17 0)]) ++ List.replicate (6 - (lg_sl ([.ref (ad 0 0), .int (iI a), .int (iI b), .int (iI z), .ref (ad 17 0)])).length) Slot.unset).toArray = ls at hl ⊢
  have hl : lv_has ls 6 [(0, .ref (ad 0 0)), (1, .int (iI a)), (2, .int (iI b)), (3, .int (iI z)), (4, .ref (ad 17 0))] := hl
  have hRa0 : -2147483648 ≤ a ∧ a < 2147483648 := hRa
  have hRb0 : -2147483648 ≤ b ∧ b < 2147483648 := hRb
  refine lv_aload hx hb dL_free_0 (lv_at hl 4 rfl) ?_
  refine li_iconst hx hb dL_free_2 ?_
  refine lv_aload_n hx hb dL_free_3 rfl (lv_at hl 0 rfl) ?_
  refine lv_iload_n hx hb dL_free_4 rfl (lv_at hl 1 rfl) ?_
  refine lv_iload_n hx hb dL_free_5 rfl (lv_at hl 2 rfl) ?_
  refine lv_iload_n hx hb dL_free_6 rfl (lv_at hl 3 rfl) ?_
  refine bk_V (E0 := bt_iae) (h := 22) (As := [.int (iI a), .int (iI b), .int (iI z)]) (rest := [.int (iI 0), .ref (ad 17 0)]) (kd := 0) (k := 0) (ci := 1) ⟨hx, hb, hml, hown, hts⟩ (c_X1_free_f l hst g ad σ τ w sa a b z (by unfold iR; omega) (by unfold iR; omega) (by omega) hB (by omega)) (cwV 3 hts gL_free_X1_free rfl rfl rfl (by decide +kernel) ⟨Nat.le_of_ble_eq_true rfl, Nat.le_of_ble_eq_true rfl⟩) hK hU hT hF hlc (bx_L0 (by omega)) rfl rfl rfl hl.1 rfl (Nat.le_of_ble_eq_true rfl) dL_free_7 ⟨Nat.le_of_ble_eq_true rfl, Nat.le_of_ble_eq_true rfl⟩ (fun thrown hth pl hpl => by rw [htab]; exact bk_one hpl hown hth (by decide) (by decide) (hts (.classLink RL 13 "java/lang/IllegalArgumentException") (by decide +kernel)) (hT.args _ (by decide +kernel)) rfl) (fun qx H locs hU hF1 hlc => ?_)
  have hF := hF.tr hF1
  refine lv_astore (lv' := [(5, .ref qx), (0, .ref (ad 0 0)), (1, .int (iI a)), (2, .int (iI b)), (3, .int (iI z)), (4, .ref (ad 17 0))]) hx hb dL_free_22 hl (by decide) rfl (fun ls hl => ?_)
  refine li_iconst hx hb dL_free_24 ?_
  exact bh_i hx hb hr hlocks hU hF hlc rfl dL_free_25

set_option maxHeartbeats 4000000 in
set_option maxRecDepth 100000 in
theorem lh_move_t (l : Launch) (g : bxG) (ad : bxA) (σ τ : bxS) (w : bxW) (sa : Nat → Nat) (p a d : Int) (hRp : iR p) (hRa : iR a) (hRd : iR d) (hB : bx_B σ) (hg : (0 ≤ p ∧ p < 60 ∧ σ 2 p 0 ≠ 0) ∧ (0 ≤ a ∧ a ≤ 2) ∧ -1000 ≤ d ∧ d ≤ 1000) : vx_Met l yL_move wsL_move ({ frames := 8, cells := 0, slots := 0, locals := 136 }) (va_Pc [.ref (ad 0 0), .int (iI p), .int (iI a), .int (iI d), .ref (ad 17 0)] (fun U => bt_J g ad σ τ w sa U)) (bq_H (some (.int (iI 0))) g (fun H => bx_U g ad (if 0 ≤ σ 7 p a + d ∧ σ 8 p a + d ≤ 1000 then up3 (up3 σ 7 p a (σ 7 p a + d)) 8 p a (σ 8 p a + d) else σ) τ ((lB (if 0 ≤ σ 7 p a + d ∧ σ 8 p a + d ≤ 1000 then 1 else 0)), w.2) H)) bq_nx 0 0 (bq_fr g) := by
  refine vx_ofWH (cc := cL_move) (maxL := 6) (ret := (some .int)) (hh := [(0, 19, 22, 13)]) (by decide) rfl ?_
  intro Pg Ev s mI args below meth cd s₁ B hml hv
  obtain ⟨rfl, ⟨⟨hU, hK⟩, hT⟩, hNc⟩ := hv
  have hx := B.exec
  have hb := B.bytes
  have hr := B.returns
  have hts := atoms_spec (ws := wsL_move) B.pre
  have hown : s.vm.findClass RL = some mI.cls := findClass_of_methodNamed B.named
  have hlocks := B.notSynchronized
  have htab := vx_table (x := yL_move) B (hts _ List.mem_cons_self)
  have hF : bx_F g s.heap s.heap := bx_F.rf
  have hlc : bx_Lc g [] := bx_Lc.nil
  refine vx_ret ?_
  have hl := lv_entry ([.ref (ad 0 0), .int (iI p), .int (iI a), .int (iI d), .ref (ad 17 0)]) (n := 6) (Nat.le_of_ble_eq_true rfl)
  rw [lg_entry_eq]
  generalize (lg_sl ([.ref (ad 0 0), .int (iI p), .int (iI a), .int (iI d), .ref (ad 17 0)]) ++ List.replicate (6 - (lg_sl ([.ref (ad 0 0), .int (iI p), .int (iI a), .int (iI d), .ref (ad 17 0)])).length) Slot.unset).toArray = ls at hl ⊢
  have hl : lv_has ls 6 [(0, .ref (ad 0 0)), (1, .int (iI p)), (2, .int (iI a)), (3, .int (iI d)), (4, .ref (ad 17 0))] := hl
  have hRp0 : -2147483648 ≤ p ∧ p < 2147483648 := hRp
  have hRa0 : -2147483648 ≤ a ∧ a < 2147483648 := hRa
  have hRd0 : -2147483648 ≤ d ∧ d < 2147483648 := hRd
  refine lv_aload hx hb dL_move_0 (lv_at hl 4 rfl) ?_
  refine li_iconst hx hb dL_move_2 ?_
  refine lv_aload_n hx hb dL_move_3 rfl (lv_at hl 0 rfl) ?_
  refine lv_iload_n hx hb dL_move_4 rfl (lv_at hl 1 rfl) ?_
  refine lv_iload_n hx hb dL_move_5 rfl (lv_at hl 2 rfl) ?_
  refine lv_iload_n hx hb dL_move_6 rfl (lv_at hl 3 rfl) ?_
  refine bc_VW (As := [.int (iI p), .int (iI a), .int (iI d)]) (rest := [.int (iI 0), .ref (ad 17 0)]) (kd := 0) (k := 0) (ci := 1) ⟨hx, hb, hml, hown, hts⟩ (c_X1_move_t l g ad σ τ w p a d (by unfold iR; omega) (by unfold iR; omega) (by unfold iR; omega) hB (by omega)) (cwV 3 hts gL_move_X1_move rfl rfl rfl (by decide +kernel) ⟨Nat.le_of_ble_eq_true rfl, Nat.le_of_ble_eq_true rfl⟩) hK hU hlc (bx_L0 (by omega)) rfl rfl rfl hl.1 rfl (Nat.le_of_ble_eq_true rfl) dL_move_7 ⟨Nat.le_of_ble_eq_true rfl, Nat.le_of_ble_eq_true rfl⟩ (fun H locs hU hF1 hlc => ?_)
  have hF := hF.tr hF1
  refine li_if_eq (tgt := 17) hx hb (by unfold iR; omega) dL_move_10 (by decide) (fun h1 => ?_) (fun h1 => ?_)
  · refine lv_lconst (v := 0) hx hb dL_move_17 (by decide) ?_
    refine bs_17 hx hb hK hU hlc dL_move_18 (fun H locs hU hF1 hlc => ?_)
    have hF := hF.tr hF1
    refine lv_goto (tgt := 26) hx hb dL_move_19 (by decide) ?_
    refine li_iconst hx hb dL_move_26 ?_
    exact bh_i hx hb hr hlocks (by rw [show lB (if 0 ≤ σ 7 p a + d ∧ σ 8 p a + d ≤ 1000 then 1 else 0) = _ from if_pos h1]; exact hU) hF hlc rfl dL_move_27
  · refine lv_lconst (v := 1) hx hb dL_move_13 (by decide) ?_
    refine lv_goto (tgt := 18) hx hb dL_move_14 (by decide) ?_
    refine bs_17 hx hb hK hU hlc dL_move_18 (fun H locs hU hF1 hlc => ?_)
    have hF := hF.tr hF1
    refine lv_goto (tgt := 26) hx hb dL_move_19 (by decide) ?_
    refine li_iconst hx hb dL_move_26 ?_
    exact bh_i hx hb hr hlocks (by rw [show lB (if 0 ≤ σ 7 p a + d ∧ σ 8 p a + d ≤ 1000 then 1 else 0) = _ from if_neg h1]; exact hU) hF hlc rfl dL_move_27

set_option maxHeartbeats 4000000 in
set_option maxRecDepth 100000 in
theorem lh_move_f (l : Launch) (hst : l.stackTraces = false) (g : bxG) (ad : bxA) (σ τ : bxS) (w : bxW) (sa : Nat → Nat) (p a d : Int) (hRp : iR p) (hRa : iR a) (hRd : iR d) (hB : bx_B σ) (hg : ¬ ((0 ≤ p ∧ p < 60 ∧ σ 2 p 0 ≠ 0) ∧ (0 ≤ a ∧ a ≤ 2) ∧ -1000 ≤ d ∧ d ≤ 1000)) : vx_Met l yL_move wsL_move ({ frames := 8, cells := 1, slots := 6, locals := 136 }) (va_Pc [.ref (ad 0 0), .int (iI p), .int (iI a), .int (iI d), .ref (ad 17 0)] (fun U => bt_J g ad σ τ w sa U)) (bq_H (some (.int (iI 1))) g (fun H => bx_U g ad σ τ w H)) bq_nx 1 6 (bq_fr g) := by
  refine vx_ofWH (cc := cL_move) (maxL := 6) (ret := (some .int)) (hh := [(0, 19, 22, 13)]) (by decide) rfl ?_
  intro Pg Ev s mI args below meth cd s₁ B hml hv
  obtain ⟨rfl, ⟨⟨hU, hK⟩, hT⟩, hNc⟩ := hv
  have hx := B.exec
  have hb := B.bytes
  have hr := B.returns
  have hts := atoms_spec (ws := wsL_move) B.pre
  have hown : s.vm.findClass RL = some mI.cls := findClass_of_methodNamed B.named
  have hlocks := B.notSynchronized
  have htab := vx_table (x := yL_move) B (hts _ List.mem_cons_self)
  have hF : bx_F g s.heap s.heap := bx_F.rf
  have hlc : bx_Lc g [] := bx_Lc.nil
  refine vx_ret ?_
  have hl := lv_entry ([.ref (ad 0 0), .int (iI p), .int (iI a), .int (iI d), .ref (ad 17 0)]) (n := 6) (Nat.le_of_ble_eq_true rfl)
  rw [lg_entry_eq]
  generalize (lg_sl ([.ref (ad 0 0), .int (iI p), .int (iI a), .int (iI d), .ref (ad 17 0)]) ++ List.replicate (6 - (lg_sl ([.ref (ad 0 0), .int (iI p), .int (iI a), .int (iI d), .ref (ad 17 0)])).length) Slot.unset).toArray = ls at hl ⊢
  have hl : lv_has ls 6 [(0, .ref (ad 0 0)), (1, .int (iI p)), (2, .int (iI a)), (3, .int (iI d)), (4, .ref (ad 17 0))] := hl
  have hRp0 : -2147483648 ≤ p ∧ p < 2147483648 := hRp
  have hRa0 : -2147483648 ≤ a ∧ a < 2147483648 := hRa
  have hRd0 : -2147483648 ≤ d ∧ d < 2147483648 := hRd
  refine lv_aload hx hb dL_move_0 (lv_at hl 4 rfl) ?_
  refine li_iconst hx hb dL_move_2 ?_
  refine lv_aload_n hx hb dL_move_3 rfl (lv_at hl 0 rfl) ?_
  refine lv_iload_n hx hb dL_move_4 rfl (lv_at hl 1 rfl) ?_
  refine lv_iload_n hx hb dL_move_5 rfl (lv_at hl 2 rfl) ?_
  refine lv_iload_n hx hb dL_move_6 rfl (lv_at hl 3 rfl) ?_
  refine bk_V (E0 := bt_iae) (h := 22) (As := [.int (iI p), .int (iI a), .int (iI d)]) (rest := [.int (iI 0), .ref (ad 17 0)]) (kd := 0) (k := 0) (ci := 1) ⟨hx, hb, hml, hown, hts⟩ (c_X1_move_f l hst g ad σ τ w sa p a d (by unfold iR; omega) (by unfold iR; omega) (by unfold iR; omega) hB (by omega)) (cwV 3 hts gL_move_X1_move rfl rfl rfl (by decide +kernel) ⟨Nat.le_of_ble_eq_true rfl, Nat.le_of_ble_eq_true rfl⟩) hK hU hT hF hlc (bx_L0 (by omega)) rfl rfl rfl hl.1 rfl (Nat.le_of_ble_eq_true rfl) dL_move_7 ⟨Nat.le_of_ble_eq_true rfl, Nat.le_of_ble_eq_true rfl⟩ (fun thrown hth pl hpl => by rw [htab]; exact bk_one hpl hown hth (by decide) (by decide) (hts (.classLink RL 13 "java/lang/IllegalArgumentException") (by decide +kernel)) (hT.args _ (by decide +kernel)) rfl) (fun qx H locs hU hF1 hlc => ?_)
  have hF := hF.tr hF1
  refine lv_astore (lv' := [(5, .ref qx), (0, .ref (ad 0 0)), (1, .int (iI p)), (2, .int (iI a)), (3, .int (iI d)), (4, .ref (ad 17 0))]) hx hb dL_move_22 hl (by decide) rfl (fun ls hl => ?_)
  refine li_iconst hx hb dL_move_24 ?_
  exact bh_i hx hb hr hlocks hU hF hlc rfl dL_move_25

set_option maxHeartbeats 4000000 in
set_option maxRecDepth 100000 in
theorem lh_drop_t (l : Launch) (g : bxG) (ad : bxA) (σ τ : bxS) (w : bxW) (sa : Nat → Nat) (p : Int) (hRp : iR p) (hB : bx_B σ) (hg : 0 ≤ p ∧ p < 60 ∧ σ 2 p 0 ≠ 0) : vx_Met l yL_drop wsL_drop ({ frames := 8, cells := 0, slots := 0, locals := 131 }) (va_Pc [.ref (ad 0 0), .int (iI p), .ref (ad 17 0)] (fun U => bt_J g ad σ τ w sa U)) (bq_H (some (.int (iI 0))) g (fun H => bx_U g ad (up3 (up3 σ 2 p 0 0) 1 0 0 (σ 1 0 0 - 1)) τ ((iI (σ 1 0 0 - 1)).toInt64, w.2) H)) bq_nx 0 0 (bq_fr g) := by
  refine vx_ofWH (cc := cL_drop) (maxL := 4) (ret := (some .int)) (hh := [(0, 9, 12, 13)]) (by decide) rfl ?_
  intro Pg Ev s mI args below meth cd s₁ B hml hv
  obtain ⟨rfl, ⟨⟨hU, hK⟩, hT⟩, hNc⟩ := hv
  have hx := B.exec
  have hb := B.bytes
  have hr := B.returns
  have hts := atoms_spec (ws := wsL_drop) B.pre
  have hown : s.vm.findClass RL = some mI.cls := findClass_of_methodNamed B.named
  have hlocks := B.notSynchronized
  have htab := vx_table (x := yL_drop) B (hts _ List.mem_cons_self)
  have hF : bx_F g s.heap s.heap := bx_F.rf
  have hlc : bx_Lc g [] := bx_Lc.nil
  refine vx_ret ?_
  have hl := lv_entry ([.ref (ad 0 0), .int (iI p), .ref (ad 17 0)]) (n := 4) (Nat.le_of_ble_eq_true rfl)
  rw [lg_entry_eq]
  generalize (lg_sl ([.ref (ad 0 0), .int (iI p), .ref (ad 17 0)]) ++ List.replicate (4 - (lg_sl ([.ref (ad 0 0), .int (iI p), .ref (ad 17 0)])).length) Slot.unset).toArray = ls at hl ⊢
  have hl : lv_has ls 4 [(0, .ref (ad 0 0)), (1, .int (iI p)), (2, .ref (ad 17 0))] := hl
  have hRp0 : -2147483648 ≤ p ∧ p < 2147483648 := hRp
  refine lv_aload_n hx hb dL_drop_0 rfl (lv_at hl 2 rfl) ?_
  refine li_iconst hx hb dL_drop_1 ?_
  refine lv_aload_n hx hb dL_drop_2 rfl (lv_at hl 0 rfl) ?_
  refine lv_iload_n hx hb dL_drop_3 rfl (lv_at hl 1 rfl) ?_
  refine bc_VW (As := [.int (iI p)]) (rest := [.int (iI 0), .ref (ad 17 0)]) (kd := 0) (k := 0) (ci := 1) ⟨hx, hb, hml, hown, hts⟩ (c_X1_drop_t l g ad σ τ w p (by unfold iR; omega) hB (by omega)) (cwV 1 hts gL_drop_X1_drop rfl rfl rfl (by decide +kernel) ⟨Nat.le_of_ble_eq_true rfl, Nat.le_of_ble_eq_true rfl⟩) hK hU hlc (bx_L0 (by omega)) rfl rfl rfl hl.1 rfl (Nat.le_of_ble_eq_true rfl) dL_drop_4 ⟨Nat.le_of_ble_eq_true rfl, Nat.le_of_ble_eq_true rfl⟩ (fun H locs hU hF1 hlc => ?_)
  have hF := hF.tr hF1
  refine lv_i2l (v := (iI (σ 1 0 0 - 1)).toInt64) hx hb dL_drop_7 rfl ?_
  refine bs_17 hx hb hK hU hlc dL_drop_8 (fun H locs hU hF1 hlc => ?_)
  have hF := hF.tr hF1
  refine lv_goto (tgt := 15) hx hb dL_drop_9 (by decide) ?_
  refine li_iconst hx hb dL_drop_15 ?_
  exact bh_i hx hb hr hlocks hU hF hlc rfl dL_drop_16

set_option maxHeartbeats 4000000 in
set_option maxRecDepth 100000 in
theorem lh_drop_f (l : Launch) (hst : l.stackTraces = false) (g : bxG) (ad : bxA) (σ τ : bxS) (w : bxW) (sa : Nat → Nat) (p : Int) (hRp : iR p) (hB : bx_B σ) (hg : ¬ (0 ≤ p ∧ p < 60 ∧ σ 2 p 0 ≠ 0)) : vx_Met l yL_drop wsL_drop ({ frames := 8, cells := 1, slots := 6, locals := 131 }) (va_Pc [.ref (ad 0 0), .int (iI p), .ref (ad 17 0)] (fun U => bt_J g ad σ τ w sa U)) (bq_H (some (.int (iI 1))) g (fun H => bx_U g ad σ τ w H)) bq_nx 1 6 (bq_fr g) := by
  refine vx_ofWH (cc := cL_drop) (maxL := 4) (ret := (some .int)) (hh := [(0, 9, 12, 13)]) (by decide) rfl ?_
  intro Pg Ev s mI args below meth cd s₁ B hml hv
  obtain ⟨rfl, ⟨⟨hU, hK⟩, hT⟩, hNc⟩ := hv
  have hx := B.exec
  have hb := B.bytes
  have hr := B.returns
  have hts := atoms_spec (ws := wsL_drop) B.pre
  have hown : s.vm.findClass RL = some mI.cls := findClass_of_methodNamed B.named
  have hlocks := B.notSynchronized
  have htab := vx_table (x := yL_drop) B (hts _ List.mem_cons_self)
  have hF : bx_F g s.heap s.heap := bx_F.rf
  have hlc : bx_Lc g [] := bx_Lc.nil
  refine vx_ret ?_
  have hl := lv_entry ([.ref (ad 0 0), .int (iI p), .ref (ad 17 0)]) (n := 4) (Nat.le_of_ble_eq_true rfl)
  rw [lg_entry_eq]
  generalize (lg_sl ([.ref (ad 0 0), .int (iI p), .ref (ad 17 0)]) ++ List.replicate (4 - (lg_sl ([.ref (ad 0 0), .int (iI p), .ref (ad 17 0)])).length) Slot.unset).toArray = ls at hl ⊢
  have hl : lv_has ls 4 [(0, .ref (ad 0 0)), (1, .int (iI p)), (2, .ref (ad 17 0))] := hl
  have hRp0 : -2147483648 ≤ p ∧ p < 2147483648 := hRp
  refine lv_aload_n hx hb dL_drop_0 rfl (lv_at hl 2 rfl) ?_
  refine li_iconst hx hb dL_drop_1 ?_
  refine lv_aload_n hx hb dL_drop_2 rfl (lv_at hl 0 rfl) ?_
  refine lv_iload_n hx hb dL_drop_3 rfl (lv_at hl 1 rfl) ?_
  refine bk_V (E0 := bt_iae) (h := 12) (As := [.int (iI p)]) (rest := [.int (iI 0), .ref (ad 17 0)]) (kd := 0) (k := 0) (ci := 1) ⟨hx, hb, hml, hown, hts⟩ (c_X1_drop_f l hst g ad σ τ w sa p (by unfold iR; omega) hB (by omega)) (cwV 1 hts gL_drop_X1_drop rfl rfl rfl (by decide +kernel) ⟨Nat.le_of_ble_eq_true rfl, Nat.le_of_ble_eq_true rfl⟩) hK hU hT hF hlc (bx_L0 (by omega)) rfl rfl rfl hl.1 rfl (Nat.le_of_ble_eq_true rfl) dL_drop_4 ⟨Nat.le_of_ble_eq_true rfl, Nat.le_of_ble_eq_true rfl⟩ (fun thrown hth pl hpl => by rw [htab]; exact bk_one hpl hown hth (by decide) (by decide) (hts (.classLink RL 13 "java/lang/IllegalArgumentException") (by decide +kernel)) (hT.args _ (by decide +kernel)) rfl) (fun qx H locs hU hF1 hlc => ?_)
  have hF := hF.tr hF1
  refine lv_astore_n (lv' := [(3, .ref qx), (0, .ref (ad 0 0)), (1, .int (iI p)), (2, .ref (ad 17 0))]) hx hb dL_drop_12 rfl hl (by decide) rfl (fun ls hl => ?_)
  refine li_iconst hx hb dL_drop_13 ?_
  exact bh_i hx hb hr hlocks hU hF hlc rfl dL_drop_14

set_option maxHeartbeats 4000000 in
set_option maxRecDepth 100000 in
theorem lh_pair_t (l : Launch) (g : bxG) (ad : bxA) (σ τ : bxS) (w : bxW) (sa : Nat → Nat) (p q : Int) (hRp : iR p) (hRq : iR q) (hB : bx_B σ) (hg : (0 ≤ p ∧ p < 60 ∧ σ 2 p 0 ≠ 0) ∧ (0 ≤ q ∧ q < 60 ∧ σ 2 q 0 ≠ 0) ∧ p ≠ q) : vx_Met l yL_pair wsL_pair ({ frames := 8, cells := 0, slots := 0, locals := 143 }) (va_Pc [.ref (ad 0 0), .int (iI p), .int (iI q), .ref (ad 17 0)] (fun U => bt_J g ad σ τ w sa U)) (bq_H (some (.int (iI 0))) g (fun H => bx_U g ad (σ) τ ((iI (stO σ p q)).toInt64, w.2) H)) bq_nx 0 0 (bq_fr g) := by
  refine vx_ofWH (cc := cL_pair) (maxL := 5) (ret := (some .int)) (hh := [(0, 10, 13, 13)]) (by decide) rfl ?_
  intro Pg Ev s mI args below meth cd s₁ B hml hv
  obtain ⟨rfl, ⟨⟨hU, hK⟩, hT⟩, hNc⟩ := hv
  have hx := B.exec
  have hb := B.bytes
  have hr := B.returns
  have hts := atoms_spec (ws := wsL_pair) B.pre
  have hown : s.vm.findClass RL = some mI.cls := findClass_of_methodNamed B.named
  have hlocks := B.notSynchronized
  have htab := vx_table (x := yL_pair) B (hts _ List.mem_cons_self)
  have hF : bx_F g s.heap s.heap := bx_F.rf
  have hlc : bx_Lc g [] := bx_Lc.nil
  refine vx_ret ?_
  have hl := lv_entry ([.ref (ad 0 0), .int (iI p), .int (iI q), .ref (ad 17 0)]) (n := 5) (Nat.le_of_ble_eq_true rfl)
  rw [lg_entry_eq]
  generalize (lg_sl ([.ref (ad 0 0), .int (iI p), .int (iI q), .ref (ad 17 0)]) ++ List.replicate (5 - (lg_sl ([.ref (ad 0 0), .int (iI p), .int (iI q), .ref (ad 17 0)])).length) Slot.unset).toArray = ls at hl ⊢
  have hl : lv_has ls 5 [(0, .ref (ad 0 0)), (1, .int (iI p)), (2, .int (iI q)), (3, .ref (ad 17 0))] := hl
  have hRp0 : -2147483648 ≤ p ∧ p < 2147483648 := hRp
  have hRq0 : -2147483648 ≤ q ∧ q < 2147483648 := hRq
  refine lv_aload_n hx hb dL_pair_0 rfl (lv_at hl 3 rfl) ?_
  refine li_iconst hx hb dL_pair_1 ?_
  refine lv_aload_n hx hb dL_pair_2 rfl (lv_at hl 0 rfl) ?_
  refine lv_iload_n hx hb dL_pair_3 rfl (lv_at hl 1 rfl) ?_
  refine lv_iload_n hx hb dL_pair_4 rfl (lv_at hl 2 rfl) ?_
  refine bc_V (As := [.int (iI p), .int (iI q)]) (rest := [.int (iI 0), .ref (ad 17 0)]) (kd := 0) (k := 0) (ci := 1) ⟨hx, hb, hml, hown, hts⟩ (c_X1_pair_t l g ad σ τ w p q (by unfold iR; omega) (by unfold iR; omega) hB (by omega)) (cwV 2 hts gL_pair_X1_pair rfl rfl rfl (by decide +kernel) ⟨Nat.le_of_ble_eq_true rfl, Nat.le_of_ble_eq_true rfl⟩) hK hU (bx_L0 (by omega)) rfl rfl rfl hl.1 rfl (Nat.le_of_ble_eq_true rfl) dL_pair_5 ⟨Nat.le_of_ble_eq_true rfl, Nat.le_of_ble_eq_true rfl⟩ ?_
  refine lv_i2l (v := (iI (stO σ p q)).toInt64) hx hb dL_pair_8 rfl ?_
  refine bs_17 hx hb hK hU hlc dL_pair_9 (fun H locs hU hF1 hlc => ?_)
  have hF := hF.tr hF1
  refine lv_goto (tgt := 17) hx hb dL_pair_10 (by decide) ?_
  refine li_iconst hx hb dL_pair_17 ?_
  exact bh_i hx hb hr hlocks hU hF hlc rfl dL_pair_18

set_option maxHeartbeats 4000000 in
set_option maxRecDepth 100000 in
theorem lh_pair_f (l : Launch) (hst : l.stackTraces = false) (g : bxG) (ad : bxA) (σ τ : bxS) (w : bxW) (sa : Nat → Nat) (p q : Int) (hRp : iR p) (hRq : iR q) (hB : bx_B σ) (hg : ¬ ((0 ≤ p ∧ p < 60 ∧ σ 2 p 0 ≠ 0) ∧ (0 ≤ q ∧ q < 60 ∧ σ 2 q 0 ≠ 0) ∧ p ≠ q)) : vx_Met l yL_pair wsL_pair ({ frames := 8, cells := 1, slots := 6, locals := 143 }) (va_Pc [.ref (ad 0 0), .int (iI p), .int (iI q), .ref (ad 17 0)] (fun U => bt_J g ad σ τ w sa U)) (bq_H (some (.int (iI 1))) g (fun H => bx_U g ad σ τ w H)) bq_nx 1 6 (bq_fr g) := by
  refine vx_ofWH (cc := cL_pair) (maxL := 5) (ret := (some .int)) (hh := [(0, 10, 13, 13)]) (by decide) rfl ?_
  intro Pg Ev s mI args below meth cd s₁ B hml hv
  obtain ⟨rfl, ⟨⟨hU, hK⟩, hT⟩, hNc⟩ := hv
  have hx := B.exec
  have hb := B.bytes
  have hr := B.returns
  have hts := atoms_spec (ws := wsL_pair) B.pre
  have hown : s.vm.findClass RL = some mI.cls := findClass_of_methodNamed B.named
  have hlocks := B.notSynchronized
  have htab := vx_table (x := yL_pair) B (hts _ List.mem_cons_self)
  have hF : bx_F g s.heap s.heap := bx_F.rf
  have hlc : bx_Lc g [] := bx_Lc.nil
  refine vx_ret ?_
  have hl := lv_entry ([.ref (ad 0 0), .int (iI p), .int (iI q), .ref (ad 17 0)]) (n := 5) (Nat.le_of_ble_eq_true rfl)
  rw [lg_entry_eq]
  generalize (lg_sl ([.ref (ad 0 0), .int (iI p), .int (iI q), .ref (ad 17 0)]) ++ List.replicate (5 - (lg_sl ([.ref (ad 0 0), .int (iI p), .int (iI q), .ref (ad 17 0)])).length) Slot.unset).toArray = ls at hl ⊢
  have hl : lv_has ls 5 [(0, .ref (ad 0 0)), (1, .int (iI p)), (2, .int (iI q)), (3, .ref (ad 17 0))] := hl
  have hRp0 : -2147483648 ≤ p ∧ p < 2147483648 := hRp
  have hRq0 : -2147483648 ≤ q ∧ q < 2147483648 := hRq
  refine lv_aload_n hx hb dL_pair_0 rfl (lv_at hl 3 rfl) ?_
  refine li_iconst hx hb dL_pair_1 ?_
  refine lv_aload_n hx hb dL_pair_2 rfl (lv_at hl 0 rfl) ?_
  refine lv_iload_n hx hb dL_pair_3 rfl (lv_at hl 1 rfl) ?_
  refine lv_iload_n hx hb dL_pair_4 rfl (lv_at hl 2 rfl) ?_
  refine bk_V (E0 := bt_iae) (h := 13) (As := [.int (iI p), .int (iI q)]) (rest := [.int (iI 0), .ref (ad 17 0)]) (kd := 0) (k := 0) (ci := 1) ⟨hx, hb, hml, hown, hts⟩ (c_X1_pair_f l hst g ad σ τ w sa p q (by unfold iR; omega) (by unfold iR; omega) hB (by omega)) (cwV 2 hts gL_pair_X1_pair rfl rfl rfl (by decide +kernel) ⟨Nat.le_of_ble_eq_true rfl, Nat.le_of_ble_eq_true rfl⟩) hK hU hT hF hlc (bx_L0 (by omega)) rfl rfl rfl hl.1 rfl (Nat.le_of_ble_eq_true rfl) dL_pair_5 ⟨Nat.le_of_ble_eq_true rfl, Nat.le_of_ble_eq_true rfl⟩ (fun thrown hth pl hpl => by rw [htab]; exact bk_one hpl hown hth (by decide) (by decide) (hts (.classLink RL 13 "java/lang/IllegalArgumentException") (by decide +kernel)) (hT.args _ (by decide +kernel)) rfl) (fun qx H locs hU hF1 hlc => ?_)
  have hF := hF.tr hF1
  refine lv_astore (lv' := [(4, .ref qx), (0, .ref (ad 0 0)), (1, .int (iI p)), (2, .int (iI q)), (3, .ref (ad 17 0))]) hx hb dL_pair_13 hl (by decide) rfl (fun ls hl => ?_)
  refine li_iconst hx hb dL_pair_15 ?_
  exact bh_i hx hb hr hlocks hU hF hlc rfl dL_pair_16

set_option maxHeartbeats 4000000 in
set_option maxRecDepth 100000 in
theorem lh_clashes_t (l : Launch) (g : bxG) (ad : bxA) (σ τ : bxS) (w : bxW) (sa : Nat → Nat) (st : Int) (hRst : iR st) (hB : bx_B σ) (hg : 1 ≤ st ∧ st ≤ 2) : vx_Met l yL_clashes wsL_clashes ({ frames := 8, cells := 0, slots := 0, locals := 191 }) (va_Pc [.ref (ad 0 0), .int (iI st), .ref (ad 17 0)] (fun U => bt_J g ad σ τ w sa U)) (bq_H (some (.int (iI 0))) g (fun H => bx_U g ad (σ) τ ((iI (sm (pcnt σ st) (σ 0 0 0))).toInt64, w.2) H)) bq_nx 0 0 (bq_fr g) := by
  refine vx_ofWH (cc := cL_clashes) (maxL := 4) (ret := (some .int)) (hh := [(0, 9, 12, 13)]) (by decide) rfl ?_
  intro Pg Ev s mI args below meth cd s₁ B hml hv
  obtain ⟨rfl, ⟨⟨hU, hK⟩, hT⟩, hNc⟩ := hv
  have hx := B.exec
  have hb := B.bytes
  have hr := B.returns
  have hts := atoms_spec (ws := wsL_clashes) B.pre
  have hown : s.vm.findClass RL = some mI.cls := findClass_of_methodNamed B.named
  have hlocks := B.notSynchronized
  have htab := vx_table (x := yL_clashes) B (hts _ List.mem_cons_self)
  have hF : bx_F g s.heap s.heap := bx_F.rf
  have hlc : bx_Lc g [] := bx_Lc.nil
  refine vx_ret ?_
  have hl := lv_entry ([.ref (ad 0 0), .int (iI st), .ref (ad 17 0)]) (n := 4) (Nat.le_of_ble_eq_true rfl)
  rw [lg_entry_eq]
  generalize (lg_sl ([.ref (ad 0 0), .int (iI st), .ref (ad 17 0)]) ++ List.replicate (4 - (lg_sl ([.ref (ad 0 0), .int (iI st), .ref (ad 17 0)])).length) Slot.unset).toArray = ls at hl ⊢
  have hl : lv_has ls 4 [(0, .ref (ad 0 0)), (1, .int (iI st)), (2, .ref (ad 17 0))] := hl
  have hRst0 : -2147483648 ≤ st ∧ st < 2147483648 := hRst
  refine lv_aload_n hx hb dL_clashes_0 rfl (lv_at hl 2 rfl) ?_
  refine li_iconst hx hb dL_clashes_1 ?_
  refine lv_aload_n hx hb dL_clashes_2 rfl (lv_at hl 0 rfl) ?_
  refine lv_iload_n hx hb dL_clashes_3 rfl (lv_at hl 1 rfl) ?_
  refine bc_V (As := [.int (iI st)]) (rest := [.int (iI 0), .ref (ad 17 0)]) (kd := 0) (k := 0) (ci := 1) ⟨hx, hb, hml, hown, hts⟩ (c_X1_clashes_t l g ad σ τ w st (by unfold iR; omega) hB (by omega)) (cwV 1 hts gL_clashes_X1_clashes rfl rfl rfl (by decide +kernel) ⟨Nat.le_of_ble_eq_true rfl, Nat.le_of_ble_eq_true rfl⟩) hK hU (bx_L0 (by omega)) rfl rfl rfl hl.1 rfl (Nat.le_of_ble_eq_true rfl) dL_clashes_4 ⟨Nat.le_of_ble_eq_true rfl, Nat.le_of_ble_eq_true rfl⟩ ?_
  refine lv_i2l (v := (iI (sm (pcnt σ st) (σ 0 0 0))).toInt64) hx hb dL_clashes_7 rfl ?_
  refine bs_17 hx hb hK hU hlc dL_clashes_8 (fun H locs hU hF1 hlc => ?_)
  have hF := hF.tr hF1
  refine lv_goto (tgt := 15) hx hb dL_clashes_9 (by decide) ?_
  refine li_iconst hx hb dL_clashes_15 ?_
  exact bh_i hx hb hr hlocks hU hF hlc rfl dL_clashes_16

set_option maxHeartbeats 4000000 in
set_option maxRecDepth 100000 in
theorem lh_clashes_f (l : Launch) (hst : l.stackTraces = false) (g : bxG) (ad : bxA) (σ τ : bxS) (w : bxW) (sa : Nat → Nat) (st : Int) (hRst : iR st) (hB : bx_B σ) (hg : ¬ (1 ≤ st ∧ st ≤ 2)) : vx_Met l yL_clashes wsL_clashes ({ frames := 8, cells := 1, slots := 6, locals := 191 }) (va_Pc [.ref (ad 0 0), .int (iI st), .ref (ad 17 0)] (fun U => bt_J g ad σ τ w sa U)) (bq_H (some (.int (iI 1))) g (fun H => bx_U g ad σ τ w H)) bq_nx 1 6 (bq_fr g) := by
  refine vx_ofWH (cc := cL_clashes) (maxL := 4) (ret := (some .int)) (hh := [(0, 9, 12, 13)]) (by decide) rfl ?_
  intro Pg Ev s mI args below meth cd s₁ B hml hv
  obtain ⟨rfl, ⟨⟨hU, hK⟩, hT⟩, hNc⟩ := hv
  have hx := B.exec
  have hb := B.bytes
  have hr := B.returns
  have hts := atoms_spec (ws := wsL_clashes) B.pre
  have hown : s.vm.findClass RL = some mI.cls := findClass_of_methodNamed B.named
  have hlocks := B.notSynchronized
  have htab := vx_table (x := yL_clashes) B (hts _ List.mem_cons_self)
  have hF : bx_F g s.heap s.heap := bx_F.rf
  have hlc : bx_Lc g [] := bx_Lc.nil
  refine vx_ret ?_
  have hl := lv_entry ([.ref (ad 0 0), .int (iI st), .ref (ad 17 0)]) (n := 4) (Nat.le_of_ble_eq_true rfl)
  rw [lg_entry_eq]
  generalize (lg_sl ([.ref (ad 0 0), .int (iI st), .ref (ad 17 0)]) ++ List.replicate (4 - (lg_sl ([.ref (ad 0 0), .int (iI st), .ref (ad 17 0)])).length) Slot.unset).toArray = ls at hl ⊢
  have hl : lv_has ls 4 [(0, .ref (ad 0 0)), (1, .int (iI st)), (2, .ref (ad 17 0))] := hl
  have hRst0 : -2147483648 ≤ st ∧ st < 2147483648 := hRst
  refine lv_aload_n hx hb dL_clashes_0 rfl (lv_at hl 2 rfl) ?_
  refine li_iconst hx hb dL_clashes_1 ?_
  refine lv_aload_n hx hb dL_clashes_2 rfl (lv_at hl 0 rfl) ?_
  refine lv_iload_n hx hb dL_clashes_3 rfl (lv_at hl 1 rfl) ?_
  refine bk_V (E0 := bt_iae) (h := 12) (As := [.int (iI st)]) (rest := [.int (iI 0), .ref (ad 17 0)]) (kd := 0) (k := 0) (ci := 1) ⟨hx, hb, hml, hown, hts⟩ (c_X1_clashes_f l hst g ad σ τ w sa st (by unfold iR; omega) hB (by omega)) (cwV 1 hts gL_clashes_X1_clashes rfl rfl rfl (by decide +kernel) ⟨Nat.le_of_ble_eq_true rfl, Nat.le_of_ble_eq_true rfl⟩) hK hU hT hF hlc (bx_L0 (by omega)) rfl rfl rfl hl.1 rfl (Nat.le_of_ble_eq_true rfl) dL_clashes_4 ⟨Nat.le_of_ble_eq_true rfl, Nat.le_of_ble_eq_true rfl⟩ (fun thrown hth pl hpl => by rw [htab]; exact bk_one hpl hown hth (by decide) (by decide) (hts (.classLink RL 13 "java/lang/IllegalArgumentException") (by decide +kernel)) (hT.args _ (by decide +kernel)) rfl) (fun qx H locs hU hF1 hlc => ?_)
  have hF := hF.tr hF1
  refine lv_astore_n (lv' := [(3, .ref qx), (0, .ref (ad 0 0)), (1, .int (iI st)), (2, .ref (ad 17 0))]) hx hb dL_clashes_12 rfl hl (by decide) rfl (fun ls hl => ?_)
  refine li_iconst hx hb dL_clashes_13 ?_
  exact bh_i hx hb hr hlocks hU hF hlc rfl dL_clashes_14

set_option maxHeartbeats 4000000 in
set_option maxRecDepth 100000 in
theorem lh_clash_t (l : Launch) (g : bxG) (ad : bxA) (σ τ : bxS) (w : bxW) (sa : Nat → Nat) (st k wh : Int) (hRst : iR st) (hRk : iR k) (hRwh : iR wh) (hB : bx_B σ) (hg : (1 ≤ st ∧ st ≤ 2) ∧ 0 ≤ k ∧ 0 ≤ wh ∧ wh ≤ 1) : vx_Met l yL_clash wsL_clash ({ frames := 8, cells := 0, slots := 0, locals := 195 }) (va_Pc [.ref (ad 0 0), .int (iI st), .int (iI k), .int (iI wh), .ref (ad 17 0)] (fun U => bt_J g ad σ τ w sa U)) (bq_H (some (.int (iI 0))) g (fun H => bx_U g ad (σ) τ ((iI (clsF σ st wh 0 k)).toInt64, w.2) H)) bq_nx 0 0 (bq_fr g) := by
  refine vx_ofWH (cc := cL_clash) (maxL := 6) (ret := (some .int)) (hh := [(0, 12, 15, 13)]) (by decide) rfl ?_
  intro Pg Ev s mI args below meth cd s₁ B hml hv
  obtain ⟨rfl, ⟨⟨hU, hK⟩, hT⟩, hNc⟩ := hv
  have hx := B.exec
  have hb := B.bytes
  have hr := B.returns
  have hts := atoms_spec (ws := wsL_clash) B.pre
  have hown : s.vm.findClass RL = some mI.cls := findClass_of_methodNamed B.named
  have hlocks := B.notSynchronized
  have htab := vx_table (x := yL_clash) B (hts _ List.mem_cons_self)
  have hF : bx_F g s.heap s.heap := bx_F.rf
  have hlc : bx_Lc g [] := bx_Lc.nil
  refine vx_ret ?_
  have hl := lv_entry ([.ref (ad 0 0), .int (iI st), .int (iI k), .int (iI wh), .ref (ad 17 0)]) (n := 6) (Nat.le_of_ble_eq_true rfl)
  rw [lg_entry_eq]
  generalize (lg_sl ([.ref (ad 0 0), .int (iI st), .int (iI k), .int (iI wh), .ref (ad 17 0)]) ++ List.replicate (6 - (lg_sl ([.ref (ad 0 0), .int (iI st), .int (iI k), .int (iI wh), .ref (ad 17 0)])).length) Slot.unset).toArray = ls at hl ⊢
  have hl : lv_has ls 6 [(0, .ref (ad 0 0)), (1, .int (iI st)), (2, .int (iI k)), (3, .int (iI wh)), (4, .ref (ad 17 0))] := hl
  have hRst0 : -2147483648 ≤ st ∧ st < 2147483648 := hRst
  have hRk0 : -2147483648 ≤ k ∧ k < 2147483648 := hRk
  have hRwh0 : -2147483648 ≤ wh ∧ wh < 2147483648 := hRwh
  refine lv_aload hx hb dL_clash_0 (lv_at hl 4 rfl) ?_
  refine li_iconst hx hb dL_clash_2 ?_
  refine lv_aload_n hx hb dL_clash_3 rfl (lv_at hl 0 rfl) ?_
  refine lv_iload_n hx hb dL_clash_4 rfl (lv_at hl 1 rfl) ?_
  refine lv_iload_n hx hb dL_clash_5 rfl (lv_at hl 2 rfl) ?_
  refine lv_iload_n hx hb dL_clash_6 rfl (lv_at hl 3 rfl) ?_
  refine bc_V (As := [.int (iI st), .int (iI k), .int (iI wh)]) (rest := [.int (iI 0), .ref (ad 17 0)]) (kd := 0) (k := 0) (ci := 1) ⟨hx, hb, hml, hown, hts⟩ (c_X1_clash_t l g ad σ τ w st k wh (by unfold iR; omega) (by unfold iR; omega) (by unfold iR; omega) hB (by omega)) (cwV 3 hts gL_clash_X1_clash rfl rfl rfl (by decide +kernel) ⟨Nat.le_of_ble_eq_true rfl, Nat.le_of_ble_eq_true rfl⟩) hK hU (bx_L0 (by omega)) rfl rfl rfl hl.1 rfl (Nat.le_of_ble_eq_true rfl) dL_clash_7 ⟨Nat.le_of_ble_eq_true rfl, Nat.le_of_ble_eq_true rfl⟩ ?_
  refine lv_i2l (v := (iI (clsF σ st wh 0 k)).toInt64) hx hb dL_clash_10 rfl ?_
  refine bs_17 hx hb hK hU hlc dL_clash_11 (fun H locs hU hF1 hlc => ?_)
  have hF := hF.tr hF1
  refine lv_goto (tgt := 19) hx hb dL_clash_12 (by decide) ?_
  refine li_iconst hx hb dL_clash_19 ?_
  exact bh_i hx hb hr hlocks hU hF hlc rfl dL_clash_20

set_option maxHeartbeats 4000000 in
set_option maxRecDepth 100000 in
theorem lh_clash_f (l : Launch) (hst : l.stackTraces = false) (g : bxG) (ad : bxA) (σ τ : bxS) (w : bxW) (sa : Nat → Nat) (st k wh : Int) (hRst : iR st) (hRk : iR k) (hRwh : iR wh) (hB : bx_B σ) (hg : ¬ ((1 ≤ st ∧ st ≤ 2) ∧ 0 ≤ k ∧ 0 ≤ wh ∧ wh ≤ 1)) : vx_Met l yL_clash wsL_clash ({ frames := 8, cells := 1, slots := 6, locals := 195 }) (va_Pc [.ref (ad 0 0), .int (iI st), .int (iI k), .int (iI wh), .ref (ad 17 0)] (fun U => bt_J g ad σ τ w sa U)) (bq_H (some (.int (iI 1))) g (fun H => bx_U g ad σ τ w H)) bq_nx 1 6 (bq_fr g) := by
  refine vx_ofWH (cc := cL_clash) (maxL := 6) (ret := (some .int)) (hh := [(0, 12, 15, 13)]) (by decide) rfl ?_
  intro Pg Ev s mI args below meth cd s₁ B hml hv
  obtain ⟨rfl, ⟨⟨hU, hK⟩, hT⟩, hNc⟩ := hv
  have hx := B.exec
  have hb := B.bytes
  have hr := B.returns
  have hts := atoms_spec (ws := wsL_clash) B.pre
  have hown : s.vm.findClass RL = some mI.cls := findClass_of_methodNamed B.named
  have hlocks := B.notSynchronized
  have htab := vx_table (x := yL_clash) B (hts _ List.mem_cons_self)
  have hF : bx_F g s.heap s.heap := bx_F.rf
  have hlc : bx_Lc g [] := bx_Lc.nil
  refine vx_ret ?_
  have hl := lv_entry ([.ref (ad 0 0), .int (iI st), .int (iI k), .int (iI wh), .ref (ad 17 0)]) (n := 6) (Nat.le_of_ble_eq_true rfl)
  rw [lg_entry_eq]
  generalize (lg_sl ([.ref (ad 0 0), .int (iI st), .int (iI k), .int (iI wh), .ref (ad 17 0)]) ++ List.replicate (6 - (lg_sl ([.ref (ad 0 0), .int (iI st), .int (iI k), .int (iI wh), .ref (ad 17 0)])).length) Slot.unset).toArray = ls at hl ⊢
  have hl : lv_has ls 6 [(0, .ref (ad 0 0)), (1, .int (iI st)), (2, .int (iI k)), (3, .int (iI wh)), (4, .ref (ad 17 0))] := hl
  have hRst0 : -2147483648 ≤ st ∧ st < 2147483648 := hRst
  have hRk0 : -2147483648 ≤ k ∧ k < 2147483648 := hRk
  have hRwh0 : -2147483648 ≤ wh ∧ wh < 2147483648 := hRwh
  refine lv_aload hx hb dL_clash_0 (lv_at hl 4 rfl) ?_
  refine li_iconst hx hb dL_clash_2 ?_
  refine lv_aload_n hx hb dL_clash_3 rfl (lv_at hl 0 rfl) ?_
  refine lv_iload_n hx hb dL_clash_4 rfl (lv_at hl 1 rfl) ?_
  refine lv_iload_n hx hb dL_clash_5 rfl (lv_at hl 2 rfl) ?_
  refine lv_iload_n hx hb dL_clash_6 rfl (lv_at hl 3 rfl) ?_
  refine bk_V (E0 := bt_iae) (h := 15) (As := [.int (iI st), .int (iI k), .int (iI wh)]) (rest := [.int (iI 0), .ref (ad 17 0)]) (kd := 0) (k := 0) (ci := 1) ⟨hx, hb, hml, hown, hts⟩ (c_X1_clash_f l hst g ad σ τ w sa st k wh (by unfold iR; omega) (by unfold iR; omega) (by unfold iR; omega) hB (by omega)) (cwV 3 hts gL_clash_X1_clash rfl rfl rfl (by decide +kernel) ⟨Nat.le_of_ble_eq_true rfl, Nat.le_of_ble_eq_true rfl⟩) hK hU hT hF hlc (bx_L0 (by omega)) rfl rfl rfl hl.1 rfl (Nat.le_of_ble_eq_true rfl) dL_clash_7 ⟨Nat.le_of_ble_eq_true rfl, Nat.le_of_ble_eq_true rfl⟩ (fun thrown hth pl hpl => by rw [htab]; exact bk_one hpl hown hth (by decide) (by decide) (hts (.classLink RL 13 "java/lang/IllegalArgumentException") (by decide +kernel)) (hT.args _ (by decide +kernel)) rfl) (fun qx H locs hU hF1 hlc => ?_)
  have hF := hF.tr hF1
  refine lv_astore (lv' := [(5, .ref qx), (0, .ref (ad 0 0)), (1, .int (iI st)), (2, .int (iI k)), (3, .int (iI wh)), (4, .ref (ad 17 0))]) hx hb dL_clash_15 hl (by decide) rfl (fun ls hl => ?_)
  refine li_iconst hx hb dL_clash_17 ?_
  exact bh_i hx hb hr hlocks hU hF hlc rfl dL_clash_18

set_option maxHeartbeats 4000000 in
set_option maxRecDepth 100000 in
theorem lh_common_t (l : Launch) (g : bxG) (ad : bxA) (σ τ : bxS) (w : bxW) (sa : Nat → Nat) (p q : Int) (hRp : iR p) (hRq : iR q) (hB : bx_B σ) (hg : (0 ≤ p ∧ p < 60 ∧ σ 2 p 0 ≠ 0) ∧ (0 ≤ q ∧ q < 60 ∧ σ 2 q 0 ≠ 0) ∧ p ≠ q) : vx_Met l yL_common wsL_common ({ frames := 8, cells := 0, slots := 0, locals := 141 }) (va_Pc [.ref (ad 0 0), .int (iI p), .int (iI q), .ref (ad 17 0)] (fun U => bt_J g ad σ τ w sa U)) (bq_H (some (.int (iI 0))) g (fun H => bx_U g ad (σ) τ ((1 * ((iI (max 0 (min (hHi σ p 0) (hHi σ q 0) - max (hLo σ p 0) (hLo σ q 0)))).toInt64) * ((iI (max 0 (min (hHi σ p 1) (hHi σ q 1) - max (hLo σ p 1) (hLo σ q 1)))).toInt64) * ((iI (max 0 (min (hHi σ p 2) (hHi σ q 2) - max (hLo σ p 2) (hLo σ q 2)))).toInt64)), w.2) H)) bq_nx 0 0 (bq_fr g) := by
  refine vx_ofWH (cc := cL_common) (maxL := 5) (ret := (some .int)) (hh := [(0, 9, 12, 13)]) (by decide) rfl ?_
  intro Pg Ev s mI args below meth cd s₁ B hml hv
  obtain ⟨rfl, ⟨⟨hU, hK⟩, hT⟩, hNc⟩ := hv
  have hx := B.exec
  have hb := B.bytes
  have hr := B.returns
  have hts := atoms_spec (ws := wsL_common) B.pre
  have hown : s.vm.findClass RL = some mI.cls := findClass_of_methodNamed B.named
  have hlocks := B.notSynchronized
  have htab := vx_table (x := yL_common) B (hts _ List.mem_cons_self)
  have hF : bx_F g s.heap s.heap := bx_F.rf
  have hlc : bx_Lc g [] := bx_Lc.nil
  refine vx_ret ?_
  have hl := lv_entry ([.ref (ad 0 0), .int (iI p), .int (iI q), .ref (ad 17 0)]) (n := 5) (Nat.le_of_ble_eq_true rfl)
  rw [lg_entry_eq]
  generalize (lg_sl ([.ref (ad 0 0), .int (iI p), .int (iI q), .ref (ad 17 0)]) ++ List.replicate (5 - (lg_sl ([.ref (ad 0 0), .int (iI p), .int (iI q), .ref (ad 17 0)])).length) Slot.unset).toArray = ls at hl ⊢
  have hl : lv_has ls 5 [(0, .ref (ad 0 0)), (1, .int (iI p)), (2, .int (iI q)), (3, .ref (ad 17 0))] := hl
  have hRp0 : -2147483648 ≤ p ∧ p < 2147483648 := hRp
  have hRq0 : -2147483648 ≤ q ∧ q < 2147483648 := hRq
  refine lv_aload_n hx hb dL_common_0 rfl (lv_at hl 3 rfl) ?_
  refine li_iconst hx hb dL_common_1 ?_
  refine lv_aload_n hx hb dL_common_2 rfl (lv_at hl 0 rfl) ?_
  refine lv_iload_n hx hb dL_common_3 rfl (lv_at hl 1 rfl) ?_
  refine lv_iload_n hx hb dL_common_4 rfl (lv_at hl 2 rfl) ?_
  refine bc_V (As := [.int (iI p), .int (iI q)]) (rest := [.int (iI 0), .ref (ad 17 0)]) (kd := 0) (k := 0) (ci := 1) ⟨hx, hb, hml, hown, hts⟩ (c_X1_common_t l g ad σ τ w p q (by unfold iR; omega) (by unfold iR; omega) hB (by omega)) (cwV 2 hts gL_common_X1_common rfl rfl rfl (by decide +kernel) ⟨Nat.le_of_ble_eq_true rfl, Nat.le_of_ble_eq_true rfl⟩) hK hU (bx_L0 (by omega)) rfl rfl rfl hl.1 rfl (Nat.le_of_ble_eq_true rfl) dL_common_5 ⟨Nat.le_of_ble_eq_true rfl, Nat.le_of_ble_eq_true rfl⟩ ?_
  refine bs_17 hx hb hK hU hlc dL_common_8 (fun H locs hU hF1 hlc => ?_)
  have hF := hF.tr hF1
  refine lv_goto (tgt := 16) hx hb dL_common_9 (by decide) ?_
  refine li_iconst hx hb dL_common_16 ?_
  exact bh_i hx hb hr hlocks hU hF hlc rfl dL_common_17

set_option maxHeartbeats 4000000 in
set_option maxRecDepth 100000 in
theorem lh_common_f (l : Launch) (hst : l.stackTraces = false) (g : bxG) (ad : bxA) (σ τ : bxS) (w : bxW) (sa : Nat → Nat) (p q : Int) (hRp : iR p) (hRq : iR q) (hB : bx_B σ) (hg : ¬ ((0 ≤ p ∧ p < 60 ∧ σ 2 p 0 ≠ 0) ∧ (0 ≤ q ∧ q < 60 ∧ σ 2 q 0 ≠ 0) ∧ p ≠ q)) : vx_Met l yL_common wsL_common ({ frames := 8, cells := 1, slots := 6, locals := 141 }) (va_Pc [.ref (ad 0 0), .int (iI p), .int (iI q), .ref (ad 17 0)] (fun U => bt_J g ad σ τ w sa U)) (bq_H (some (.int (iI 1))) g (fun H => bx_U g ad σ τ w H)) bq_nx 1 6 (bq_fr g) := by
  refine vx_ofWH (cc := cL_common) (maxL := 5) (ret := (some .int)) (hh := [(0, 9, 12, 13)]) (by decide) rfl ?_
  intro Pg Ev s mI args below meth cd s₁ B hml hv
  obtain ⟨rfl, ⟨⟨hU, hK⟩, hT⟩, hNc⟩ := hv
  have hx := B.exec
  have hb := B.bytes
  have hr := B.returns
  have hts := atoms_spec (ws := wsL_common) B.pre
  have hown : s.vm.findClass RL = some mI.cls := findClass_of_methodNamed B.named
  have hlocks := B.notSynchronized
  have htab := vx_table (x := yL_common) B (hts _ List.mem_cons_self)
  have hF : bx_F g s.heap s.heap := bx_F.rf
  have hlc : bx_Lc g [] := bx_Lc.nil
  refine vx_ret ?_
  have hl := lv_entry ([.ref (ad 0 0), .int (iI p), .int (iI q), .ref (ad 17 0)]) (n := 5) (Nat.le_of_ble_eq_true rfl)
  rw [lg_entry_eq]
  generalize (lg_sl ([.ref (ad 0 0), .int (iI p), .int (iI q), .ref (ad 17 0)]) ++ List.replicate (5 - (lg_sl ([.ref (ad 0 0), .int (iI p), .int (iI q), .ref (ad 17 0)])).length) Slot.unset).toArray = ls at hl ⊢
  have hl : lv_has ls 5 [(0, .ref (ad 0 0)), (1, .int (iI p)), (2, .int (iI q)), (3, .ref (ad 17 0))] := hl
  have hRp0 : -2147483648 ≤ p ∧ p < 2147483648 := hRp
  have hRq0 : -2147483648 ≤ q ∧ q < 2147483648 := hRq
  refine lv_aload_n hx hb dL_common_0 rfl (lv_at hl 3 rfl) ?_
  refine li_iconst hx hb dL_common_1 ?_
  refine lv_aload_n hx hb dL_common_2 rfl (lv_at hl 0 rfl) ?_
  refine lv_iload_n hx hb dL_common_3 rfl (lv_at hl 1 rfl) ?_
  refine lv_iload_n hx hb dL_common_4 rfl (lv_at hl 2 rfl) ?_
  refine bk_V (E0 := bt_iae) (h := 12) (As := [.int (iI p), .int (iI q)]) (rest := [.int (iI 0), .ref (ad 17 0)]) (kd := 0) (k := 0) (ci := 1) ⟨hx, hb, hml, hown, hts⟩ (c_X1_common_f l hst g ad σ τ w sa p q (by unfold iR; omega) (by unfold iR; omega) hB (by omega)) (cwV 2 hts gL_common_X1_common rfl rfl rfl (by decide +kernel) ⟨Nat.le_of_ble_eq_true rfl, Nat.le_of_ble_eq_true rfl⟩) hK hU hT hF hlc (bx_L0 (by omega)) rfl rfl rfl hl.1 rfl (Nat.le_of_ble_eq_true rfl) dL_common_5 ⟨Nat.le_of_ble_eq_true rfl, Nat.le_of_ble_eq_true rfl⟩ (fun thrown hth pl hpl => by rw [htab]; exact bk_one hpl hown hth (by decide) (by decide) (hts (.classLink RL 13 "java/lang/IllegalArgumentException") (by decide +kernel)) (hT.args _ (by decide +kernel)) rfl) (fun qx H locs hU hF1 hlc => ?_)
  have hF := hF.tr hF1
  refine lv_astore (lv' := [(4, .ref qx), (0, .ref (ad 0 0)), (1, .int (iI p)), (2, .int (iI q)), (3, .ref (ad 17 0))]) hx hb dL_common_12 hl (by decide) rfl (fun ls hl => ?_)
  refine li_iconst hx hb dL_common_14 ?_
  exact bh_i hx hb hr hlocks hU hF hlc rfl dL_common_15

set_option maxHeartbeats 4000000 in
set_option maxRecDepth 100000 in
theorem lh_inside_t (l : Launch) (g : bxG) (ad : bxA) (σ τ : bxS) (w : bxW) (sa : Nat → Nat) (x y z tx ty tz k : Int) (hRx : iR x) (hRy : iR y) (hRz : iR z) (hRtx : iR tx) (hRty : iR ty) (hRtz : iR tz) (hRk : iR k) (hB : bx_B σ) (hg : (-2000 ≤ x ∧ x ≤ 2000 ∧ -2000 ≤ tx ∧ tx ≤ 2000 ∧ x < tx) ∧ (-2000 ≤ y ∧ y ≤ 2000 ∧ -2000 ≤ ty ∧ ty ≤ 2000 ∧ y < ty) ∧ (-2000 ≤ z ∧ z ≤ 2000 ∧ -2000 ≤ tz ∧ tz ≤ 2000 ∧ z < tz) ∧ 0 ≤ k) : vx_Met l yL_inside wsL_inside ({ frames := 8, cells := 0, slots := 0, locals := 140 }) (va_Pc [.ref (ad 0 0), .int (iI x), .int (iI y), .int (iI z), .int (iI tx), .int (iI ty), .int (iI tz), .int (iI k), .ref (ad 17 0)] (fun U => bt_J g ad σ τ w sa U)) (bq_H (some (.int (iI 0))) g (fun H => bx_U g ad (σ) τ ((iI (nth (insP σ x y z tx ty tz) 0 (σ 0 0 0) k)).toInt64, w.2) H)) bq_nx 0 0 (bq_fr g) := by
  refine vx_ofWH (cc := cL_inside) (maxL := 10) (ret := (some .int)) (hh := [(0, 20, 23, 13)]) (by decide) rfl ?_
  intro Pg Ev s mI args below meth cd s₁ B hml hv
  obtain ⟨rfl, ⟨⟨hU, hK⟩, hT⟩, hNc⟩ := hv
  have hx := B.exec
  have hb := B.bytes
  have hr := B.returns
  have hts := atoms_spec (ws := wsL_inside) B.pre
  have hown : s.vm.findClass RL = some mI.cls := findClass_of_methodNamed B.named
  have hlocks := B.notSynchronized
  have htab := vx_table (x := yL_inside) B (hts _ List.mem_cons_self)
  have hF : bx_F g s.heap s.heap := bx_F.rf
  have hlc : bx_Lc g [] := bx_Lc.nil
  refine vx_ret ?_
  have hl := lv_entry ([.ref (ad 0 0), .int (iI x), .int (iI y), .int (iI z), .int (iI tx), .int (iI ty), .int (iI tz), .int (iI k), .ref (ad 17 0)]) (n := 10) (Nat.le_of_ble_eq_true rfl)
  rw [lg_entry_eq]
  generalize (lg_sl ([.ref (ad 0 0), .int (iI x), .int (iI y), .int (iI z), .int (iI tx), .int (iI ty), .int (iI tz), .int (iI k), .ref (ad 17 0)]) ++ List.replicate (10 - (lg_sl ([.ref (ad 0 0), .int (iI x), .int (iI y), .int (iI z), .int (iI tx), .int (iI ty), .int (iI tz), .int (iI k), .ref (ad 17 0)])).length) Slot.unset).toArray = ls at hl ⊢
  have hl : lv_has ls 10 [(0, .ref (ad 0 0)), (1, .int (iI x)), (2, .int (iI y)), (3, .int (iI z)), (4, .int (iI tx)), (5, .int (iI ty)), (6, .int (iI tz)), (7, .int (iI k)), (8, .ref (ad 17 0))] := hl
  have hRx0 : -2147483648 ≤ x ∧ x < 2147483648 := hRx
  have hRy0 : -2147483648 ≤ y ∧ y < 2147483648 := hRy
  have hRz0 : -2147483648 ≤ z ∧ z < 2147483648 := hRz
  have hRtx0 : -2147483648 ≤ tx ∧ tx < 2147483648 := hRtx
  have hRty0 : -2147483648 ≤ ty ∧ ty < 2147483648 := hRty
  have hRtz0 : -2147483648 ≤ tz ∧ tz < 2147483648 := hRtz
  have hRk0 : -2147483648 ≤ k ∧ k < 2147483648 := hRk
  refine lv_aload hx hb dL_inside_0 (lv_at hl 8 rfl) ?_
  refine li_iconst hx hb dL_inside_2 ?_
  refine lv_aload_n hx hb dL_inside_3 rfl (lv_at hl 0 rfl) ?_
  refine lv_iload_n hx hb dL_inside_4 rfl (lv_at hl 1 rfl) ?_
  refine lv_iload_n hx hb dL_inside_5 rfl (lv_at hl 2 rfl) ?_
  refine lv_iload_n hx hb dL_inside_6 rfl (lv_at hl 3 rfl) ?_
  refine lv_iload hx hb dL_inside_7 (lv_at hl 4 rfl) ?_
  refine lv_iload hx hb dL_inside_9 (lv_at hl 5 rfl) ?_
  refine lv_iload hx hb dL_inside_11 (lv_at hl 6 rfl) ?_
  refine lv_iload hx hb dL_inside_13 (lv_at hl 7 rfl) ?_
  refine bc_V (As := [.int (iI x), .int (iI y), .int (iI z), .int (iI tx), .int (iI ty), .int (iI tz), .int (iI k)]) (rest := [.int (iI 0), .ref (ad 17 0)]) (kd := 0) (k := 0) (ci := 1) ⟨hx, hb, hml, hown, hts⟩ (c_X1_inside_t l g ad σ τ w x y z tx ty tz k (by unfold iR; omega) (by unfold iR; omega) (by unfold iR; omega) (by unfold iR; omega) (by unfold iR; omega) (by unfold iR; omega) (by unfold iR; omega) hB (by omega)) (cwV 7 hts gL_inside_X1_inside rfl rfl rfl (by decide +kernel) ⟨Nat.le_of_ble_eq_true rfl, Nat.le_of_ble_eq_true rfl⟩) hK hU (bx_L0 (by omega)) rfl rfl rfl hl.1 rfl (Nat.le_of_ble_eq_true rfl) dL_inside_15 ⟨Nat.le_of_ble_eq_true rfl, Nat.le_of_ble_eq_true rfl⟩ ?_
  refine lv_i2l (v := (iI (nth (insP σ x y z tx ty tz) 0 (σ 0 0 0) k)).toInt64) hx hb dL_inside_18 rfl ?_
  refine bs_17 hx hb hK hU hlc dL_inside_19 (fun H locs hU hF1 hlc => ?_)
  have hF := hF.tr hF1
  refine lv_goto (tgt := 27) hx hb dL_inside_20 (by decide) ?_
  refine li_iconst hx hb dL_inside_27 ?_
  exact bh_i hx hb hr hlocks hU hF hlc rfl dL_inside_28

set_option maxHeartbeats 4000000 in
set_option maxRecDepth 100000 in
theorem lh_inside_f (l : Launch) (hst : l.stackTraces = false) (g : bxG) (ad : bxA) (σ τ : bxS) (w : bxW) (sa : Nat → Nat) (x y z tx ty tz k : Int) (hRx : iR x) (hRy : iR y) (hRz : iR z) (hRtx : iR tx) (hRty : iR ty) (hRtz : iR tz) (hRk : iR k) (hB : bx_B σ) (hg : ¬ ((-2000 ≤ x ∧ x ≤ 2000 ∧ -2000 ≤ tx ∧ tx ≤ 2000 ∧ x < tx) ∧ (-2000 ≤ y ∧ y ≤ 2000 ∧ -2000 ≤ ty ∧ ty ≤ 2000 ∧ y < ty) ∧ (-2000 ≤ z ∧ z ≤ 2000 ∧ -2000 ≤ tz ∧ tz ≤ 2000 ∧ z < tz) ∧ 0 ≤ k)) : vx_Met l yL_inside wsL_inside ({ frames := 8, cells := 1, slots := 6, locals := 140 }) (va_Pc [.ref (ad 0 0), .int (iI x), .int (iI y), .int (iI z), .int (iI tx), .int (iI ty), .int (iI tz), .int (iI k), .ref (ad 17 0)] (fun U => bt_J g ad σ τ w sa U)) (bq_H (some (.int (iI 1))) g (fun H => bx_U g ad σ τ w H)) bq_nx 1 6 (bq_fr g) := by
  refine vx_ofWH (cc := cL_inside) (maxL := 10) (ret := (some .int)) (hh := [(0, 20, 23, 13)]) (by decide) rfl ?_
  intro Pg Ev s mI args below meth cd s₁ B hml hv
  obtain ⟨rfl, ⟨⟨hU, hK⟩, hT⟩, hNc⟩ := hv
  have hx := B.exec
  have hb := B.bytes
  have hr := B.returns
  have hts := atoms_spec (ws := wsL_inside) B.pre
  have hown : s.vm.findClass RL = some mI.cls := findClass_of_methodNamed B.named
  have hlocks := B.notSynchronized
  have htab := vx_table (x := yL_inside) B (hts _ List.mem_cons_self)
  have hF : bx_F g s.heap s.heap := bx_F.rf
  have hlc : bx_Lc g [] := bx_Lc.nil
  refine vx_ret ?_
  have hl := lv_entry ([.ref (ad 0 0), .int (iI x), .int (iI y), .int (iI z), .int (iI tx), .int (iI ty), .int (iI tz), .int (iI k), .ref (ad 17 0)]) (n := 10) (Nat.le_of_ble_eq_true rfl)
  rw [lg_entry_eq]
  generalize (lg_sl ([.ref (ad 0 0), .int (iI x), .int (iI y), .int (iI z), .int (iI tx), .int (iI ty), .int (iI tz), .int (iI k), .ref (ad 17 0)]) ++ List.replicate (10 - (lg_sl ([.ref (ad 0 0), .int (iI x), .int (iI y), .int (iI z), .int (iI tx), .int (iI ty), .int (iI tz), .int (iI k), .ref (ad 17 0)])).length) Slot.unset).toArray = ls at hl ⊢
  have hl : lv_has ls 10 [(0, .ref (ad 0 0)), (1, .int (iI x)), (2, .int (iI y)), (3, .int (iI z)), (4, .int (iI tx)), (5, .int (iI ty)), (6, .int (iI tz)), (7, .int (iI k)), (8, .ref (ad 17 0))] := hl
  have hRx0 : -2147483648 ≤ x ∧ x < 2147483648 := hRx
  have hRy0 : -2147483648 ≤ y ∧ y < 2147483648 := hRy
  have hRz0 : -2147483648 ≤ z ∧ z < 2147483648 := hRz
  have hRtx0 : -2147483648 ≤ tx ∧ tx < 2147483648 := hRtx
  have hRty0 : -2147483648 ≤ ty ∧ ty < 2147483648 := hRty
  have hRtz0 : -2147483648 ≤ tz ∧ tz < 2147483648 := hRtz
  have hRk0 : -2147483648 ≤ k ∧ k < 2147483648 := hRk
  refine lv_aload hx hb dL_inside_0 (lv_at hl 8 rfl) ?_
  refine li_iconst hx hb dL_inside_2 ?_
  refine lv_aload_n hx hb dL_inside_3 rfl (lv_at hl 0 rfl) ?_
  refine lv_iload_n hx hb dL_inside_4 rfl (lv_at hl 1 rfl) ?_
  refine lv_iload_n hx hb dL_inside_5 rfl (lv_at hl 2 rfl) ?_
  refine lv_iload_n hx hb dL_inside_6 rfl (lv_at hl 3 rfl) ?_
  refine lv_iload hx hb dL_inside_7 (lv_at hl 4 rfl) ?_
  refine lv_iload hx hb dL_inside_9 (lv_at hl 5 rfl) ?_
  refine lv_iload hx hb dL_inside_11 (lv_at hl 6 rfl) ?_
  refine lv_iload hx hb dL_inside_13 (lv_at hl 7 rfl) ?_
  refine bk_V (E0 := bt_iae) (h := 23) (As := [.int (iI x), .int (iI y), .int (iI z), .int (iI tx), .int (iI ty), .int (iI tz), .int (iI k)]) (rest := [.int (iI 0), .ref (ad 17 0)]) (kd := 0) (k := 0) (ci := 1) ⟨hx, hb, hml, hown, hts⟩ (c_X1_inside_f l hst g ad σ τ w sa x y z tx ty tz k (by unfold iR; omega) (by unfold iR; omega) (by unfold iR; omega) (by unfold iR; omega) (by unfold iR; omega) (by unfold iR; omega) (by unfold iR; omega) hB (by omega)) (cwV 7 hts gL_inside_X1_inside rfl rfl rfl (by decide +kernel) ⟨Nat.le_of_ble_eq_true rfl, Nat.le_of_ble_eq_true rfl⟩) hK hU hT hF hlc (bx_L0 (by omega)) rfl rfl rfl hl.1 rfl (Nat.le_of_ble_eq_true rfl) dL_inside_15 ⟨Nat.le_of_ble_eq_true rfl, Nat.le_of_ble_eq_true rfl⟩ (fun thrown hth pl hpl => by rw [htab]; exact bk_one hpl hown hth (by decide) (by decide) (hts (.classLink RL 13 "java/lang/IllegalArgumentException") (by decide +kernel)) (hT.args _ (by decide +kernel)) rfl) (fun qx H locs hU hF1 hlc => ?_)
  have hF := hF.tr hF1
  refine lv_astore (lv' := [(9, .ref qx), (0, .ref (ad 0 0)), (1, .int (iI x)), (2, .int (iI y)), (3, .int (iI z)), (4, .int (iI tx)), (5, .int (iI ty)), (6, .int (iI tz)), (7, .int (iI k)), (8, .ref (ad 17 0))]) hx hb dL_inside_23 hl (by decide) rfl (fun ls hl => ?_)
  refine li_iconst hx hb dL_inside_25 ?_
  exact bh_i hx hb hr hlocks hU hF hlc rfl dL_inside_26

set_option maxHeartbeats 4000000 in
set_option maxRecDepth 100000 in
theorem lh_shift_t (l : Launch) (g : bxG) (ad : bxA) (σ τ : bxS) (w : bxW) (sa : Nat → Nat) (p a mo : Int) (hRp : iR p) (hRa : iR a) (hRmo : iR mo) (hB : bx_B σ) (hg : (0 ≤ p ∧ p < 60 ∧ σ 2 p 0 ≠ 0) ∧ (0 ≤ a ∧ a ≤ 2) ∧ 0 ≤ mo ∧ mo ≤ 1000) : vx_Met l yL_shift wsL_shift ({ frames := 8, cells := 0, slots := 0, locals := 154 }) (va_Pc [.ref (ad 0 0), .int (iI p), .int (iI a), .int (iI mo), .ref (ad 17 0)] (fun U => bt_J g ad σ τ w sa U)) (bq_H (some (.int (iI 0))) g (fun H => bx_U g ad (setF (setF σ 12 (fb σ p a (fun i => bLo σ p i a) (fun t => σ 12 t 0) (σ 0 0 0))) 13 (fb σ p a (fun i => bHi σ p i a) (fun t => σ 13 t 0) (σ 0 0 0))) τ ((iI (shR (fsh (fb σ p a (fun i => bLo σ p i a) (fun t => σ 12 t 0) (σ 0 0 0)) (fb σ p a (fun i => bHi σ p i a) (fun t => σ 13 t 0) (σ 0 0 0)) (cnt (blkP σ p a) 0 (σ 0 0 0)) 1) (fsh (fb σ p a (fun i => bLo σ p i a) (fun t => σ 12 t 0) (σ 0 0 0)) (fb σ p a (fun i => bHi σ p i a) (fun t => σ 13 t 0) (σ 0 0 0)) (cnt (blkP σ p a) 0 (σ 0 0 0)) 0) mo (stS σ p a))).toInt64, w.2) H)) bq_nx 0 0 (bq_fr g) := by
  refine vx_ofWH (cc := cL_shift) (maxL := 6) (ret := (some .int)) (hh := [(0, 12, 15, 13)]) (by decide) rfl ?_
  intro Pg Ev s mI args below meth cd s₁ B hml hv
  obtain ⟨rfl, ⟨⟨hU, hK⟩, hT⟩, hNc⟩ := hv
  have hx := B.exec
  have hb := B.bytes
  have hr := B.returns
  have hts := atoms_spec (ws := wsL_shift) B.pre
  have hown : s.vm.findClass RL = some mI.cls := findClass_of_methodNamed B.named
  have hlocks := B.notSynchronized
  have htab := vx_table (x := yL_shift) B (hts _ List.mem_cons_self)
  have hF : bx_F g s.heap s.heap := bx_F.rf
  have hlc : bx_Lc g [] := bx_Lc.nil
  refine vx_ret ?_
  have hl := lv_entry ([.ref (ad 0 0), .int (iI p), .int (iI a), .int (iI mo), .ref (ad 17 0)]) (n := 6) (Nat.le_of_ble_eq_true rfl)
  rw [lg_entry_eq]
  generalize (lg_sl ([.ref (ad 0 0), .int (iI p), .int (iI a), .int (iI mo), .ref (ad 17 0)]) ++ List.replicate (6 - (lg_sl ([.ref (ad 0 0), .int (iI p), .int (iI a), .int (iI mo), .ref (ad 17 0)])).length) Slot.unset).toArray = ls at hl ⊢
  have hl : lv_has ls 6 [(0, .ref (ad 0 0)), (1, .int (iI p)), (2, .int (iI a)), (3, .int (iI mo)), (4, .ref (ad 17 0))] := hl
  have hRp0 : -2147483648 ≤ p ∧ p < 2147483648 := hRp
  have hRa0 : -2147483648 ≤ a ∧ a < 2147483648 := hRa
  have hRmo0 : -2147483648 ≤ mo ∧ mo < 2147483648 := hRmo
  refine lv_aload hx hb dL_shift_0 (lv_at hl 4 rfl) ?_
  refine li_iconst hx hb dL_shift_2 ?_
  refine lv_aload_n hx hb dL_shift_3 rfl (lv_at hl 0 rfl) ?_
  refine lv_iload_n hx hb dL_shift_4 rfl (lv_at hl 1 rfl) ?_
  refine lv_iload_n hx hb dL_shift_5 rfl (lv_at hl 2 rfl) ?_
  refine lv_iload_n hx hb dL_shift_6 rfl (lv_at hl 3 rfl) ?_
  refine bc_VW (As := [.int (iI p), .int (iI a), .int (iI mo)]) (rest := [.int (iI 0), .ref (ad 17 0)]) (kd := 0) (k := 0) (ci := 1) ⟨hx, hb, hml, hown, hts⟩ (c_X1_shift_t l g ad σ τ w p a mo (by unfold iR; omega) (by unfold iR; omega) (by unfold iR; omega) hB (by omega)) (cwV 3 hts gL_shift_X1_shift rfl rfl rfl (by decide +kernel) ⟨Nat.le_of_ble_eq_true rfl, Nat.le_of_ble_eq_true rfl⟩) hK hU hlc (bx_L0 (by omega)) rfl rfl rfl hl.1 rfl (Nat.le_of_ble_eq_true rfl) dL_shift_7 ⟨Nat.le_of_ble_eq_true rfl, Nat.le_of_ble_eq_true rfl⟩ (fun H locs hU hF1 hlc => ?_)
  have hF := hF.tr hF1
  refine lv_i2l (v := (iI (shR (fsh (fb σ p a (fun i => bLo σ p i a) (fun t => σ 12 t 0) (σ 0 0 0)) (fb σ p a (fun i => bHi σ p i a) (fun t => σ 13 t 0) (σ 0 0 0)) (cnt (blkP σ p a) 0 (σ 0 0 0)) 1) (fsh (fb σ p a (fun i => bLo σ p i a) (fun t => σ 12 t 0) (σ 0 0 0)) (fb σ p a (fun i => bHi σ p i a) (fun t => σ 13 t 0) (σ 0 0 0)) (cnt (blkP σ p a) 0 (σ 0 0 0)) 0) mo (stS σ p a))).toInt64) hx hb dL_shift_10 rfl ?_
  refine bs_17 hx hb hK hU hlc dL_shift_11 (fun H locs hU hF1 hlc => ?_)
  have hF := hF.tr hF1
  refine lv_goto (tgt := 19) hx hb dL_shift_12 (by decide) ?_
  refine li_iconst hx hb dL_shift_19 ?_
  exact bh_i hx hb hr hlocks hU hF hlc rfl dL_shift_20

set_option maxHeartbeats 4000000 in
set_option maxRecDepth 100000 in
theorem lh_shift_f (l : Launch) (hst : l.stackTraces = false) (g : bxG) (ad : bxA) (σ τ : bxS) (w : bxW) (sa : Nat → Nat) (p a mo : Int) (hRp : iR p) (hRa : iR a) (hRmo : iR mo) (hB : bx_B σ) (hg : ¬ ((0 ≤ p ∧ p < 60 ∧ σ 2 p 0 ≠ 0) ∧ (0 ≤ a ∧ a ≤ 2) ∧ 0 ≤ mo ∧ mo ≤ 1000)) : vx_Met l yL_shift wsL_shift ({ frames := 8, cells := 1, slots := 6, locals := 154 }) (va_Pc [.ref (ad 0 0), .int (iI p), .int (iI a), .int (iI mo), .ref (ad 17 0)] (fun U => bt_J g ad σ τ w sa U)) (bq_H (some (.int (iI 1))) g (fun H => bx_U g ad σ τ w H)) bq_nx 1 6 (bq_fr g) := by
  refine vx_ofWH (cc := cL_shift) (maxL := 6) (ret := (some .int)) (hh := [(0, 12, 15, 13)]) (by decide) rfl ?_
  intro Pg Ev s mI args below meth cd s₁ B hml hv
  obtain ⟨rfl, ⟨⟨hU, hK⟩, hT⟩, hNc⟩ := hv
  have hx := B.exec
  have hb := B.bytes
  have hr := B.returns
  have hts := atoms_spec (ws := wsL_shift) B.pre
  have hown : s.vm.findClass RL = some mI.cls := findClass_of_methodNamed B.named
  have hlocks := B.notSynchronized
  have htab := vx_table (x := yL_shift) B (hts _ List.mem_cons_self)
  have hF : bx_F g s.heap s.heap := bx_F.rf
  have hlc : bx_Lc g [] := bx_Lc.nil
  refine vx_ret ?_
  have hl := lv_entry ([.ref (ad 0 0), .int (iI p), .int (iI a), .int (iI mo), .ref (ad 17 0)]) (n := 6) (Nat.le_of_ble_eq_true rfl)
  rw [lg_entry_eq]
  generalize (lg_sl ([.ref (ad 0 0), .int (iI p), .int (iI a), .int (iI mo), .ref (ad 17 0)]) ++ List.replicate (6 - (lg_sl ([.ref (ad 0 0), .int (iI p), .int (iI a), .int (iI mo), .ref (ad 17 0)])).length) Slot.unset).toArray = ls at hl ⊢
  have hl : lv_has ls 6 [(0, .ref (ad 0 0)), (1, .int (iI p)), (2, .int (iI a)), (3, .int (iI mo)), (4, .ref (ad 17 0))] := hl
  have hRp0 : -2147483648 ≤ p ∧ p < 2147483648 := hRp
  have hRa0 : -2147483648 ≤ a ∧ a < 2147483648 := hRa
  have hRmo0 : -2147483648 ≤ mo ∧ mo < 2147483648 := hRmo
  refine lv_aload hx hb dL_shift_0 (lv_at hl 4 rfl) ?_
  refine li_iconst hx hb dL_shift_2 ?_
  refine lv_aload_n hx hb dL_shift_3 rfl (lv_at hl 0 rfl) ?_
  refine lv_iload_n hx hb dL_shift_4 rfl (lv_at hl 1 rfl) ?_
  refine lv_iload_n hx hb dL_shift_5 rfl (lv_at hl 2 rfl) ?_
  refine lv_iload_n hx hb dL_shift_6 rfl (lv_at hl 3 rfl) ?_
  refine bk_V (E0 := bt_iae) (h := 15) (As := [.int (iI p), .int (iI a), .int (iI mo)]) (rest := [.int (iI 0), .ref (ad 17 0)]) (kd := 0) (k := 0) (ci := 1) ⟨hx, hb, hml, hown, hts⟩ (c_X1_shift_f l hst g ad σ τ w sa p a mo (by unfold iR; omega) (by unfold iR; omega) (by unfold iR; omega) hB (by omega)) (cwV 3 hts gL_shift_X1_shift rfl rfl rfl (by decide +kernel) ⟨Nat.le_of_ble_eq_true rfl, Nat.le_of_ble_eq_true rfl⟩) hK hU hT hF hlc (bx_L0 (by omega)) rfl rfl rfl hl.1 rfl (Nat.le_of_ble_eq_true rfl) dL_shift_7 ⟨Nat.le_of_ble_eq_true rfl, Nat.le_of_ble_eq_true rfl⟩ (fun thrown hth pl hpl => by rw [htab]; exact bk_one hpl hown hth (by decide) (by decide) (hts (.classLink RL 13 "java/lang/IllegalArgumentException") (by decide +kernel)) (hT.args _ (by decide +kernel)) rfl) (fun qx H locs hU hF1 hlc => ?_)
  have hF := hF.tr hF1
  refine lv_astore (lv' := [(5, .ref qx), (0, .ref (ad 0 0)), (1, .int (iI p)), (2, .int (iI a)), (3, .int (iI mo)), (4, .ref (ad 17 0))]) hx hb dL_shift_15 hl (by decide) rfl (fun ls hl => ?_)
  refine li_iconst hx hb dL_shift_17 ?_
  exact bh_i hx hb hr hlocks hU hF hlc rfl dL_shift_18

set_option maxHeartbeats 4000000 in
set_option maxRecDepth 100000 in
theorem lh_hull_t (l : Launch) (g : bxG) (ad : bxA) (σ τ : bxS) (w : bxW) (sa : Nat → Nat) (p a z : Int) (hRp : iR p) (hRa : iR a) (hRz : iR z) (hB : bx_B σ) (hg : (0 ≤ p ∧ p < 60 ∧ σ 2 p 0 ≠ 0) ∧ (0 ≤ a ∧ a ≤ 2) ∧ 0 ≤ z ∧ z ≤ 1) : vx_Met l yL_hull wsL_hull ({ frames := 8, cells := 0, slots := 0, locals := 136 }) (va_Pc [.ref (ad 0 0), .int (iI p), .int (iI a), .int (iI z), .ref (ad 17 0)] (fun U => bt_J g ad σ τ w sa U)) (bq_H (some (.int (iI 0))) g (fun H => bx_U g ad (σ) τ ((iI (if z = 0 then hLo σ p a else hHi σ p a)).toInt64, w.2) H)) bq_nx 0 0 (bq_fr g) := by
  refine vx_ofWH (cc := cL_hull) (maxL := 6) (ret := (some .int)) (hh := [(0, 12, 15, 13)]) (by decide) rfl ?_
  intro Pg Ev s mI args below meth cd s₁ B hml hv
  obtain ⟨rfl, ⟨⟨hU, hK⟩, hT⟩, hNc⟩ := hv
  have hx := B.exec
  have hb := B.bytes
  have hr := B.returns
  have hts := atoms_spec (ws := wsL_hull) B.pre
  have hown : s.vm.findClass RL = some mI.cls := findClass_of_methodNamed B.named
  have hlocks := B.notSynchronized
  have htab := vx_table (x := yL_hull) B (hts _ List.mem_cons_self)
  have hF : bx_F g s.heap s.heap := bx_F.rf
  have hlc : bx_Lc g [] := bx_Lc.nil
  refine vx_ret ?_
  have hl := lv_entry ([.ref (ad 0 0), .int (iI p), .int (iI a), .int (iI z), .ref (ad 17 0)]) (n := 6) (Nat.le_of_ble_eq_true rfl)
  rw [lg_entry_eq]
  generalize (lg_sl ([.ref (ad 0 0), .int (iI p), .int (iI a), .int (iI z), .ref (ad 17 0)]) ++ List.replicate (6 - (lg_sl ([.ref (ad 0 0), .int (iI p), .int (iI a), .int (iI z), .ref (ad 17 0)])).length) Slot.unset).toArray = ls at hl ⊢
  have hl : lv_has ls 6 [(0, .ref (ad 0 0)), (1, .int (iI p)), (2, .int (iI a)), (3, .int (iI z)), (4, .ref (ad 17 0))] := hl
  have hRp0 : -2147483648 ≤ p ∧ p < 2147483648 := hRp
  have hRa0 : -2147483648 ≤ a ∧ a < 2147483648 := hRa
  have hRz0 : -2147483648 ≤ z ∧ z < 2147483648 := hRz
  refine lv_aload hx hb dL_hull_0 (lv_at hl 4 rfl) ?_
  refine li_iconst hx hb dL_hull_2 ?_
  refine lv_aload_n hx hb dL_hull_3 rfl (lv_at hl 0 rfl) ?_
  refine lv_iload_n hx hb dL_hull_4 rfl (lv_at hl 1 rfl) ?_
  refine lv_iload_n hx hb dL_hull_5 rfl (lv_at hl 2 rfl) ?_
  refine lv_iload_n hx hb dL_hull_6 rfl (lv_at hl 3 rfl) ?_
  refine bc_V (As := [.int (iI p), .int (iI a), .int (iI z)]) (rest := [.int (iI 0), .ref (ad 17 0)]) (kd := 0) (k := 0) (ci := 1) ⟨hx, hb, hml, hown, hts⟩ (c_X1_hull_t l g ad σ τ w p a z (by unfold iR; omega) (by unfold iR; omega) (by unfold iR; omega) hB (by omega)) (cwV 3 hts gL_hull_X1_hull rfl rfl rfl (by decide +kernel) ⟨Nat.le_of_ble_eq_true rfl, Nat.le_of_ble_eq_true rfl⟩) hK hU (bx_L0 (by omega)) rfl rfl rfl hl.1 rfl (Nat.le_of_ble_eq_true rfl) dL_hull_7 ⟨Nat.le_of_ble_eq_true rfl, Nat.le_of_ble_eq_true rfl⟩ ?_
  refine lv_i2l (v := (iI (if z = 0 then hLo σ p a else hHi σ p a)).toInt64) hx hb dL_hull_10 rfl ?_
  refine bs_17 hx hb hK hU hlc dL_hull_11 (fun H locs hU hF1 hlc => ?_)
  have hF := hF.tr hF1
  refine lv_goto (tgt := 19) hx hb dL_hull_12 (by decide) ?_
  refine li_iconst hx hb dL_hull_19 ?_
  exact bh_i hx hb hr hlocks hU hF hlc rfl dL_hull_20

set_option maxHeartbeats 4000000 in
set_option maxRecDepth 100000 in
theorem lh_hull_f (l : Launch) (hst : l.stackTraces = false) (g : bxG) (ad : bxA) (σ τ : bxS) (w : bxW) (sa : Nat → Nat) (p a z : Int) (hRp : iR p) (hRa : iR a) (hRz : iR z) (hB : bx_B σ) (hg : ¬ ((0 ≤ p ∧ p < 60 ∧ σ 2 p 0 ≠ 0) ∧ (0 ≤ a ∧ a ≤ 2) ∧ 0 ≤ z ∧ z ≤ 1)) : vx_Met l yL_hull wsL_hull ({ frames := 8, cells := 1, slots := 6, locals := 136 }) (va_Pc [.ref (ad 0 0), .int (iI p), .int (iI a), .int (iI z), .ref (ad 17 0)] (fun U => bt_J g ad σ τ w sa U)) (bq_H (some (.int (iI 1))) g (fun H => bx_U g ad σ τ w H)) bq_nx 1 6 (bq_fr g) := by
  refine vx_ofWH (cc := cL_hull) (maxL := 6) (ret := (some .int)) (hh := [(0, 12, 15, 13)]) (by decide) rfl ?_
  intro Pg Ev s mI args below meth cd s₁ B hml hv
  obtain ⟨rfl, ⟨⟨hU, hK⟩, hT⟩, hNc⟩ := hv
  have hx := B.exec
  have hb := B.bytes
  have hr := B.returns
  have hts := atoms_spec (ws := wsL_hull) B.pre
  have hown : s.vm.findClass RL = some mI.cls := findClass_of_methodNamed B.named
  have hlocks := B.notSynchronized
  have htab := vx_table (x := yL_hull) B (hts _ List.mem_cons_self)
  have hF : bx_F g s.heap s.heap := bx_F.rf
  have hlc : bx_Lc g [] := bx_Lc.nil
  refine vx_ret ?_
  have hl := lv_entry ([.ref (ad 0 0), .int (iI p), .int (iI a), .int (iI z), .ref (ad 17 0)]) (n := 6) (Nat.le_of_ble_eq_true rfl)
  rw [lg_entry_eq]
  generalize (lg_sl ([.ref (ad 0 0), .int (iI p), .int (iI a), .int (iI z), .ref (ad 17 0)]) ++ List.replicate (6 - (lg_sl ([.ref (ad 0 0), .int (iI p), .int (iI a), .int (iI z), .ref (ad 17 0)])).length) Slot.unset).toArray = ls at hl ⊢
  have hl : lv_has ls 6 [(0, .ref (ad 0 0)), (1, .int (iI p)), (2, .int (iI a)), (3, .int (iI z)), (4, .ref (ad 17 0))] := hl
  have hRp0 : -2147483648 ≤ p ∧ p < 2147483648 := hRp
  have hRa0 : -2147483648 ≤ a ∧ a < 2147483648 := hRa
  have hRz0 : -2147483648 ≤ z ∧ z < 2147483648 := hRz
  refine lv_aload hx hb dL_hull_0 (lv_at hl 4 rfl) ?_
  refine li_iconst hx hb dL_hull_2 ?_
  refine lv_aload_n hx hb dL_hull_3 rfl (lv_at hl 0 rfl) ?_
  refine lv_iload_n hx hb dL_hull_4 rfl (lv_at hl 1 rfl) ?_
  refine lv_iload_n hx hb dL_hull_5 rfl (lv_at hl 2 rfl) ?_
  refine lv_iload_n hx hb dL_hull_6 rfl (lv_at hl 3 rfl) ?_
  refine bk_V (E0 := bt_iae) (h := 15) (As := [.int (iI p), .int (iI a), .int (iI z)]) (rest := [.int (iI 0), .ref (ad 17 0)]) (kd := 0) (k := 0) (ci := 1) ⟨hx, hb, hml, hown, hts⟩ (c_X1_hull_f l hst g ad σ τ w sa p a z (by unfold iR; omega) (by unfold iR; omega) (by unfold iR; omega) hB (by omega)) (cwV 3 hts gL_hull_X1_hull rfl rfl rfl (by decide +kernel) ⟨Nat.le_of_ble_eq_true rfl, Nat.le_of_ble_eq_true rfl⟩) hK hU hT hF hlc (bx_L0 (by omega)) rfl rfl rfl hl.1 rfl (Nat.le_of_ble_eq_true rfl) dL_hull_7 ⟨Nat.le_of_ble_eq_true rfl, Nat.le_of_ble_eq_true rfl⟩ (fun thrown hth pl hpl => by rw [htab]; exact bk_one hpl hown hth (by decide) (by decide) (hts (.classLink RL 13 "java/lang/IllegalArgumentException") (by decide +kernel)) (hT.args _ (by decide +kernel)) rfl) (fun qx H locs hU hF1 hlc => ?_)
  have hF := hF.tr hF1
  refine lv_astore (lv' := [(5, .ref qx), (0, .ref (ad 0 0)), (1, .int (iI p)), (2, .int (iI a)), (3, .int (iI z)), (4, .ref (ad 17 0))]) hx hb dL_hull_15 hl (by decide) rfl (fun ls hl => ?_)
  refine li_iconst hx hb dL_hull_17 ?_
  exact bh_i hx hb hr hlocks hU hF hlc rfl dL_hull_18

set_option maxHeartbeats 4000000 in
set_option maxRecDepth 100000 in
theorem lh_group_t (l : Launch) (g : bxG) (ad : bxA) (σ τ : bxS) (w : bxW) (sa : Nat → Nat) (p : Int) (hRp : iR p) (hB : bx_B σ) (hg : 0 ≤ p ∧ p < 60 ∧ σ 2 p 0 ≠ 0) : vx_Met l yL_group wsL_group ({ frames := 8, cells := 0, slots := 0, locals := 187 }) (va_Pc [.ref (ad 0 0), .int (iI p), .ref (ad 17 0)] (fun U => bt_J g ad σ τ w sa U)) (bq_H (some (.int (iI 0))) g (fun H => bx_U g ad (setF σ 10 (gnm σ (fun t => σ 10 t 0))) τ ((iI (gnm σ (fun t => σ 10 t 0) p)).toInt64, w.2) H)) bq_nx 0 0 (bq_fr g) := by
  refine vx_ofWH (cc := cL_group) (maxL := 4) (ret := (some .int)) (hh := [(0, 9, 12, 13)]) (by decide) rfl ?_
  intro Pg Ev s mI args below meth cd s₁ B hml hv
  obtain ⟨rfl, ⟨⟨hU, hK⟩, hT⟩, hNc⟩ := hv
  have hx := B.exec
  have hb := B.bytes
  have hr := B.returns
  have hts := atoms_spec (ws := wsL_group) B.pre
  have hown : s.vm.findClass RL = some mI.cls := findClass_of_methodNamed B.named
  have hlocks := B.notSynchronized
  have htab := vx_table (x := yL_group) B (hts _ List.mem_cons_self)
  have hF : bx_F g s.heap s.heap := bx_F.rf
  have hlc : bx_Lc g [] := bx_Lc.nil
  refine vx_ret ?_
  have hl := lv_entry ([.ref (ad 0 0), .int (iI p), .ref (ad 17 0)]) (n := 4) (Nat.le_of_ble_eq_true rfl)
  rw [lg_entry_eq]
  generalize (lg_sl ([.ref (ad 0 0), .int (iI p), .ref (ad 17 0)]) ++ List.replicate (4 - (lg_sl ([.ref (ad 0 0), .int (iI p), .ref (ad 17 0)])).length) Slot.unset).toArray = ls at hl ⊢
  have hl : lv_has ls 4 [(0, .ref (ad 0 0)), (1, .int (iI p)), (2, .ref (ad 17 0))] := hl
  have hRp0 : -2147483648 ≤ p ∧ p < 2147483648 := hRp
  refine lv_aload_n hx hb dL_group_0 rfl (lv_at hl 2 rfl) ?_
  refine li_iconst hx hb dL_group_1 ?_
  refine lv_aload_n hx hb dL_group_2 rfl (lv_at hl 0 rfl) ?_
  refine lv_iload_n hx hb dL_group_3 rfl (lv_at hl 1 rfl) ?_
  refine bc_VW (As := [.int (iI p)]) (rest := [.int (iI 0), .ref (ad 17 0)]) (kd := 0) (k := 0) (ci := 1) ⟨hx, hb, hml, hown, hts⟩ (c_X1_group_tt l g ad σ τ w p (by unfold iR; omega) hB (by omega)) (cwV 1 hts gL_group_X1_group rfl rfl rfl (by decide +kernel) ⟨Nat.le_of_ble_eq_true rfl, Nat.le_of_ble_eq_true rfl⟩) hK hU hlc (bx_L0 (by omega)) rfl rfl rfl hl.1 rfl (Nat.le_of_ble_eq_true rfl) dL_group_4 ⟨Nat.le_of_ble_eq_true rfl, Nat.le_of_ble_eq_true rfl⟩ (fun H locs hU hF1 hlc => ?_)
  have hF := hF.tr hF1
  refine lv_i2l (v := (iI (gnm σ (fun t => σ 10 t 0) p)).toInt64) hx hb dL_group_7 rfl ?_
  refine bs_17 hx hb hK hU hlc dL_group_8 (fun H locs hU hF1 hlc => ?_)
  have hF := hF.tr hF1
  refine lv_goto (tgt := 15) hx hb dL_group_9 (by decide) ?_
  refine li_iconst hx hb dL_group_15 ?_
  exact bh_i hx hb hr hlocks hU hF hlc rfl dL_group_16

set_option maxHeartbeats 4000000 in
set_option maxRecDepth 100000 in
theorem lh_group_f (l : Launch) (hst : l.stackTraces = false) (g : bxG) (ad : bxA) (σ τ : bxS) (w : bxW) (sa : Nat → Nat) (p : Int) (hRp : iR p) (hB : bx_B σ) (hg : ¬ (0 ≤ p ∧ p < 60 ∧ σ 2 p 0 ≠ 0)) : vx_Met l yL_group wsL_group ({ frames := 8, cells := 1, slots := 6, locals := 187 }) (va_Pc [.ref (ad 0 0), .int (iI p), .ref (ad 17 0)] (fun U => bt_J g ad σ τ w sa U)) (bq_H (some (.int (iI 1))) g (fun H => bx_U g ad σ τ w H)) bq_nx 1 6 (bq_fr g) := by
  refine vx_ofWH (cc := cL_group) (maxL := 4) (ret := (some .int)) (hh := [(0, 9, 12, 13)]) (by decide) rfl ?_
  intro Pg Ev s mI args below meth cd s₁ B hml hv
  obtain ⟨rfl, ⟨⟨hU, hK⟩, hT⟩, hNc⟩ := hv
  have hx := B.exec
  have hb := B.bytes
  have hr := B.returns
  have hts := atoms_spec (ws := wsL_group) B.pre
  have hown : s.vm.findClass RL = some mI.cls := findClass_of_methodNamed B.named
  have hlocks := B.notSynchronized
  have htab := vx_table (x := yL_group) B (hts _ List.mem_cons_self)
  have hF : bx_F g s.heap s.heap := bx_F.rf
  have hlc : bx_Lc g [] := bx_Lc.nil
  refine vx_ret ?_
  have hl := lv_entry ([.ref (ad 0 0), .int (iI p), .ref (ad 17 0)]) (n := 4) (Nat.le_of_ble_eq_true rfl)
  rw [lg_entry_eq]
  generalize (lg_sl ([.ref (ad 0 0), .int (iI p), .ref (ad 17 0)]) ++ List.replicate (4 - (lg_sl ([.ref (ad 0 0), .int (iI p), .ref (ad 17 0)])).length) Slot.unset).toArray = ls at hl ⊢
  have hl : lv_has ls 4 [(0, .ref (ad 0 0)), (1, .int (iI p)), (2, .ref (ad 17 0))] := hl
  have hRp0 : -2147483648 ≤ p ∧ p < 2147483648 := hRp
  refine lv_aload_n hx hb dL_group_0 rfl (lv_at hl 2 rfl) ?_
  refine li_iconst hx hb dL_group_1 ?_
  refine lv_aload_n hx hb dL_group_2 rfl (lv_at hl 0 rfl) ?_
  refine lv_iload_n hx hb dL_group_3 rfl (lv_at hl 1 rfl) ?_
  refine bk_V (E0 := bt_iae) (h := 12) (As := [.int (iI p)]) (rest := [.int (iI 0), .ref (ad 17 0)]) (kd := 0) (k := 0) (ci := 1) ⟨hx, hb, hml, hown, hts⟩ (c_X1_group_f l hst g ad σ τ w sa p (by unfold iR; omega) hB (by omega)) (cwV 1 hts gL_group_X1_group rfl rfl rfl (by decide +kernel) ⟨Nat.le_of_ble_eq_true rfl, Nat.le_of_ble_eq_true rfl⟩) hK hU hT hF hlc (bx_L0 (by omega)) rfl rfl rfl hl.1 rfl (Nat.le_of_ble_eq_true rfl) dL_group_4 ⟨Nat.le_of_ble_eq_true rfl, Nat.le_of_ble_eq_true rfl⟩ (fun thrown hth pl hpl => by rw [htab]; exact bk_one hpl hown hth (by decide) (by decide) (hts (.classLink RL 13 "java/lang/IllegalArgumentException") (by decide +kernel)) (hT.args _ (by decide +kernel)) rfl) (fun qx H locs hU hF1 hlc => ?_)
  have hF := hF.tr hF1
  refine lv_astore_n (lv' := [(3, .ref qx), (0, .ref (ad 0 0)), (1, .int (iI p)), (2, .ref (ad 17 0))]) hx hb dL_group_12 rfl hl (by decide) rfl (fun ls hl => ?_)
  refine li_iconst hx hb dL_group_13 ?_
  exact bh_i hx hb hr hlocks hU hF hlc rfl dL_group_14
