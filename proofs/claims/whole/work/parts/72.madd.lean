def sideS (τ : bxS) (a f t : Int) : bxS := up3 (up3 τ 7 (τ 0 0 0) a f) 8 (τ 0 0 0) a t
def layS (τ : bxS) (k ax r : Int) : bxS := up3 (up3 (up3 (up3 (up3 (up3 (up3 τ 3 (τ 0 0 0) 0 k) 4 (τ 0 0 0) 0 0) 5 (τ 0 0 0) 0 ax) 6 (τ 0 0 0) 0 r) 2 (τ 0 0 0) 0 1) 1 0 0 (τ 1 0 0 + 1)) 0 0 0 (τ 0 0 0 + 1)
def uA (a : Int) : Int := if a = 0 then 1 else 0
def vA (a : Int) : Int := if a = 2 then 1 else 2
def boxS (τ : bxS) (k x y z dx dy dz : Int) : bxS := layS (sideS (sideS (sideS τ 0 x (x + dx)) 1 y (y + dy)) 2 z (z + dz)) k (-1) 0
def tubS (τ : bxS) (k a f n u v r : Int) : bxS := layS (sideS (sideS (sideS τ a f (f + n)) (uA a) u u) (vA a) v v) k a r

set_option maxHeartbeats 4000000 in
set_option maxRecDepth 100000 in
theorem c_X2_side (l : Launch) (g : bxG) (ad : bxA) (σ τ : bxS) (w : bxW) (a f t : Int) (hm : 0 ≤ τ 0 0 0 ∧ τ 0 0 0 < 60) (hxa : 0 ≤ a ∧ a < 3) : Met l yX2_side wsX2_side ({ frames := 0, cells := 0, slots := 0, locals := 0 }) (va_Pc [.ref (ad 7 0), .int (iI a), .int (iI f), .int (iI t)] (fun U => bx_I g ad σ τ w U)) (bq_W none g ad σ (sideS τ a f t) w) 0 0 (bq_fr g) := by
  refine Met.ofW (cc := cX2_side) (maxL := 4) (ret := none) (by decide) rfl ?_
  intro Pg Ev s mI args below meth cd s₁ B hml hv
  obtain ⟨rfl, hU, hK⟩ := hv
  have hx := B.exec
  have hb := B.bytes
  have hr := B.returns
  have hts := atoms_spec (ws := wsX2_side) B.pre
  have hown : s.vm.findClass RX2 = some mI.cls := findClass_of_methodNamed B.named
  have hlocks := B.notSynchronized
  have hF : bx_F g s.heap s.heap := bx_F.rf
  have hlc : bx_Lc g [] := bx_Lc.nil
  have hl := lv_entry ([.ref (ad 7 0), .int (iI a), .int (iI f), .int (iI t)]) (n := 4) (Nat.le_of_ble_eq_true rfl)
  rw [lg_entry_eq]
  generalize (lg_sl ([.ref (ad 7 0), .int (iI a), .int (iI f), .int (iI t)]) ++ List.replicate (4 - (lg_sl ([.ref (ad 7 0), .int (iI a), .int (iI f), .int (iI t)])).length) Slot.unset).toArray = ls at hl ⊢
  have hl : lv_has ls 4 [(0, .ref (ad 7 0)), (1, .int (iI a)), (2, .int (iI f)), (3, .int (iI t))] := hl
  have hinX2 : ∀ w ∈ wsX20, w ∈ wsX2_side := by decide +kernel
  refine lv_aload_n hx hb dX2_side_0 rfl (lv_at hl 0 rfl) ?_
  refine bg_X2_lows hx hb hts hinX2 hown hK hU (hts (.fieldLink RX2 26 "ClashBoxesModel" "lows" "[I") (by decide +kernel)) dX2_side_1 ?_
  refine li_iconst hx hb dX2_side_4 ?_
  refine lv_aload_n hx hb dX2_side_5 rfl (lv_at hl 0 rfl) ?_
  refine bg_X2_made hx hb hts hinX2 hown hK hU (hts (.fieldLink RX2 49 "ClashBoxesModel" "made" "I") (by decide +kernel)) dX2_side_6 ?_
  refine li_imul hx hb dX2_side_9 ?_
  refine lv_iload_n hx hb dX2_side_10 rfl (lv_at hl 1 rfl) ?_
  refine li_iadd hx hb dX2_side_11 ?_
  refine lv_iload_n hx hb dX2_side_12 rfl (lv_at hl 2 rfl) ?_
  refine bs_13 (i := (τ 0 0 0)) (a := a) hx hb hK hU hlc (by omega) (by omega) (by omega) (by omega) dX2_side_13 (fun H locs hU hF1 hlc => ?_)
  have hF := hF.tr hF1
  refine lv_aload_n hx hb dX2_side_14 rfl (lv_at hl 0 rfl) ?_
  refine bg_X2_highs hx hb hts hinX2 hown hK hU (hts (.fieldLink RX2 29 "ClashBoxesModel" "highs" "[I") (by decide +kernel)) dX2_side_15 ?_
  refine li_iconst hx hb dX2_side_18 ?_
  refine lv_aload_n hx hb dX2_side_19 rfl (lv_at hl 0 rfl) ?_
  refine bg_X2_made hx hb hts hinX2 hown hK hU (hts (.fieldLink RX2 49 "ClashBoxesModel" "made" "I") (by decide +kernel)) dX2_side_20 ?_
  refine W.eq (g2 := F0 mI 23 ls [.int (iI (τ 0 0 0)), .int (iI 3), .ref (ad 14 0)]) rfl ?_
  refine li_imul hx hb dX2_side_23 ?_
  refine lv_iload_n hx hb dX2_side_24 rfl (lv_at hl 1 rfl) ?_
  refine li_iadd hx hb dX2_side_25 ?_
  refine lv_iload_n hx hb dX2_side_26 rfl (lv_at hl 3 rfl) ?_
  refine bs_14 (i := (τ 0 0 0)) (a := a) hx hb hK hU hlc (by omega) (by omega) (by omega) (by omega) dX2_side_27 (fun H locs hU hF1 hlc => ?_)
  have hF := hF.tr hF1
  exact bw_n hx hb hr hlocks (by first | exact hU | simpa using hU) hF hlc dX2_side_28

set_option maxHeartbeats 4000000 in
set_option maxRecDepth 100000 in
theorem c_X2_lay (l : Launch) (g : bxG) (ad : bxA) (σ τ : bxS) (w : bxW) (k x r : Int) (hm : 0 ≤ τ 0 0 0 ∧ τ 0 0 0 < 60) : Met l yX2_lay wsX2_lay ({ frames := 0, cells := 0, slots := 0, locals := 0 }) (va_Pc [.ref (ad 7 0), .int (iI k), .int (iI x), .int (iI r)] (fun U => bx_I g ad σ τ w U)) (bq_W (some (.int (iI (τ 0 0 0)))) g ad σ (layS τ k x r) w) 0 0 (bq_fr g) := by
  refine Met.ofW (cc := cX2_lay) (maxL := 4) (ret := (some .int)) (by decide) rfl ?_
  intro Pg Ev s mI args below meth cd s₁ B hml hv
  obtain ⟨rfl, hU, hK⟩ := hv
  have hx := B.exec
  have hb := B.bytes
  have hr := B.returns
  have hts := atoms_spec (ws := wsX2_lay) B.pre
  have hown : s.vm.findClass RX2 = some mI.cls := findClass_of_methodNamed B.named
  have hlocks := B.notSynchronized
  have hF : bx_F g s.heap s.heap := bx_F.rf
  have hlc : bx_Lc g [] := bx_Lc.nil
  have hl := lv_entry ([.ref (ad 7 0), .int (iI k), .int (iI x), .int (iI r)]) (n := 4) (Nat.le_of_ble_eq_true rfl)
  rw [lg_entry_eq]
  generalize (lg_sl ([.ref (ad 7 0), .int (iI k), .int (iI x), .int (iI r)]) ++ List.replicate (4 - (lg_sl ([.ref (ad 7 0), .int (iI k), .int (iI x), .int (iI r)])).length) Slot.unset).toArray = ls at hl ⊢
  have hl : lv_has ls 4 [(0, .ref (ad 7 0)), (1, .int (iI k)), (2, .int (iI x)), (3, .int (iI r))] := hl
  have hinX2 : ∀ w ∈ wsX20, w ∈ wsX2_lay := by decide +kernel
  refine lv_aload_n hx hb dX2_lay_0 rfl (lv_at hl 0 rfl) ?_
  refine bg_X2_kinds hx hb hts hinX2 hown hK hU (hts (.fieldLink RX2 13 "ClashBoxesModel" "kinds" "[I") (by decide +kernel)) dX2_lay_1 ?_
  refine lv_aload_n hx hb dX2_lay_4 rfl (lv_at hl 0 rfl) ?_
  refine bg_X2_made hx hb hts hinX2 hown hK hU (hts (.fieldLink RX2 49 "ClashBoxesModel" "made" "I") (by decide +kernel)) dX2_lay_5 ?_
  refine lv_iload_n hx hb dX2_lay_8 rfl (lv_at hl 1 rfl) ?_
  refine bs_9 hx hb hK hU hlc (by omega) (by omega) dX2_lay_9 (fun H locs hU hF1 hlc => ?_)
  have hF := hF.tr hF1
  refine lv_aload_n hx hb dX2_lay_10 rfl (lv_at hl 0 rfl) ?_
  refine bg_X2_margins hx hb hts hinX2 hown hK hU (hts (.fieldLink RX2 17 "ClashBoxesModel" "margins" "[I") (by decide +kernel)) dX2_lay_11 ?_
  refine lv_aload_n hx hb dX2_lay_14 rfl (lv_at hl 0 rfl) ?_
  refine bg_X2_made hx hb hts hinX2 hown hK hU (hts (.fieldLink RX2 49 "ClashBoxesModel" "made" "I") (by decide +kernel)) dX2_lay_15 ?_
  refine W.eq (g2 := F0 mI 18 ls [.int (iI (τ 0 0 0)), .ref (ad 10 0)]) rfl ?_
  refine li_iconst hx hb dX2_lay_18 ?_
  refine bs_10 hx hb hK hU hlc (by omega) (by omega) dX2_lay_19 (fun H locs hU hF1 hlc => ?_)
  have hF := hF.tr hF1
  refine lv_aload_n hx hb dX2_lay_20 rfl (lv_at hl 0 rfl) ?_
  refine bg_X2_axes hx hb hts hinX2 hown hK hU (hts (.fieldLink RX2 20 "ClashBoxesModel" "axes" "[I") (by decide +kernel)) dX2_lay_21 ?_
  refine lv_aload_n hx hb dX2_lay_24 rfl (lv_at hl 0 rfl) ?_
  refine bg_X2_made hx hb hts hinX2 hown hK hU (hts (.fieldLink RX2 49 "ClashBoxesModel" "made" "I") (by decide +kernel)) dX2_lay_25 ?_
  refine W.eq (g2 := F0 mI 28 ls [.int (iI (τ 0 0 0)), .ref (ad 11 0)]) rfl ?_
  refine lv_iload_n hx hb dX2_lay_28 rfl (lv_at hl 2 rfl) ?_
  refine bs_11 hx hb hK hU hlc (by omega) (by omega) dX2_lay_29 (fun H locs hU hF1 hlc => ?_)
  have hF := hF.tr hF1
  refine lv_aload_n hx hb dX2_lay_30 rfl (lv_at hl 0 rfl) ?_
  refine bg_X2_radii hx hb hts hinX2 hown hK hU (hts (.fieldLink RX2 23 "ClashBoxesModel" "radii" "[I") (by decide +kernel)) dX2_lay_31 ?_
  refine lv_aload_n hx hb dX2_lay_34 rfl (lv_at hl 0 rfl) ?_
  refine bg_X2_made hx hb hts hinX2 hown hK hU (hts (.fieldLink RX2 49 "ClashBoxesModel" "made" "I") (by decide +kernel)) dX2_lay_35 ?_
  refine W.eq (g2 := F0 mI 38 ls [.int (iI (τ 0 0 0)), .ref (ad 12 0)]) rfl ?_
  refine lv_iload_n hx hb dX2_lay_38 rfl (lv_at hl 3 rfl) ?_
  refine bs_12 hx hb hK hU hlc (by omega) (by omega) dX2_lay_39 (fun H locs hU hF1 hlc => ?_)
  have hF := hF.tr hF1
  refine lv_aload_n hx hb dX2_lay_40 rfl (lv_at hl 0 rfl) ?_
  refine bg_X2_isThere hx hb hts hinX2 hown hK hU (hts (.fieldLink RX2 7 "ClashBoxesModel" "isThere" "[Z") (by decide +kernel)) dX2_lay_41 ?_
  refine lv_aload_n hx hb dX2_lay_44 rfl (lv_at hl 0 rfl) ?_
  refine bg_X2_made hx hb hts hinX2 hown hK hU (hts (.fieldLink RX2 49 "ClashBoxesModel" "made" "I") (by decide +kernel)) dX2_lay_45 ?_
  refine W.eq (g2 := F0 mI 48 ls [.int (iI (τ 0 0 0)), .ref (ad 8 0)]) rfl ?_
  refine li_iconst hx hb dX2_lay_48 ?_
  refine bs_8 hx hb hK hU hlc (by omega) (by omega) (by omega) dX2_lay_49 (fun H locs hU hF1 hlc => ?_)
  have hF := hF.tr hF1
  refine lv_aload_n hx hb dX2_lay_50 rfl (lv_at hl 0 rfl) ?_
  refine lv_dup hx hb dX2_lay_51 rfl ?_
  refine bg_X2_count hx hb hts hinX2 hown hK hU (hts (.fieldLink RX2 52 "ClashBoxesModel" "count" "I") (by decide +kernel)) dX2_lay_52 ?_
  refine W.eq (g2 := F0 mI 55 ls [.int (iI (τ 1 0 0)), .ref (ad 7 0)]) rfl ?_
  refine li_iconst hx hb dX2_lay_55 ?_
  refine li_iadd hx hb dX2_lay_56 ?_
  refine bp_X2_count hx hb hts hinX2 hown hK hU hlc (hts (.fieldLink RX2 52 "ClashBoxesModel" "count" "I") (by decide +kernel)) dX2_lay_57 (fun H locs hU hF1 hlc => ?_)
  have hF := hF.tr hF1
  refine lv_aload_n hx hb dX2_lay_60 rfl (lv_at hl 0 rfl) ?_
  refine lv_dup hx hb dX2_lay_61 rfl ?_
  refine bg_X2_made hx hb hts hinX2 hown hK hU (hts (.fieldLink RX2 49 "ClashBoxesModel" "made" "I") (by decide +kernel)) dX2_lay_62 ?_
  refine W.eq (g2 := F0 mI 65 ls [.int (iI (τ 0 0 0)), .ref (ad 7 0)]) rfl ?_
  refine li_iconst hx hb dX2_lay_65 ?_
  refine li_iadd hx hb dX2_lay_66 ?_
  refine bp_X2_made hx hb hts hinX2 hown hK hU hlc (hts (.fieldLink RX2 49 "ClashBoxesModel" "made" "I") (by decide +kernel)) dX2_lay_67 (fun H locs hU hF1 hlc => ?_)
  have hF := hF.tr hF1
  refine lv_aload_n hx hb dX2_lay_70 rfl (lv_at hl 0 rfl) ?_
  refine bg_X2_made hx hb hts hinX2 hown hK hU (hts (.fieldLink RX2 49 "ClashBoxesModel" "made" "I") (by decide +kernel)) dX2_lay_71 ?_
  refine W.eq (g2 := F0 mI 74 ls [.int (iI ((τ 0 0 0) + 1))]) rfl ?_
  refine li_iconst hx hb dX2_lay_74 ?_
  refine li_isub hx hb dX2_lay_75 ?_
  refine bw_i hx hb hr hlocks (by first | exact hU | simpa using hU) hF hlc ?_ dX2_lay_76
  omega

set_option maxHeartbeats 4000000 in
set_option maxRecDepth 100000 in
theorem c_X2_box_t (l : Launch) (g : bxG) (ad : bxA) (σ τ : bxS) (w : bxW) (k x y z dx dy dz : Int) (hRk : iR k) (hRx : iR x) (hRy : iR y) (hRz : iR z) (hRdx : iR dx) (hRdy : iR dy) (hRdz : iR dz) (hBt : bx_B τ) (hg : ((0 ≤ k ∧ k ≤ 7) ∧ (0 ≤ x ∧ x ≤ 1000 ∧ 1 ≤ dx ∧ dx ≤ 1000 ∧ x + dx ≤ 1000) ∧ (0 ≤ y ∧ y ≤ 1000 ∧ 1 ≤ dy ∧ dy ≤ 1000 ∧ y + dy ≤ 1000) ∧ (0 ≤ z ∧ z ≤ 1000 ∧ 1 ≤ dz ∧ dz ≤ 1000 ∧ z + dz ≤ 1000)) ∧ τ 0 0 0 < 60) : Met l yX2_box wsX2_box ({ frames := 2, cells := 0, slots := 0, locals := 43 }) (va_Pc [.ref (ad 7 0), .int (iI k), .int (iI x), .int (iI y), .int (iI z), .int (iI dx), .int (iI dy), .int (iI dz)] (fun U => bx_I g ad σ τ w U)) (bq_W (some (.int (iI (τ 0 0 0)))) g ad σ (boxS τ k x y z dx dy dz) (w.1, 0)) 0 0 (bq_fr g) := by
  refine Met.ofW (cc := cX2_box) (maxL := 8) (ret := (some .int)) (by decide) rfl ?_
  intro Pg Ev s mI args below meth cd s₁ B hml hv
  obtain ⟨rfl, hU, hK⟩ := hv
  have hx := B.exec
  have hb := B.bytes
  have hr := B.returns
  have hts := atoms_spec (ws := wsX2_box) B.pre
  have hown : s.vm.findClass RX2 = some mI.cls := findClass_of_methodNamed B.named
  have hlocks := B.notSynchronized
  have hF : bx_F g s.heap s.heap := bx_F.rf
  have hlc : bx_Lc g [] := bx_Lc.nil
  have hl := lv_entry ([.ref (ad 7 0), .int (iI k), .int (iI x), .int (iI y), .int (iI z), .int (iI dx), .int (iI dy), .int (iI dz)]) (n := 8) (Nat.le_of_ble_eq_true rfl)
  rw [lg_entry_eq]
  generalize (lg_sl ([.ref (ad 7 0), .int (iI k), .int (iI x), .int (iI y), .int (iI z), .int (iI dx), .int (iI dy), .int (iI dz)]) ++ List.replicate (8 - (lg_sl ([.ref (ad 7 0), .int (iI k), .int (iI x), .int (iI y), .int (iI z), .int (iI dx), .int (iI dy), .int (iI dz)])).length) Slot.unset).toArray = ls at hl ⊢
  have hl : lv_has ls 8 [(0, .ref (ad 7 0)), (1, .int (iI k)), (2, .int (iI x)), (3, .int (iI y)), (4, .int (iI z)), (5, .int (iI dx)), (6, .int (iI dy)), (7, .int (iI dz))] := hl
  have hinX2 : ∀ w ∈ wsX20, w ∈ wsX2_box := by decide +kernel
  have hRk0 : -2147483648 ≤ k ∧ k < 2147483648 := hRk
  have hRx0 : -2147483648 ≤ x ∧ x < 2147483648 := hRx
  have hRy0 : -2147483648 ≤ y ∧ y < 2147483648 := hRy
  have hRz0 : -2147483648 ≤ z ∧ z < 2147483648 := hRz
  have hRdx0 : -2147483648 ≤ dx ∧ dx < 2147483648 := hRdx
  have hRdy0 : -2147483648 ≤ dy ∧ dy < 2147483648 := hRdy
  have hRdz0 : -2147483648 ≤ dz ∧ dz < 2147483648 := hRdz
  have hm0 := bB0 hBt
  have hm : 0 ≤ τ 0 0 0 ∧ τ 0 0 0 < 60 := ⟨by omega, by omega⟩
  refine lv_aload_n hx hb dX2_box_0 rfl (lv_at hl 0 rfl) ?_
  refine lv_iload_n hx hb dX2_box_1 rfl (lv_at hl 1 rfl) ?_
  refine bc_SB (As := [.int (iI k)]) (rest := [.ref (ad 7 0)]) ⟨hx, hb, hml, hown, hts⟩ (c_X2_isKind l g ad σ τ w k (by unfold iR; omega)) (va_cwS 1 hts gX2_box_X2_isKind rfl rfl rfl (by decide +kernel) ⟨Nat.le_of_ble_eq_true rfl, Nat.le_of_ble_eq_true rfl⟩) hK hU  rfl hl.1 rfl (Nat.le_of_ble_eq_true rfl) dX2_box_2 ⟨Nat.le_of_ble_eq_true rfl, Nat.le_of_ble_eq_true rfl⟩ (fun h1 => ?_) (fun h1 => ?_)
  · refine li_if_eq (tgt := 36) hx hb (by unfold iR; omega) dX2_box_5 (by decide) (fun h => absurd h (by decide)) (fun _ => ?_)
    refine lv_iload_n hx hb dX2_box_8 rfl (lv_at hl 2 rfl) ?_
    refine lv_iload hx hb dX2_box_9 (lv_at hl 5 rfl) ?_
    refine bc_SB (As := [.int (iI x), .int (iI dx)]) (rest := [.ref (ad 7 0)]) ⟨hx, hb, hml, hown, hts⟩ (c_X2_isSpan l g ad σ τ w x dx (by unfold iR; omega) (by unfold iR; omega)) (va_cwS 2 hts gX2_box_X2_isSpan rfl rfl rfl (by decide +kernel) ⟨Nat.le_of_ble_eq_true rfl, Nat.le_of_ble_eq_true rfl⟩) hK hU  rfl hl.1 rfl (Nat.le_of_ble_eq_true rfl) dX2_box_11 ⟨Nat.le_of_ble_eq_true rfl, Nat.le_of_ble_eq_true rfl⟩ (fun h2 => ?_) (fun h2 => ?_)
    · refine li_if_eq (tgt := 36) hx hb (by unfold iR; omega) dX2_box_14 (by decide) (fun h => absurd h (by decide)) (fun _ => ?_)
      refine lv_iload_n hx hb dX2_box_17 rfl (lv_at hl 3 rfl) ?_
      refine lv_iload hx hb dX2_box_18 (lv_at hl 6 rfl) ?_
      refine bc_SB (As := [.int (iI y), .int (iI dy)]) (rest := [.ref (ad 7 0)]) ⟨hx, hb, hml, hown, hts⟩ (c_X2_isSpan l g ad σ τ w y dy (by unfold iR; omega) (by unfold iR; omega)) (va_cwS 2 hts gX2_box_X2_isSpan rfl rfl rfl (by decide +kernel) ⟨Nat.le_of_ble_eq_true rfl, Nat.le_of_ble_eq_true rfl⟩) hK hU  rfl hl.1 rfl (Nat.le_of_ble_eq_true rfl) dX2_box_20 ⟨Nat.le_of_ble_eq_true rfl, Nat.le_of_ble_eq_true rfl⟩ (fun h3 => ?_) (fun h3 => ?_)
      · refine li_if_eq (tgt := 36) hx hb (by unfold iR; omega) dX2_box_23 (by decide) (fun h => absurd h (by decide)) (fun _ => ?_)
        refine lv_iload hx hb dX2_box_26 (lv_at hl 4 rfl) ?_
        refine lv_iload hx hb dX2_box_28 (lv_at hl 7 rfl) ?_
        refine bc_SB (As := [.int (iI z), .int (iI dz)]) (rest := [.ref (ad 7 0)]) ⟨hx, hb, hml, hown, hts⟩ (c_X2_isSpan l g ad σ τ w z dz (by unfold iR; omega) (by unfold iR; omega)) (va_cwS 2 hts gX2_box_X2_isSpan rfl rfl rfl (by decide +kernel) ⟨Nat.le_of_ble_eq_true rfl, Nat.le_of_ble_eq_true rfl⟩) hK hU  rfl hl.1 rfl (Nat.le_of_ble_eq_true rfl) dX2_box_30 ⟨Nat.le_of_ble_eq_true rfl, Nat.le_of_ble_eq_true rfl⟩ (fun h4 => ?_) (fun h4 => ?_)
        · refine li_if_ne (tgt := 40) hx hb (by unfold iR; omega) dX2_box_33 (by decide) (fun _ => ?_) (fun h => absurd h (by decide))
          refine lv_aload_n hx hb dX2_box_40 rfl (lv_at hl 0 rfl) ?_
          refine bg_X2_made hx hb hts hinX2 hown hK hU (hts (.fieldLink RX2 49 "ClashBoxesModel" "made" "I") (by decide +kernel)) dX2_box_41 ?_
          have b5 := bB0 hBt
          refine li_bipush hx hb dX2_box_44 (by decide) ?_
          refine li_icmp_ne (tgt := 53) hx hb (by unfold iR; omega) (by unfold iR; omega) dX2_box_46 (by decide) (fun h6 => ?_) (fun h6 => ?_)
          · refine li_iconst hx hb dX2_box_53 ?_
            refine bp_X2_code hx hb hts hinX2 hown hK hU hlc (hts (.fieldLink RX2 42 "ClashBoxesModel" "code" "I") (by decide +kernel)) dX2_box_54 (fun H locs hU hF1 hlc => ?_)
            have hF := hF.tr hF1
            have hU : bx_U g ad σ τ (w.1, 0) H := hU
            refine lv_aload_n hx hb dX2_box_57 rfl (lv_at hl 0 rfl) ?_
            refine bg_X2_code hx hb hts hinX2 hown hK hU (hts (.fieldLink RX2 42 "ClashBoxesModel" "code" "I") (by decide +kernel)) dX2_box_58 ?_
            refine W.eq (g2 := F0 mI 61 ls [.int (iI 0)]) rfl ?_
            refine li_if_le (tgt := 66) hx hb (by unfold iR; omega) dX2_box_61 (by decide) (fun _ => ?_) (fun h => absurd (by decide) h)
            refine lv_aload_n hx hb dX2_box_66 rfl (lv_at hl 0 rfl) ?_
            refine li_iconst hx hb dX2_box_67 ?_
            refine lv_iload_n hx hb dX2_box_68 rfl (lv_at hl 2 rfl) ?_
            refine lv_iload_n hx hb dX2_box_69 rfl (lv_at hl 2 rfl) ?_
            refine lv_iload hx hb dX2_box_70 (lv_at hl 5 rfl) ?_
            refine li_iadd hx hb dX2_box_72 ?_
            refine bc_VW (As := [.int (iI 0), .int (iI x), .int (iI (x + dx))]) (rest := []) (kd := 7) (k := 0) (ci := 2) ⟨hx, hb, hml, hown, hts⟩ (c_X2_side l g ad σ τ (w.1, 0) 0 x (x + dx) hm (by omega)) (cwV 3 hts gX2_box_X2_side rfl rfl rfl (by decide +kernel) ⟨Nat.le_of_ble_eq_true rfl, Nat.le_of_ble_eq_true rfl⟩) hK hU hlc (bx_L0 (by omega)) rfl rfl rfl hl.1 rfl (Nat.le_of_ble_eq_true rfl) dX2_box_73 ⟨Nat.le_of_ble_eq_true rfl, Nat.le_of_ble_eq_true rfl⟩ (fun H locs hU hF1 hlc => ?_)
            have hF := hF.tr hF1
            refine lv_aload_n hx hb dX2_box_76 rfl (lv_at hl 0 rfl) ?_
            refine li_iconst hx hb dX2_box_77 ?_
            refine lv_iload_n hx hb dX2_box_78 rfl (lv_at hl 3 rfl) ?_
            refine lv_iload_n hx hb dX2_box_79 rfl (lv_at hl 3 rfl) ?_
            refine lv_iload hx hb dX2_box_80 (lv_at hl 6 rfl) ?_
            refine li_iadd hx hb dX2_box_82 ?_
            refine bc_VW (As := [.int (iI 1), .int (iI y), .int (iI (y + dy))]) (rest := []) (kd := 7) (k := 0) (ci := 2) ⟨hx, hb, hml, hown, hts⟩ (c_X2_side l g ad σ (sideS τ 0 x (x + dx)) (w.1, 0) 1 y (y + dy) hm (by omega)) (cwV 3 hts gX2_box_X2_side rfl rfl rfl (by decide +kernel) ⟨Nat.le_of_ble_eq_true rfl, Nat.le_of_ble_eq_true rfl⟩) hK hU hlc (bx_L0 (by omega)) rfl rfl rfl hl.1 rfl (Nat.le_of_ble_eq_true rfl) dX2_box_83 ⟨Nat.le_of_ble_eq_true rfl, Nat.le_of_ble_eq_true rfl⟩ (fun H locs hU hF1 hlc => ?_)
            have hF := hF.tr hF1
            refine lv_aload_n hx hb dX2_box_86 rfl (lv_at hl 0 rfl) ?_
            refine li_iconst hx hb dX2_box_87 ?_
            refine lv_iload hx hb dX2_box_88 (lv_at hl 4 rfl) ?_
            refine lv_iload hx hb dX2_box_90 (lv_at hl 4 rfl) ?_
            refine lv_iload hx hb dX2_box_92 (lv_at hl 7 rfl) ?_
            refine li_iadd hx hb dX2_box_94 ?_
            refine bc_VW (As := [.int (iI 2), .int (iI z), .int (iI (z + dz))]) (rest := []) (kd := 7) (k := 0) (ci := 2) ⟨hx, hb, hml, hown, hts⟩ (c_X2_side l g ad σ (sideS (sideS τ 0 x (x + dx)) 1 y (y + dy)) (w.1, 0) 2 z (z + dz) hm (by omega)) (cwV 3 hts gX2_box_X2_side rfl rfl rfl (by decide +kernel) ⟨Nat.le_of_ble_eq_true rfl, Nat.le_of_ble_eq_true rfl⟩) hK hU hlc (bx_L0 (by omega)) rfl rfl rfl hl.1 rfl (Nat.le_of_ble_eq_true rfl) dX2_box_95 ⟨Nat.le_of_ble_eq_true rfl, Nat.le_of_ble_eq_true rfl⟩ (fun H locs hU hF1 hlc => ?_)
            have hF := hF.tr hF1
            refine lv_aload_n hx hb dX2_box_98 rfl (lv_at hl 0 rfl) ?_
            refine lv_iload_n hx hb dX2_box_99 rfl (lv_at hl 1 rfl) ?_
            refine li_iconst hx hb dX2_box_100 ?_
            refine li_iconst hx hb dX2_box_101 ?_
            refine bc_VW (As := [.int (iI k), .int (iI (-1)), .int (iI 0)]) (rest := []) (kd := 7) (k := 0) (ci := 2) ⟨hx, hb, hml, hown, hts⟩ (c_X2_lay l g ad σ (sideS (sideS (sideS τ 0 x (x + dx)) 1 y (y + dy)) 2 z (z + dz)) (w.1, 0) k (-1) 0 hm) (cwV 3 hts gX2_box_X2_lay rfl rfl rfl (by decide +kernel) ⟨Nat.le_of_ble_eq_true rfl, Nat.le_of_ble_eq_true rfl⟩) hK hU hlc (bx_L0 (by omega)) rfl rfl rfl hl.1 rfl (Nat.le_of_ble_eq_true rfl) dX2_box_102 ⟨Nat.le_of_ble_eq_true rfl, Nat.le_of_ble_eq_true rfl⟩ (fun H locs hU hF1 hlc => ?_)
            have hF := hF.tr hF1
            refine bw_i hx hb hr hlocks (by exact hU) hF hlc ?_ dX2_box_105
            rfl
          · refine li_iconst hx hb dX2_box_49 ?_
            refine lv_goto (tgt := 54) hx hb dX2_box_50 (by decide) ?_
            exfalso
            omega
        · refine li_if_ne (tgt := 40) hx hb (by unfold iR; omega) dX2_box_33 (by decide) (fun h => absurd (by decide) h) (fun _ => ?_)
          refine li_iconst hx hb dX2_box_36 ?_
          refine lv_goto (tgt := 54) hx hb dX2_box_37 (by decide) ?_
          exfalso
          omega
      · refine li_if_eq (tgt := 36) hx hb (by unfold iR; omega) dX2_box_23 (by decide) (fun _ => ?_) (fun h => absurd (by decide) h)
        refine li_iconst hx hb dX2_box_36 ?_
        refine lv_goto (tgt := 54) hx hb dX2_box_37 (by decide) ?_
        exfalso
        omega
    · refine li_if_eq (tgt := 36) hx hb (by unfold iR; omega) dX2_box_14 (by decide) (fun _ => ?_) (fun h => absurd (by decide) h)
      refine li_iconst hx hb dX2_box_36 ?_
      refine lv_goto (tgt := 54) hx hb dX2_box_37 (by decide) ?_
      exfalso
      omega
  · refine li_if_eq (tgt := 36) hx hb (by unfold iR; omega) dX2_box_5 (by decide) (fun _ => ?_) (fun h => absurd (by decide) h)
    refine li_iconst hx hb dX2_box_36 ?_
    refine lv_goto (tgt := 54) hx hb dX2_box_37 (by decide) ?_
    exfalso
    omega

set_option maxHeartbeats 4000000 in
set_option maxRecDepth 100000 in
theorem c_X2_box_f (l : Launch) (g : bxG) (ad : bxA) (σ τ : bxS) (w : bxW) (k x y z dx dy dz : Int) (hRk : iR k) (hRx : iR x) (hRy : iR y) (hRz : iR z) (hRdx : iR dx) (hRdy : iR dy) (hRdz : iR dz) (hBt : bx_B τ) (hg : ¬ ((0 ≤ k ∧ k ≤ 7) ∧ (0 ≤ x ∧ x ≤ 1000 ∧ 1 ≤ dx ∧ dx ≤ 1000 ∧ x + dx ≤ 1000) ∧ (0 ≤ y ∧ y ≤ 1000 ∧ 1 ≤ dy ∧ dy ≤ 1000 ∧ y + dy ≤ 1000) ∧ (0 ≤ z ∧ z ≤ 1000 ∧ 1 ≤ dz ∧ dz ≤ 1000 ∧ z + dz ≤ 1000))) : Met l yX2_box wsX2_box ({ frames := 2, cells := 0, slots := 0, locals := 43 }) (va_Pc [.ref (ad 7 0), .int (iI k), .int (iI x), .int (iI y), .int (iI z), .int (iI dx), .int (iI dy), .int (iI dz)] (fun U => bx_I g ad σ τ w U)) (bq_W (some (.int (iI 0))) g ad σ τ (w.1, 1)) 0 0 (bq_fr g) := by
  refine Met.ofW (cc := cX2_box) (maxL := 8) (ret := (some .int)) (by decide) rfl ?_
  intro Pg Ev s mI args below meth cd s₁ B hml hv
  obtain ⟨rfl, hU, hK⟩ := hv
  have hx := B.exec
  have hb := B.bytes
  have hr := B.returns
  have hts := atoms_spec (ws := wsX2_box) B.pre
  have hown : s.vm.findClass RX2 = some mI.cls := findClass_of_methodNamed B.named
  have hlocks := B.notSynchronized
  have hF : bx_F g s.heap s.heap := bx_F.rf
  have hlc : bx_Lc g [] := bx_Lc.nil
  have hl := lv_entry ([.ref (ad 7 0), .int (iI k), .int (iI x), .int (iI y), .int (iI z), .int (iI dx), .int (iI dy), .int (iI dz)]) (n := 8) (Nat.le_of_ble_eq_true rfl)
  rw [lg_entry_eq]
  generalize (lg_sl ([.ref (ad 7 0), .int (iI k), .int (iI x), .int (iI y), .int (iI z), .int (iI dx), .int (iI dy), .int (iI dz)]) ++ List.replicate (8 - (lg_sl ([.ref (ad 7 0), .int (iI k), .int (iI x), .int (iI y), .int (iI z), .int (iI dx), .int (iI dy), .int (iI dz)])).length) Slot.unset).toArray = ls at hl ⊢
  have hl : lv_has ls 8 [(0, .ref (ad 7 0)), (1, .int (iI k)), (2, .int (iI x)), (3, .int (iI y)), (4, .int (iI z)), (5, .int (iI dx)), (6, .int (iI dy)), (7, .int (iI dz))] := hl
  have hinX2 : ∀ w ∈ wsX20, w ∈ wsX2_box := by decide +kernel
  have hRk0 : -2147483648 ≤ k ∧ k < 2147483648 := hRk
  have hRx0 : -2147483648 ≤ x ∧ x < 2147483648 := hRx
  have hRy0 : -2147483648 ≤ y ∧ y < 2147483648 := hRy
  have hRz0 : -2147483648 ≤ z ∧ z < 2147483648 := hRz
  have hRdx0 : -2147483648 ≤ dx ∧ dx < 2147483648 := hRdx
  have hRdy0 : -2147483648 ≤ dy ∧ dy < 2147483648 := hRdy
  have hRdz0 : -2147483648 ≤ dz ∧ dz < 2147483648 := hRdz
  have hm0 := bB0 hBt
  refine lv_aload_n hx hb dX2_box_0 rfl (lv_at hl 0 rfl) ?_
  refine lv_iload_n hx hb dX2_box_1 rfl (lv_at hl 1 rfl) ?_
  refine bc_SB (As := [.int (iI k)]) (rest := [.ref (ad 7 0)]) ⟨hx, hb, hml, hown, hts⟩ (c_X2_isKind l g ad σ τ w k (by unfold iR; omega)) (va_cwS 1 hts gX2_box_X2_isKind rfl rfl rfl (by decide +kernel) ⟨Nat.le_of_ble_eq_true rfl, Nat.le_of_ble_eq_true rfl⟩) hK hU  rfl hl.1 rfl (Nat.le_of_ble_eq_true rfl) dX2_box_2 ⟨Nat.le_of_ble_eq_true rfl, Nat.le_of_ble_eq_true rfl⟩ (fun h1 => ?_) (fun h1 => ?_)
  · refine li_if_eq (tgt := 36) hx hb (by unfold iR; omega) dX2_box_5 (by decide) (fun h => absurd h (by decide)) (fun _ => ?_)
    refine lv_iload_n hx hb dX2_box_8 rfl (lv_at hl 2 rfl) ?_
    refine lv_iload hx hb dX2_box_9 (lv_at hl 5 rfl) ?_
    refine bc_SB (As := [.int (iI x), .int (iI dx)]) (rest := [.ref (ad 7 0)]) ⟨hx, hb, hml, hown, hts⟩ (c_X2_isSpan l g ad σ τ w x dx (by unfold iR; omega) (by unfold iR; omega)) (va_cwS 2 hts gX2_box_X2_isSpan rfl rfl rfl (by decide +kernel) ⟨Nat.le_of_ble_eq_true rfl, Nat.le_of_ble_eq_true rfl⟩) hK hU  rfl hl.1 rfl (Nat.le_of_ble_eq_true rfl) dX2_box_11 ⟨Nat.le_of_ble_eq_true rfl, Nat.le_of_ble_eq_true rfl⟩ (fun h2 => ?_) (fun h2 => ?_)
    · refine li_if_eq (tgt := 36) hx hb (by unfold iR; omega) dX2_box_14 (by decide) (fun h => absurd h (by decide)) (fun _ => ?_)
      refine lv_iload_n hx hb dX2_box_17 rfl (lv_at hl 3 rfl) ?_
      refine lv_iload hx hb dX2_box_18 (lv_at hl 6 rfl) ?_
      refine bc_SB (As := [.int (iI y), .int (iI dy)]) (rest := [.ref (ad 7 0)]) ⟨hx, hb, hml, hown, hts⟩ (c_X2_isSpan l g ad σ τ w y dy (by unfold iR; omega) (by unfold iR; omega)) (va_cwS 2 hts gX2_box_X2_isSpan rfl rfl rfl (by decide +kernel) ⟨Nat.le_of_ble_eq_true rfl, Nat.le_of_ble_eq_true rfl⟩) hK hU  rfl hl.1 rfl (Nat.le_of_ble_eq_true rfl) dX2_box_20 ⟨Nat.le_of_ble_eq_true rfl, Nat.le_of_ble_eq_true rfl⟩ (fun h3 => ?_) (fun h3 => ?_)
      · refine li_if_eq (tgt := 36) hx hb (by unfold iR; omega) dX2_box_23 (by decide) (fun h => absurd h (by decide)) (fun _ => ?_)
        refine lv_iload hx hb dX2_box_26 (lv_at hl 4 rfl) ?_
        refine lv_iload hx hb dX2_box_28 (lv_at hl 7 rfl) ?_
        refine bc_SB (As := [.int (iI z), .int (iI dz)]) (rest := [.ref (ad 7 0)]) ⟨hx, hb, hml, hown, hts⟩ (c_X2_isSpan l g ad σ τ w z dz (by unfold iR; omega) (by unfold iR; omega)) (va_cwS 2 hts gX2_box_X2_isSpan rfl rfl rfl (by decide +kernel) ⟨Nat.le_of_ble_eq_true rfl, Nat.le_of_ble_eq_true rfl⟩) hK hU  rfl hl.1 rfl (Nat.le_of_ble_eq_true rfl) dX2_box_30 ⟨Nat.le_of_ble_eq_true rfl, Nat.le_of_ble_eq_true rfl⟩ (fun h4 => ?_) (fun h4 => ?_)
        · refine li_if_ne (tgt := 40) hx hb (by unfold iR; omega) dX2_box_33 (by decide) (fun _ => ?_) (fun h => absurd h (by decide))
          refine lv_aload_n hx hb dX2_box_40 rfl (lv_at hl 0 rfl) ?_
          refine bg_X2_made hx hb hts hinX2 hown hK hU (hts (.fieldLink RX2 49 "ClashBoxesModel" "made" "I") (by decide +kernel)) dX2_box_41 ?_
          have b5 := bB0 hBt
          refine li_bipush hx hb dX2_box_44 (by decide) ?_
          refine li_icmp_ne (tgt := 53) hx hb (by unfold iR; omega) (by unfold iR; omega) dX2_box_46 (by decide) (fun h6 => ?_) (fun h6 => ?_)
          · refine li_iconst hx hb dX2_box_53 ?_
            exfalso
            omega
          · refine li_iconst hx hb dX2_box_49 ?_
            refine lv_goto (tgt := 54) hx hb dX2_box_50 (by decide) ?_
            exfalso
            omega
        · refine li_if_ne (tgt := 40) hx hb (by unfold iR; omega) dX2_box_33 (by decide) (fun h => absurd (by decide) h) (fun _ => ?_)
          refine li_iconst hx hb dX2_box_36 ?_
          refine lv_goto (tgt := 54) hx hb dX2_box_37 (by decide) ?_
          refine bp_X2_code hx hb hts hinX2 hown hK hU hlc (hts (.fieldLink RX2 42 "ClashBoxesModel" "code" "I") (by decide +kernel)) dX2_box_54 (fun H locs hU hF1 hlc => ?_)
          have hF := hF.tr hF1
          have hU : bx_U g ad σ τ (w.1, 1) H := hU
          refine lv_aload_n hx hb dX2_box_57 rfl (lv_at hl 0 rfl) ?_
          refine bg_X2_code hx hb hts hinX2 hown hK hU (hts (.fieldLink RX2 42 "ClashBoxesModel" "code" "I") (by decide +kernel)) dX2_box_58 ?_
          refine W.eq (g2 := F0 mI 61 ls [.int (iI 1)]) rfl ?_
          refine li_if_le (tgt := 66) hx hb (by unfold iR; omega) dX2_box_61 (by decide) (fun h => absurd h (by decide)) (fun _ => ?_)
          refine li_iconst hx hb dX2_box_64 ?_
          refine bw_i hx hb hr hlocks (by first | exact hU | simpa using hU) hF hlc ?_ dX2_box_65
          rfl
      · refine li_if_eq (tgt := 36) hx hb (by unfold iR; omega) dX2_box_23 (by decide) (fun _ => ?_) (fun h => absurd (by decide) h)
        refine li_iconst hx hb dX2_box_36 ?_
        refine lv_goto (tgt := 54) hx hb dX2_box_37 (by decide) ?_
        refine bp_X2_code hx hb hts hinX2 hown hK hU hlc (hts (.fieldLink RX2 42 "ClashBoxesModel" "code" "I") (by decide +kernel)) dX2_box_54 (fun H locs hU hF1 hlc => ?_)
        have hF := hF.tr hF1
        have hU : bx_U g ad σ τ (w.1, 1) H := hU
        refine lv_aload_n hx hb dX2_box_57 rfl (lv_at hl 0 rfl) ?_
        refine bg_X2_code hx hb hts hinX2 hown hK hU (hts (.fieldLink RX2 42 "ClashBoxesModel" "code" "I") (by decide +kernel)) dX2_box_58 ?_
        refine W.eq (g2 := F0 mI 61 ls [.int (iI 1)]) rfl ?_
        refine li_if_le (tgt := 66) hx hb (by unfold iR; omega) dX2_box_61 (by decide) (fun h => absurd h (by decide)) (fun _ => ?_)
        refine li_iconst hx hb dX2_box_64 ?_
        refine bw_i hx hb hr hlocks (by first | exact hU | simpa using hU) hF hlc ?_ dX2_box_65
        rfl
    · refine li_if_eq (tgt := 36) hx hb (by unfold iR; omega) dX2_box_14 (by decide) (fun _ => ?_) (fun h => absurd (by decide) h)
      refine li_iconst hx hb dX2_box_36 ?_
      refine lv_goto (tgt := 54) hx hb dX2_box_37 (by decide) ?_
      refine bp_X2_code hx hb hts hinX2 hown hK hU hlc (hts (.fieldLink RX2 42 "ClashBoxesModel" "code" "I") (by decide +kernel)) dX2_box_54 (fun H locs hU hF1 hlc => ?_)
      have hF := hF.tr hF1
      have hU : bx_U g ad σ τ (w.1, 1) H := hU
      refine lv_aload_n hx hb dX2_box_57 rfl (lv_at hl 0 rfl) ?_
      refine bg_X2_code hx hb hts hinX2 hown hK hU (hts (.fieldLink RX2 42 "ClashBoxesModel" "code" "I") (by decide +kernel)) dX2_box_58 ?_
      refine W.eq (g2 := F0 mI 61 ls [.int (iI 1)]) rfl ?_
      refine li_if_le (tgt := 66) hx hb (by unfold iR; omega) dX2_box_61 (by decide) (fun h => absurd h (by decide)) (fun _ => ?_)
      refine li_iconst hx hb dX2_box_64 ?_
      refine bw_i hx hb hr hlocks (by first | exact hU | simpa using hU) hF hlc ?_ dX2_box_65
      rfl
  · refine li_if_eq (tgt := 36) hx hb (by unfold iR; omega) dX2_box_5 (by decide) (fun _ => ?_) (fun h => absurd (by decide) h)
    refine li_iconst hx hb dX2_box_36 ?_
    refine lv_goto (tgt := 54) hx hb dX2_box_37 (by decide) ?_
    refine bp_X2_code hx hb hts hinX2 hown hK hU hlc (hts (.fieldLink RX2 42 "ClashBoxesModel" "code" "I") (by decide +kernel)) dX2_box_54 (fun H locs hU hF1 hlc => ?_)
    have hF := hF.tr hF1
    have hU : bx_U g ad σ τ (w.1, 1) H := hU
    refine lv_aload_n hx hb dX2_box_57 rfl (lv_at hl 0 rfl) ?_
    refine bg_X2_code hx hb hts hinX2 hown hK hU (hts (.fieldLink RX2 42 "ClashBoxesModel" "code" "I") (by decide +kernel)) dX2_box_58 ?_
    refine W.eq (g2 := F0 mI 61 ls [.int (iI 1)]) rfl ?_
    refine li_if_le (tgt := 66) hx hb (by unfold iR; omega) dX2_box_61 (by decide) (fun h => absurd h (by decide)) (fun _ => ?_)
    refine li_iconst hx hb dX2_box_64 ?_
    refine bw_i hx hb hr hlocks (by first | exact hU | simpa using hU) hF hlc ?_ dX2_box_65
    rfl

set_option maxHeartbeats 4000000 in
set_option maxRecDepth 100000 in
theorem c_X2_box_s (l : Launch) (g : bxG) (ad : bxA) (σ τ : bxS) (w : bxW) (k x y z dx dy dz : Int) (hRk : iR k) (hRx : iR x) (hRy : iR y) (hRz : iR z) (hRdx : iR dx) (hRdy : iR dy) (hRdz : iR dz) (hBt : bx_B τ) (hg : ((0 ≤ k ∧ k ≤ 7) ∧ (0 ≤ x ∧ x ≤ 1000 ∧ 1 ≤ dx ∧ dx ≤ 1000 ∧ x + dx ≤ 1000) ∧ (0 ≤ y ∧ y ≤ 1000 ∧ 1 ≤ dy ∧ dy ≤ 1000 ∧ y + dy ≤ 1000) ∧ (0 ≤ z ∧ z ≤ 1000 ∧ 1 ≤ dz ∧ dz ≤ 1000 ∧ z + dz ≤ 1000)) ∧ ¬ τ 0 0 0 < 60) : Met l yX2_box wsX2_box ({ frames := 2, cells := 0, slots := 0, locals := 43 }) (va_Pc [.ref (ad 7 0), .int (iI k), .int (iI x), .int (iI y), .int (iI z), .int (iI dx), .int (iI dy), .int (iI dz)] (fun U => bx_I g ad σ τ w U)) (bq_W (some (.int (iI 0))) g ad σ τ (w.1, 2)) 0 0 (bq_fr g) := by
  refine Met.ofW (cc := cX2_box) (maxL := 8) (ret := (some .int)) (by decide) rfl ?_
  intro Pg Ev s mI args below meth cd s₁ B hml hv
  obtain ⟨rfl, hU, hK⟩ := hv
  have hx := B.exec
  have hb := B.bytes
  have hr := B.returns
  have hts := atoms_spec (ws := wsX2_box) B.pre
  have hown : s.vm.findClass RX2 = some mI.cls := findClass_of_methodNamed B.named
  have hlocks := B.notSynchronized
  have hF : bx_F g s.heap s.heap := bx_F.rf
  have hlc : bx_Lc g [] := bx_Lc.nil
  have hl := lv_entry ([.ref (ad 7 0), .int (iI k), .int (iI x), .int (iI y), .int (iI z), .int (iI dx), .int (iI dy), .int (iI dz)]) (n := 8) (Nat.le_of_ble_eq_true rfl)
  rw [lg_entry_eq]
  generalize (lg_sl ([.ref (ad 7 0), .int (iI k), .int (iI x), .int (iI y), .int (iI z), .int (iI dx), .int (iI dy), .int (iI dz)]) ++ List.replicate (8 - (lg_sl ([.ref (ad 7 0), .int (iI k), .int (iI x), .int (iI y), .int (iI z), .int (iI dx), .int (iI dy), .int (iI dz)])).length) Slot.unset).toArray = ls at hl ⊢
  have hl : lv_has ls 8 [(0, .ref (ad 7 0)), (1, .int (iI k)), (2, .int (iI x)), (3, .int (iI y)), (4, .int (iI z)), (5, .int (iI dx)), (6, .int (iI dy)), (7, .int (iI dz))] := hl
  have hinX2 : ∀ w ∈ wsX20, w ∈ wsX2_box := by decide +kernel
  have hRk0 : -2147483648 ≤ k ∧ k < 2147483648 := hRk
  have hRx0 : -2147483648 ≤ x ∧ x < 2147483648 := hRx
  have hRy0 : -2147483648 ≤ y ∧ y < 2147483648 := hRy
  have hRz0 : -2147483648 ≤ z ∧ z < 2147483648 := hRz
  have hRdx0 : -2147483648 ≤ dx ∧ dx < 2147483648 := hRdx
  have hRdy0 : -2147483648 ≤ dy ∧ dy < 2147483648 := hRdy
  have hRdz0 : -2147483648 ≤ dz ∧ dz < 2147483648 := hRdz
  have hm0 := bB0 hBt
  refine lv_aload_n hx hb dX2_box_0 rfl (lv_at hl 0 rfl) ?_
  refine lv_iload_n hx hb dX2_box_1 rfl (lv_at hl 1 rfl) ?_
  refine bc_SB (As := [.int (iI k)]) (rest := [.ref (ad 7 0)]) ⟨hx, hb, hml, hown, hts⟩ (c_X2_isKind l g ad σ τ w k (by unfold iR; omega)) (va_cwS 1 hts gX2_box_X2_isKind rfl rfl rfl (by decide +kernel) ⟨Nat.le_of_ble_eq_true rfl, Nat.le_of_ble_eq_true rfl⟩) hK hU  rfl hl.1 rfl (Nat.le_of_ble_eq_true rfl) dX2_box_2 ⟨Nat.le_of_ble_eq_true rfl, Nat.le_of_ble_eq_true rfl⟩ (fun h1 => ?_) (fun h1 => ?_)
  · refine li_if_eq (tgt := 36) hx hb (by unfold iR; omega) dX2_box_5 (by decide) (fun h => absurd h (by decide)) (fun _ => ?_)
    refine lv_iload_n hx hb dX2_box_8 rfl (lv_at hl 2 rfl) ?_
    refine lv_iload hx hb dX2_box_9 (lv_at hl 5 rfl) ?_
    refine bc_SB (As := [.int (iI x), .int (iI dx)]) (rest := [.ref (ad 7 0)]) ⟨hx, hb, hml, hown, hts⟩ (c_X2_isSpan l g ad σ τ w x dx (by unfold iR; omega) (by unfold iR; omega)) (va_cwS 2 hts gX2_box_X2_isSpan rfl rfl rfl (by decide +kernel) ⟨Nat.le_of_ble_eq_true rfl, Nat.le_of_ble_eq_true rfl⟩) hK hU  rfl hl.1 rfl (Nat.le_of_ble_eq_true rfl) dX2_box_11 ⟨Nat.le_of_ble_eq_true rfl, Nat.le_of_ble_eq_true rfl⟩ (fun h2 => ?_) (fun h2 => ?_)
    · refine li_if_eq (tgt := 36) hx hb (by unfold iR; omega) dX2_box_14 (by decide) (fun h => absurd h (by decide)) (fun _ => ?_)
      refine lv_iload_n hx hb dX2_box_17 rfl (lv_at hl 3 rfl) ?_
      refine lv_iload hx hb dX2_box_18 (lv_at hl 6 rfl) ?_
      refine bc_SB (As := [.int (iI y), .int (iI dy)]) (rest := [.ref (ad 7 0)]) ⟨hx, hb, hml, hown, hts⟩ (c_X2_isSpan l g ad σ τ w y dy (by unfold iR; omega) (by unfold iR; omega)) (va_cwS 2 hts gX2_box_X2_isSpan rfl rfl rfl (by decide +kernel) ⟨Nat.le_of_ble_eq_true rfl, Nat.le_of_ble_eq_true rfl⟩) hK hU  rfl hl.1 rfl (Nat.le_of_ble_eq_true rfl) dX2_box_20 ⟨Nat.le_of_ble_eq_true rfl, Nat.le_of_ble_eq_true rfl⟩ (fun h3 => ?_) (fun h3 => ?_)
      · refine li_if_eq (tgt := 36) hx hb (by unfold iR; omega) dX2_box_23 (by decide) (fun h => absurd h (by decide)) (fun _ => ?_)
        refine lv_iload hx hb dX2_box_26 (lv_at hl 4 rfl) ?_
        refine lv_iload hx hb dX2_box_28 (lv_at hl 7 rfl) ?_
        refine bc_SB (As := [.int (iI z), .int (iI dz)]) (rest := [.ref (ad 7 0)]) ⟨hx, hb, hml, hown, hts⟩ (c_X2_isSpan l g ad σ τ w z dz (by unfold iR; omega) (by unfold iR; omega)) (va_cwS 2 hts gX2_box_X2_isSpan rfl rfl rfl (by decide +kernel) ⟨Nat.le_of_ble_eq_true rfl, Nat.le_of_ble_eq_true rfl⟩) hK hU  rfl hl.1 rfl (Nat.le_of_ble_eq_true rfl) dX2_box_30 ⟨Nat.le_of_ble_eq_true rfl, Nat.le_of_ble_eq_true rfl⟩ (fun h4 => ?_) (fun h4 => ?_)
        · refine li_if_ne (tgt := 40) hx hb (by unfold iR; omega) dX2_box_33 (by decide) (fun _ => ?_) (fun h => absurd h (by decide))
          refine lv_aload_n hx hb dX2_box_40 rfl (lv_at hl 0 rfl) ?_
          refine bg_X2_made hx hb hts hinX2 hown hK hU (hts (.fieldLink RX2 49 "ClashBoxesModel" "made" "I") (by decide +kernel)) dX2_box_41 ?_
          have b5 := bB0 hBt
          refine li_bipush hx hb dX2_box_44 (by decide) ?_
          refine li_icmp_ne (tgt := 53) hx hb (by unfold iR; omega) (by unfold iR; omega) dX2_box_46 (by decide) (fun h6 => ?_) (fun h6 => ?_)
          · refine li_iconst hx hb dX2_box_53 ?_
            exfalso
            omega
          · refine li_iconst hx hb dX2_box_49 ?_
            refine lv_goto (tgt := 54) hx hb dX2_box_50 (by decide) ?_
            refine bp_X2_code hx hb hts hinX2 hown hK hU hlc (hts (.fieldLink RX2 42 "ClashBoxesModel" "code" "I") (by decide +kernel)) dX2_box_54 (fun H locs hU hF1 hlc => ?_)
            have hF := hF.tr hF1
            have hU : bx_U g ad σ τ (w.1, 2) H := hU
            refine lv_aload_n hx hb dX2_box_57 rfl (lv_at hl 0 rfl) ?_
            refine bg_X2_code hx hb hts hinX2 hown hK hU (hts (.fieldLink RX2 42 "ClashBoxesModel" "code" "I") (by decide +kernel)) dX2_box_58 ?_
            refine W.eq (g2 := F0 mI 61 ls [.int (iI 2)]) rfl ?_
            refine li_if_le (tgt := 66) hx hb (by unfold iR; omega) dX2_box_61 (by decide) (fun h => absurd h (by decide)) (fun _ => ?_)
            refine li_iconst hx hb dX2_box_64 ?_
            refine bw_i hx hb hr hlocks (by first | exact hU | simpa using hU) hF hlc ?_ dX2_box_65
            rfl
        · refine li_if_ne (tgt := 40) hx hb (by unfold iR; omega) dX2_box_33 (by decide) (fun h => absurd (by decide) h) (fun _ => ?_)
          refine li_iconst hx hb dX2_box_36 ?_
          refine lv_goto (tgt := 54) hx hb dX2_box_37 (by decide) ?_
          exfalso
          omega
      · refine li_if_eq (tgt := 36) hx hb (by unfold iR; omega) dX2_box_23 (by decide) (fun _ => ?_) (fun h => absurd (by decide) h)
        refine li_iconst hx hb dX2_box_36 ?_
        refine lv_goto (tgt := 54) hx hb dX2_box_37 (by decide) ?_
        exfalso
        omega
    · refine li_if_eq (tgt := 36) hx hb (by unfold iR; omega) dX2_box_14 (by decide) (fun _ => ?_) (fun h => absurd (by decide) h)
      refine li_iconst hx hb dX2_box_36 ?_
      refine lv_goto (tgt := 54) hx hb dX2_box_37 (by decide) ?_
      exfalso
      omega
  · refine li_if_eq (tgt := 36) hx hb (by unfold iR; omega) dX2_box_5 (by decide) (fun _ => ?_) (fun h => absurd (by decide) h)
    refine li_iconst hx hb dX2_box_36 ?_
    refine lv_goto (tgt := 54) hx hb dX2_box_37 (by decide) ?_
    exfalso
    omega

set_option maxHeartbeats 4000000 in
set_option maxRecDepth 100000 in
theorem c_X2_tube_t (l : Launch) (g : bxG) (ad : bxA) (σ τ : bxS) (w : bxW) (k a f n u v r : Int) (hRk : iR k) (hRa : iR a) (hRf : iR f) (hRn : iR n) (hRu : iR u) (hRv : iR v) (hRr : iR r) (hBt : bx_B τ) (hg : ((0 ≤ k ∧ k ≤ 7) ∧ (0 ≤ a ∧ a ≤ 2) ∧ (0 ≤ f ∧ f ≤ 1000 ∧ 1 ≤ n ∧ n ≤ 1000 ∧ f + n ≤ 1000) ∧ (0 ≤ u ∧ u ≤ 1000) ∧ (0 ≤ v ∧ v ≤ 1000) ∧ 1 ≤ r ∧ r ≤ 200) ∧ τ 0 0 0 < 60) : Met l yX2_tube wsX2_tube ({ frames := 2, cells := 0, slots := 0, locals := 43 }) (va_Pc [.ref (ad 7 0), .int (iI k), .int (iI a), .int (iI f), .int (iI n), .int (iI u), .int (iI v), .int (iI r)] (fun U => bx_I g ad σ τ w U)) (bq_W (some (.int (iI (τ 0 0 0)))) g ad σ (tubS τ k a f n u v r) (w.1, 0)) 0 0 (bq_fr g) := by
  refine Met.ofW (cc := cX2_tube) (maxL := 9) (ret := (some .int)) (by decide) rfl ?_
  intro Pg Ev s mI args below meth cd s₁ B hml hv
  obtain ⟨rfl, hU, hK⟩ := hv
  have hx := B.exec
  have hb := B.bytes
  have hr := B.returns
  have hts := atoms_spec (ws := wsX2_tube) B.pre
  have hown : s.vm.findClass RX2 = some mI.cls := findClass_of_methodNamed B.named
  have hlocks := B.notSynchronized
  have hF : bx_F g s.heap s.heap := bx_F.rf
  have hlc : bx_Lc g [] := bx_Lc.nil
  have hl := lv_entry ([.ref (ad 7 0), .int (iI k), .int (iI a), .int (iI f), .int (iI n), .int (iI u), .int (iI v), .int (iI r)]) (n := 9) (Nat.le_of_ble_eq_true rfl)
  rw [lg_entry_eq]
  generalize (lg_sl ([.ref (ad 7 0), .int (iI k), .int (iI a), .int (iI f), .int (iI n), .int (iI u), .int (iI v), .int (iI r)]) ++ List.replicate (9 - (lg_sl ([.ref (ad 7 0), .int (iI k), .int (iI a), .int (iI f), .int (iI n), .int (iI u), .int (iI v), .int (iI r)])).length) Slot.unset).toArray = ls at hl ⊢
  have hl : lv_has ls 9 [(0, .ref (ad 7 0)), (1, .int (iI k)), (2, .int (iI a)), (3, .int (iI f)), (4, .int (iI n)), (5, .int (iI u)), (6, .int (iI v)), (7, .int (iI r))] := hl
  have hinX2 : ∀ w ∈ wsX20, w ∈ wsX2_tube := by decide +kernel
  have hRk0 : -2147483648 ≤ k ∧ k < 2147483648 := hRk
  have hRa0 : -2147483648 ≤ a ∧ a < 2147483648 := hRa
  have hRf0 : -2147483648 ≤ f ∧ f < 2147483648 := hRf
  have hRn0 : -2147483648 ≤ n ∧ n < 2147483648 := hRn
  have hRu0 : -2147483648 ≤ u ∧ u < 2147483648 := hRu
  have hRv0 : -2147483648 ≤ v ∧ v < 2147483648 := hRv
  have hRr0 : -2147483648 ≤ r ∧ r < 2147483648 := hRr
  have hm0 := bB0 hBt
  have hm : 0 ≤ τ 0 0 0 ∧ τ 0 0 0 < 60 := ⟨by omega, by omega⟩
  refine lv_iload_n hx hb dX2_tube_0 rfl (lv_at hl 1 rfl) ?_
  refine bc_SB (As := [.int (iI k)]) (rest := []) ⟨hx, hb, hml, hown, hts⟩ (c_X2_isKind l g ad σ τ w k (by unfold iR; omega)) (va_cwS 1 hts gX2_tube_X2_isKind rfl rfl rfl (by decide +kernel) ⟨Nat.le_of_ble_eq_true rfl, Nat.le_of_ble_eq_true rfl⟩) hK hU  rfl hl.1 rfl (Nat.le_of_ble_eq_true rfl) dX2_tube_1 ⟨Nat.le_of_ble_eq_true rfl, Nat.le_of_ble_eq_true rfl⟩ (fun h1 => ?_) (fun h1 => ?_)
  · refine li_if_eq (tgt := 63) hx hb (by unfold iR; omega) dX2_tube_4 (by decide) (fun h => absurd h (by decide)) (fun _ => ?_)
    refine lv_iload_n hx hb dX2_tube_7 rfl (lv_at hl 2 rfl) ?_
    refine bc_SB (As := [.int (iI a)]) (rest := []) ⟨hx, hb, hml, hown, hts⟩ (c_X2_isAxis l g ad σ τ w a (by unfold iR; omega)) (va_cwS 1 hts gX2_tube_X2_isAxis rfl rfl rfl (by decide +kernel) ⟨Nat.le_of_ble_eq_true rfl, Nat.le_of_ble_eq_true rfl⟩) hK hU  rfl hl.1 rfl (Nat.le_of_ble_eq_true rfl) dX2_tube_8 ⟨Nat.le_of_ble_eq_true rfl, Nat.le_of_ble_eq_true rfl⟩ (fun h2 => ?_) (fun h2 => ?_)
    · refine li_if_eq (tgt := 63) hx hb (by unfold iR; omega) dX2_tube_11 (by decide) (fun h => absurd h (by decide)) (fun _ => ?_)
      refine lv_iload_n hx hb dX2_tube_14 rfl (lv_at hl 3 rfl) ?_
      refine lv_iload hx hb dX2_tube_15 (lv_at hl 4 rfl) ?_
      refine bc_SB (As := [.int (iI f), .int (iI n)]) (rest := []) ⟨hx, hb, hml, hown, hts⟩ (c_X2_isSpan l g ad σ τ w f n (by unfold iR; omega) (by unfold iR; omega)) (va_cwS 2 hts gX2_tube_X2_isSpan rfl rfl rfl (by decide +kernel) ⟨Nat.le_of_ble_eq_true rfl, Nat.le_of_ble_eq_true rfl⟩) hK hU  rfl hl.1 rfl (Nat.le_of_ble_eq_true rfl) dX2_tube_17 ⟨Nat.le_of_ble_eq_true rfl, Nat.le_of_ble_eq_true rfl⟩ (fun h3 => ?_) (fun h3 => ?_)
      · refine li_if_eq (tgt := 63) hx hb (by unfold iR; omega) dX2_tube_20 (by decide) (fun h => absurd h (by decide)) (fun _ => ?_)
        refine lv_iload hx hb dX2_tube_23 (lv_at hl 5 rfl) ?_
        refine li_iconst hx hb dX2_tube_25 ?_
        refine li_sipush hx hb dX2_tube_26 (by decide) ?_
        refine bc_SB (As := [.int (iI u), .int (iI 0), .int (iI 1000)]) (rest := []) ⟨hx, hb, hml, hown, hts⟩ (c_X2_isIn l g ad σ τ w u 0 1000 (by unfold iR; omega) (by unfold iR; omega) (by unfold iR; omega)) (va_cwS 3 hts gX2_tube_X2_isIn rfl rfl rfl (by decide +kernel) ⟨Nat.le_of_ble_eq_true rfl, Nat.le_of_ble_eq_true rfl⟩) hK hU  rfl hl.1 rfl (Nat.le_of_ble_eq_true rfl) dX2_tube_29 ⟨Nat.le_of_ble_eq_true rfl, Nat.le_of_ble_eq_true rfl⟩ (fun h4 => ?_) (fun h4 => ?_)
        · refine li_if_eq (tgt := 63) hx hb (by unfold iR; omega) dX2_tube_32 (by decide) (fun h => absurd h (by decide)) (fun _ => ?_)
          refine lv_iload hx hb dX2_tube_35 (lv_at hl 6 rfl) ?_
          refine li_iconst hx hb dX2_tube_37 ?_
          refine li_sipush hx hb dX2_tube_38 (by decide) ?_
          refine bc_SB (As := [.int (iI v), .int (iI 0), .int (iI 1000)]) (rest := []) ⟨hx, hb, hml, hown, hts⟩ (c_X2_isIn l g ad σ τ w v 0 1000 (by unfold iR; omega) (by unfold iR; omega) (by unfold iR; omega)) (va_cwS 3 hts gX2_tube_X2_isIn rfl rfl rfl (by decide +kernel) ⟨Nat.le_of_ble_eq_true rfl, Nat.le_of_ble_eq_true rfl⟩) hK hU  rfl hl.1 rfl (Nat.le_of_ble_eq_true rfl) dX2_tube_41 ⟨Nat.le_of_ble_eq_true rfl, Nat.le_of_ble_eq_true rfl⟩ (fun h5 => ?_) (fun h5 => ?_)
          · refine li_if_eq (tgt := 63) hx hb (by unfold iR; omega) dX2_tube_44 (by decide) (fun h => absurd h (by decide)) (fun _ => ?_)
            refine lv_iload hx hb dX2_tube_47 (lv_at hl 7 rfl) ?_
            refine li_iconst hx hb dX2_tube_49 ?_
            refine li_sipush hx hb dX2_tube_50 (by decide) ?_
            refine bc_SB (As := [.int (iI r), .int (iI 1), .int (iI 200)]) (rest := []) ⟨hx, hb, hml, hown, hts⟩ (c_X2_isIn l g ad σ τ w r 1 200 (by unfold iR; omega) (by unfold iR; omega) (by unfold iR; omega)) (va_cwS 3 hts gX2_tube_X2_isIn rfl rfl rfl (by decide +kernel) ⟨Nat.le_of_ble_eq_true rfl, Nat.le_of_ble_eq_true rfl⟩) hK hU  rfl hl.1 rfl (Nat.le_of_ble_eq_true rfl) dX2_tube_53 ⟨Nat.le_of_ble_eq_true rfl, Nat.le_of_ble_eq_true rfl⟩ (fun h6 => ?_) (fun h6 => ?_)
            · refine li_if_eq (tgt := 63) hx hb (by unfold iR; omega) dX2_tube_56 (by decide) (fun h => absurd h (by decide)) (fun _ => ?_)
              refine li_iconst hx hb dX2_tube_59 ?_
              refine lv_goto (tgt := 64) hx hb dX2_tube_60 (by decide) ?_
              refine lv_istore (lv' := [(8, .int (iI 1)), (0, .ref (ad 7 0)), (1, .int (iI k)), (2, .int (iI a)), (3, .int (iI f)), (4, .int (iI n)), (5, .int (iI u)), (6, .int (iI v)), (7, .int (iI r))]) hx hb dX2_tube_64 hl (by decide) rfl (fun ls hl => ?_)
              refine lv_aload_n hx hb dX2_tube_66 rfl (lv_at hl 1 rfl) ?_
              refine lv_iload hx hb dX2_tube_67 (lv_at hl 0 rfl) ?_
              refine li_if_ne (tgt := 76) hx hb (by unfold iR; omega) dX2_tube_69 (by decide) (fun _ => ?_) (fun h => absurd h (by decide))
              refine lv_aload_n hx hb dX2_tube_76 rfl (lv_at hl 1 rfl) ?_
              refine bg_X2_made hx hb hts hinX2 hown hK hU (hts (.fieldLink RX2 49 "ClashBoxesModel" "made" "I") (by decide +kernel)) dX2_tube_77 ?_
              have b7 := bB0 hBt
              refine li_bipush hx hb dX2_tube_80 (by decide) ?_
              refine li_icmp_ne (tgt := 89) hx hb (by unfold iR; omega) (by unfold iR; omega) dX2_tube_82 (by decide) (fun h8 => ?_) (fun h8 => ?_)
              · refine li_iconst hx hb dX2_tube_89 ?_
                refine bp_X2_code hx hb hts hinX2 hown hK hU hlc (hts (.fieldLink RX2 42 "ClashBoxesModel" "code" "I") (by decide +kernel)) dX2_tube_90 (fun H locs hU hF1 hlc => ?_)
                have hF := hF.tr hF1
                have hU : bx_U g ad σ τ (w.1, 0) H := hU
                refine lv_aload_n hx hb dX2_tube_93 rfl (lv_at hl 1 rfl) ?_
                refine bg_X2_code hx hb hts hinX2 hown hK hU (hts (.fieldLink RX2 42 "ClashBoxesModel" "code" "I") (by decide +kernel)) dX2_tube_94 ?_
                refine W.eq (g2 := F0 mI 97 ls [.int (iI 0)]) rfl ?_
                refine li_if_le (tgt := 102) hx hb (by unfold iR; omega) dX2_tube_97 (by decide) (fun _ => ?_) (fun h => absurd (by decide) h)
                refine lv_aload_n hx hb dX2_tube_102 rfl (lv_at hl 1 rfl) ?_
                refine lv_iload_n hx hb dX2_tube_103 rfl (lv_at hl 3 rfl) ?_
                refine lv_iload_n hx hb dX2_tube_104 rfl (lv_at hl 4 rfl) ?_
                refine lv_iload_n hx hb dX2_tube_105 rfl (lv_at hl 4 rfl) ?_
                refine lv_iload hx hb dX2_tube_106 (lv_at hl 5 rfl) ?_
                refine li_iadd hx hb dX2_tube_108 ?_
                refine bc_VW (As := [.int (iI a), .int (iI f), .int (iI (f + n))]) (rest := []) (kd := 7) (k := 0) (ci := 2) ⟨hx, hb, hml, hown, hts⟩ (c_X2_side l g ad σ τ (w.1, 0) a f (f + n) hm (by omega)) (cwV 3 hts gX2_tube_X2_side rfl rfl rfl (by decide +kernel) ⟨Nat.le_of_ble_eq_true rfl, Nat.le_of_ble_eq_true rfl⟩) hK hU hlc (bx_L0 (by omega)) rfl rfl rfl hl.1 rfl (Nat.le_of_ble_eq_true rfl) dX2_tube_109 ⟨Nat.le_of_ble_eq_true rfl, Nat.le_of_ble_eq_true rfl⟩ (fun H locs hU hF1 hlc => ?_)
                have hF := hF.tr hF1
                refine lv_aload_n hx hb dX2_tube_112 rfl (lv_at hl 1 rfl) ?_
                refine lv_iload_n hx hb dX2_tube_113 rfl (lv_at hl 3 rfl) ?_
                refine li_if_ne (tgt := 121) hx hb (by unfold iR; omega) dX2_tube_114 (by decide) (fun h9 => ?_) (fun h9 => ?_)
                · refine li_iconst hx hb dX2_tube_121 ?_
                  refine lv_iload hx hb dX2_tube_122 (lv_at hl 6 rfl) ?_
                  refine lv_iload hx hb dX2_tube_124 (lv_at hl 6 rfl) ?_
                  refine bc_VW (As := [.int (iI 0), .int (iI u), .int (iI u)]) (rest := []) (kd := 7) (k := 0) (ci := 2) ⟨hx, hb, hml, hown, hts⟩ (c_X2_side l g ad σ (sideS τ a f (f + n)) (w.1, 0) 0 u u hm (by omega)) (cwV 3 hts gX2_tube_X2_side rfl rfl rfl (by decide +kernel) ⟨Nat.le_of_ble_eq_true rfl, Nat.le_of_ble_eq_true rfl⟩) hK hU hlc (bx_L0 (by omega)) rfl rfl rfl hl.1 rfl (Nat.le_of_ble_eq_true rfl) dX2_tube_126 ⟨Nat.le_of_ble_eq_true rfl, Nat.le_of_ble_eq_true rfl⟩ (fun H locs hU hF1 hlc => ?_)
                  have hF := hF.tr hF1
                  refine lv_aload_n hx hb dX2_tube_129 rfl (lv_at hl 1 rfl) ?_
                  refine lv_iload_n hx hb dX2_tube_130 rfl (lv_at hl 3 rfl) ?_
                  refine li_iconst hx hb dX2_tube_131 ?_
                  refine li_icmp_ne (tgt := 139) hx hb (by unfold iR; omega) (by unfold iR; omega) dX2_tube_132 (by decide) (fun h10 => ?_) (fun h10 => ?_)
                  · refine li_iconst hx hb dX2_tube_139 ?_
                    refine lv_iload hx hb dX2_tube_140 (lv_at hl 7 rfl) ?_
                    refine lv_iload hx hb dX2_tube_142 (lv_at hl 7 rfl) ?_
                    refine bc_VW (As := [.int (iI 2), .int (iI v), .int (iI v)]) (rest := []) (kd := 7) (k := 0) (ci := 2) ⟨hx, hb, hml, hown, hts⟩ (c_X2_side l g ad σ (sideS (sideS τ a f (f + n)) 0 u u) (w.1, 0) 2 v v hm (by omega)) (cwV 3 hts gX2_tube_X2_side rfl rfl rfl (by decide +kernel) ⟨Nat.le_of_ble_eq_true rfl, Nat.le_of_ble_eq_true rfl⟩) hK hU hlc (bx_L0 (by omega)) rfl rfl rfl hl.1 rfl (Nat.le_of_ble_eq_true rfl) dX2_tube_144 ⟨Nat.le_of_ble_eq_true rfl, Nat.le_of_ble_eq_true rfl⟩ (fun H locs hU hF1 hlc => ?_)
                    have hF := hF.tr hF1
                    refine lv_aload_n hx hb dX2_tube_147 rfl (lv_at hl 1 rfl) ?_
                    refine lv_iload_n hx hb dX2_tube_148 rfl (lv_at hl 2 rfl) ?_
                    refine lv_iload_n hx hb dX2_tube_149 rfl (lv_at hl 3 rfl) ?_
                    refine lv_iload hx hb dX2_tube_150 (lv_at hl 8 rfl) ?_
                    refine bc_VW (As := [.int (iI k), .int (iI a), .int (iI r)]) (rest := []) (kd := 7) (k := 0) (ci := 2) ⟨hx, hb, hml, hown, hts⟩ (c_X2_lay l g ad σ (sideS (sideS (sideS τ a f (f + n)) 0 u u) 2 v v) (w.1, 0) k a r hm) (cwV 3 hts gX2_tube_X2_lay rfl rfl rfl (by decide +kernel) ⟨Nat.le_of_ble_eq_true rfl, Nat.le_of_ble_eq_true rfl⟩) hK hU hlc (bx_L0 (by omega)) rfl rfl rfl hl.1 rfl (Nat.le_of_ble_eq_true rfl) dX2_tube_152 ⟨Nat.le_of_ble_eq_true rfl, Nat.le_of_ble_eq_true rfl⟩ (fun H locs hU hF1 hlc => ?_)
                    have hF := hF.tr hF1
                    refine bw_i hx hb hr hlocks (by show bx_U g ad σ (layS (sideS (sideS (sideS τ a f (f + n)) (uA a) u u) (vA a) v v) k a r) (w.1, 0) _; rw [show uA a = _ from if_neg h9, show vA a = _ from if_neg h10]; exact hU) hF hlc ?_ dX2_tube_155
                    rfl
                  · refine li_iconst hx hb dX2_tube_135 ?_
                    refine lv_goto (tgt := 140) hx hb dX2_tube_136 (by decide) ?_
                    refine lv_iload hx hb dX2_tube_140 (lv_at hl 7 rfl) ?_
                    refine lv_iload hx hb dX2_tube_142 (lv_at hl 7 rfl) ?_
                    refine bc_VW (As := [.int (iI 1), .int (iI v), .int (iI v)]) (rest := []) (kd := 7) (k := 0) (ci := 2) ⟨hx, hb, hml, hown, hts⟩ (c_X2_side l g ad σ (sideS (sideS τ a f (f + n)) 0 u u) (w.1, 0) 1 v v hm (by omega)) (cwV 3 hts gX2_tube_X2_side rfl rfl rfl (by decide +kernel) ⟨Nat.le_of_ble_eq_true rfl, Nat.le_of_ble_eq_true rfl⟩) hK hU hlc (bx_L0 (by omega)) rfl rfl rfl hl.1 rfl (Nat.le_of_ble_eq_true rfl) dX2_tube_144 ⟨Nat.le_of_ble_eq_true rfl, Nat.le_of_ble_eq_true rfl⟩ (fun H locs hU hF1 hlc => ?_)
                    have hF := hF.tr hF1
                    refine lv_aload_n hx hb dX2_tube_147 rfl (lv_at hl 1 rfl) ?_
                    refine lv_iload_n hx hb dX2_tube_148 rfl (lv_at hl 2 rfl) ?_
                    refine lv_iload_n hx hb dX2_tube_149 rfl (lv_at hl 3 rfl) ?_
                    refine lv_iload hx hb dX2_tube_150 (lv_at hl 8 rfl) ?_
                    refine bc_VW (As := [.int (iI k), .int (iI a), .int (iI r)]) (rest := []) (kd := 7) (k := 0) (ci := 2) ⟨hx, hb, hml, hown, hts⟩ (c_X2_lay l g ad σ (sideS (sideS (sideS τ a f (f + n)) 0 u u) 1 v v) (w.1, 0) k a r hm) (cwV 3 hts gX2_tube_X2_lay rfl rfl rfl (by decide +kernel) ⟨Nat.le_of_ble_eq_true rfl, Nat.le_of_ble_eq_true rfl⟩) hK hU hlc (bx_L0 (by omega)) rfl rfl rfl hl.1 rfl (Nat.le_of_ble_eq_true rfl) dX2_tube_152 ⟨Nat.le_of_ble_eq_true rfl, Nat.le_of_ble_eq_true rfl⟩ (fun H locs hU hF1 hlc => ?_)
                    have hF := hF.tr hF1
                    refine bw_i hx hb hr hlocks (by show bx_U g ad σ (layS (sideS (sideS (sideS τ a f (f + n)) (uA a) u u) (vA a) v v) k a r) (w.1, 0) _; rw [show uA a = _ from if_neg h9, show vA a = _ from if_pos h10]; exact hU) hF hlc ?_ dX2_tube_155
                    rfl
                · refine li_iconst hx hb dX2_tube_117 ?_
                  refine lv_goto (tgt := 122) hx hb dX2_tube_118 (by decide) ?_
                  refine lv_iload hx hb dX2_tube_122 (lv_at hl 6 rfl) ?_
                  refine lv_iload hx hb dX2_tube_124 (lv_at hl 6 rfl) ?_
                  refine bc_VW (As := [.int (iI 1), .int (iI u), .int (iI u)]) (rest := []) (kd := 7) (k := 0) (ci := 2) ⟨hx, hb, hml, hown, hts⟩ (c_X2_side l g ad σ (sideS τ a f (f + n)) (w.1, 0) 1 u u hm (by omega)) (cwV 3 hts gX2_tube_X2_side rfl rfl rfl (by decide +kernel) ⟨Nat.le_of_ble_eq_true rfl, Nat.le_of_ble_eq_true rfl⟩) hK hU hlc (bx_L0 (by omega)) rfl rfl rfl hl.1 rfl (Nat.le_of_ble_eq_true rfl) dX2_tube_126 ⟨Nat.le_of_ble_eq_true rfl, Nat.le_of_ble_eq_true rfl⟩ (fun H locs hU hF1 hlc => ?_)
                  have hF := hF.tr hF1
                  refine lv_aload_n hx hb dX2_tube_129 rfl (lv_at hl 1 rfl) ?_
                  refine lv_iload_n hx hb dX2_tube_130 rfl (lv_at hl 3 rfl) ?_
                  refine li_iconst hx hb dX2_tube_131 ?_
                  refine li_icmp_ne (tgt := 139) hx hb (by unfold iR; omega) (by unfold iR; omega) dX2_tube_132 (by decide) (fun h11 => ?_) (fun h11 => ?_)
                  · refine li_iconst hx hb dX2_tube_139 ?_
                    refine lv_iload hx hb dX2_tube_140 (lv_at hl 7 rfl) ?_
                    refine lv_iload hx hb dX2_tube_142 (lv_at hl 7 rfl) ?_
                    refine bc_VW (As := [.int (iI 2), .int (iI v), .int (iI v)]) (rest := []) (kd := 7) (k := 0) (ci := 2) ⟨hx, hb, hml, hown, hts⟩ (c_X2_side l g ad σ (sideS (sideS τ a f (f + n)) 1 u u) (w.1, 0) 2 v v hm (by omega)) (cwV 3 hts gX2_tube_X2_side rfl rfl rfl (by decide +kernel) ⟨Nat.le_of_ble_eq_true rfl, Nat.le_of_ble_eq_true rfl⟩) hK hU hlc (bx_L0 (by omega)) rfl rfl rfl hl.1 rfl (Nat.le_of_ble_eq_true rfl) dX2_tube_144 ⟨Nat.le_of_ble_eq_true rfl, Nat.le_of_ble_eq_true rfl⟩ (fun H locs hU hF1 hlc => ?_)
                    have hF := hF.tr hF1
                    refine lv_aload_n hx hb dX2_tube_147 rfl (lv_at hl 1 rfl) ?_
                    refine lv_iload_n hx hb dX2_tube_148 rfl (lv_at hl 2 rfl) ?_
                    refine lv_iload_n hx hb dX2_tube_149 rfl (lv_at hl 3 rfl) ?_
                    refine lv_iload hx hb dX2_tube_150 (lv_at hl 8 rfl) ?_
                    refine bc_VW (As := [.int (iI k), .int (iI a), .int (iI r)]) (rest := []) (kd := 7) (k := 0) (ci := 2) ⟨hx, hb, hml, hown, hts⟩ (c_X2_lay l g ad σ (sideS (sideS (sideS τ a f (f + n)) 1 u u) 2 v v) (w.1, 0) k a r hm) (cwV 3 hts gX2_tube_X2_lay rfl rfl rfl (by decide +kernel) ⟨Nat.le_of_ble_eq_true rfl, Nat.le_of_ble_eq_true rfl⟩) hK hU hlc (bx_L0 (by omega)) rfl rfl rfl hl.1 rfl (Nat.le_of_ble_eq_true rfl) dX2_tube_152 ⟨Nat.le_of_ble_eq_true rfl, Nat.le_of_ble_eq_true rfl⟩ (fun H locs hU hF1 hlc => ?_)
                    have hF := hF.tr hF1
                    refine bw_i hx hb hr hlocks (by show bx_U g ad σ (layS (sideS (sideS (sideS τ a f (f + n)) (uA a) u u) (vA a) v v) k a r) (w.1, 0) _; rw [show uA a = _ from if_pos h9, show vA a = _ from if_neg h11]; exact hU) hF hlc ?_ dX2_tube_155
                    rfl
                  · refine li_iconst hx hb dX2_tube_135 ?_
                    refine lv_goto (tgt := 140) hx hb dX2_tube_136 (by decide) ?_
                    refine lv_iload hx hb dX2_tube_140 (lv_at hl 7 rfl) ?_
                    refine lv_iload hx hb dX2_tube_142 (lv_at hl 7 rfl) ?_
                    refine bc_VW (As := [.int (iI 1), .int (iI v), .int (iI v)]) (rest := []) (kd := 7) (k := 0) (ci := 2) ⟨hx, hb, hml, hown, hts⟩ (c_X2_side l g ad σ (sideS (sideS τ a f (f + n)) 1 u u) (w.1, 0) 1 v v hm (by omega)) (cwV 3 hts gX2_tube_X2_side rfl rfl rfl (by decide +kernel) ⟨Nat.le_of_ble_eq_true rfl, Nat.le_of_ble_eq_true rfl⟩) hK hU hlc (bx_L0 (by omega)) rfl rfl rfl hl.1 rfl (Nat.le_of_ble_eq_true rfl) dX2_tube_144 ⟨Nat.le_of_ble_eq_true rfl, Nat.le_of_ble_eq_true rfl⟩ (fun H locs hU hF1 hlc => ?_)
                    have hF := hF.tr hF1
                    refine lv_aload_n hx hb dX2_tube_147 rfl (lv_at hl 1 rfl) ?_
                    refine lv_iload_n hx hb dX2_tube_148 rfl (lv_at hl 2 rfl) ?_
                    refine lv_iload_n hx hb dX2_tube_149 rfl (lv_at hl 3 rfl) ?_
                    refine lv_iload hx hb dX2_tube_150 (lv_at hl 8 rfl) ?_
                    refine bc_VW (As := [.int (iI k), .int (iI a), .int (iI r)]) (rest := []) (kd := 7) (k := 0) (ci := 2) ⟨hx, hb, hml, hown, hts⟩ (c_X2_lay l g ad σ (sideS (sideS (sideS τ a f (f + n)) 1 u u) 1 v v) (w.1, 0) k a r hm) (cwV 3 hts gX2_tube_X2_lay rfl rfl rfl (by decide +kernel) ⟨Nat.le_of_ble_eq_true rfl, Nat.le_of_ble_eq_true rfl⟩) hK hU hlc (bx_L0 (by omega)) rfl rfl rfl hl.1 rfl (Nat.le_of_ble_eq_true rfl) dX2_tube_152 ⟨Nat.le_of_ble_eq_true rfl, Nat.le_of_ble_eq_true rfl⟩ (fun H locs hU hF1 hlc => ?_)
                    have hF := hF.tr hF1
                    refine bw_i hx hb hr hlocks (by show bx_U g ad σ (layS (sideS (sideS (sideS τ a f (f + n)) (uA a) u u) (vA a) v v) k a r) (w.1, 0) _; rw [show uA a = _ from if_pos h9, show vA a = _ from if_pos h11]; exact hU) hF hlc ?_ dX2_tube_155
                    rfl
              · refine li_iconst hx hb dX2_tube_85 ?_
                refine lv_goto (tgt := 90) hx hb dX2_tube_86 (by decide) ?_
                exfalso
                omega
            · refine li_if_eq (tgt := 63) hx hb (by unfold iR; omega) dX2_tube_56 (by decide) (fun _ => ?_) (fun h => absurd (by decide) h)
              refine li_iconst hx hb dX2_tube_63 ?_
              refine lv_istore (lv' := [(8, .int (iI 0)), (0, .ref (ad 7 0)), (1, .int (iI k)), (2, .int (iI a)), (3, .int (iI f)), (4, .int (iI n)), (5, .int (iI u)), (6, .int (iI v)), (7, .int (iI r))]) hx hb dX2_tube_64 hl (by decide) rfl (fun ls hl => ?_)
              refine lv_aload_n hx hb dX2_tube_66 rfl (lv_at hl 1 rfl) ?_
              refine lv_iload hx hb dX2_tube_67 (lv_at hl 0 rfl) ?_
              refine li_if_ne (tgt := 76) hx hb (by unfold iR; omega) dX2_tube_69 (by decide) (fun h => absurd (by decide) h) (fun _ => ?_)
              refine li_iconst hx hb dX2_tube_72 ?_
              refine lv_goto (tgt := 90) hx hb dX2_tube_73 (by decide) ?_
              exfalso
              omega
          · refine li_if_eq (tgt := 63) hx hb (by unfold iR; omega) dX2_tube_44 (by decide) (fun _ => ?_) (fun h => absurd (by decide) h)
            refine li_iconst hx hb dX2_tube_63 ?_
            refine lv_istore (lv' := [(8, .int (iI 0)), (0, .ref (ad 7 0)), (1, .int (iI k)), (2, .int (iI a)), (3, .int (iI f)), (4, .int (iI n)), (5, .int (iI u)), (6, .int (iI v)), (7, .int (iI r))]) hx hb dX2_tube_64 hl (by decide) rfl (fun ls hl => ?_)
            refine lv_aload_n hx hb dX2_tube_66 rfl (lv_at hl 1 rfl) ?_
            refine lv_iload hx hb dX2_tube_67 (lv_at hl 0 rfl) ?_
            refine li_if_ne (tgt := 76) hx hb (by unfold iR; omega) dX2_tube_69 (by decide) (fun h => absurd (by decide) h) (fun _ => ?_)
            refine li_iconst hx hb dX2_tube_72 ?_
            refine lv_goto (tgt := 90) hx hb dX2_tube_73 (by decide) ?_
            exfalso
            omega
        · refine li_if_eq (tgt := 63) hx hb (by unfold iR; omega) dX2_tube_32 (by decide) (fun _ => ?_) (fun h => absurd (by decide) h)
          refine li_iconst hx hb dX2_tube_63 ?_
          refine lv_istore (lv' := [(8, .int (iI 0)), (0, .ref (ad 7 0)), (1, .int (iI k)), (2, .int (iI a)), (3, .int (iI f)), (4, .int (iI n)), (5, .int (iI u)), (6, .int (iI v)), (7, .int (iI r))]) hx hb dX2_tube_64 hl (by decide) rfl (fun ls hl => ?_)
          refine lv_aload_n hx hb dX2_tube_66 rfl (lv_at hl 1 rfl) ?_
          refine lv_iload hx hb dX2_tube_67 (lv_at hl 0 rfl) ?_
          refine li_if_ne (tgt := 76) hx hb (by unfold iR; omega) dX2_tube_69 (by decide) (fun h => absurd (by decide) h) (fun _ => ?_)
          refine li_iconst hx hb dX2_tube_72 ?_
          refine lv_goto (tgt := 90) hx hb dX2_tube_73 (by decide) ?_
          exfalso
          omega
      · refine li_if_eq (tgt := 63) hx hb (by unfold iR; omega) dX2_tube_20 (by decide) (fun _ => ?_) (fun h => absurd (by decide) h)
        refine li_iconst hx hb dX2_tube_63 ?_
        refine lv_istore (lv' := [(8, .int (iI 0)), (0, .ref (ad 7 0)), (1, .int (iI k)), (2, .int (iI a)), (3, .int (iI f)), (4, .int (iI n)), (5, .int (iI u)), (6, .int (iI v)), (7, .int (iI r))]) hx hb dX2_tube_64 hl (by decide) rfl (fun ls hl => ?_)
        refine lv_aload_n hx hb dX2_tube_66 rfl (lv_at hl 1 rfl) ?_
        refine lv_iload hx hb dX2_tube_67 (lv_at hl 0 rfl) ?_
        refine li_if_ne (tgt := 76) hx hb (by unfold iR; omega) dX2_tube_69 (by decide) (fun h => absurd (by decide) h) (fun _ => ?_)
        refine li_iconst hx hb dX2_tube_72 ?_
        refine lv_goto (tgt := 90) hx hb dX2_tube_73 (by decide) ?_
        exfalso
        omega
    · refine li_if_eq (tgt := 63) hx hb (by unfold iR; omega) dX2_tube_11 (by decide) (fun _ => ?_) (fun h => absurd (by decide) h)
      refine li_iconst hx hb dX2_tube_63 ?_
      refine lv_istore (lv' := [(8, .int (iI 0)), (0, .ref (ad 7 0)), (1, .int (iI k)), (2, .int (iI a)), (3, .int (iI f)), (4, .int (iI n)), (5, .int (iI u)), (6, .int (iI v)), (7, .int (iI r))]) hx hb dX2_tube_64 hl (by decide) rfl (fun ls hl => ?_)
      refine lv_aload_n hx hb dX2_tube_66 rfl (lv_at hl 1 rfl) ?_
      refine lv_iload hx hb dX2_tube_67 (lv_at hl 0 rfl) ?_
      refine li_if_ne (tgt := 76) hx hb (by unfold iR; omega) dX2_tube_69 (by decide) (fun h => absurd (by decide) h) (fun _ => ?_)
      refine li_iconst hx hb dX2_tube_72 ?_
      refine lv_goto (tgt := 90) hx hb dX2_tube_73 (by decide) ?_
      exfalso
      omega
  · refine li_if_eq (tgt := 63) hx hb (by unfold iR; omega) dX2_tube_4 (by decide) (fun _ => ?_) (fun h => absurd (by decide) h)
    refine li_iconst hx hb dX2_tube_63 ?_
    refine lv_istore (lv' := [(8, .int (iI 0)), (0, .ref (ad 7 0)), (1, .int (iI k)), (2, .int (iI a)), (3, .int (iI f)), (4, .int (iI n)), (5, .int (iI u)), (6, .int (iI v)), (7, .int (iI r))]) hx hb dX2_tube_64 hl (by decide) rfl (fun ls hl => ?_)
    refine lv_aload_n hx hb dX2_tube_66 rfl (lv_at hl 1 rfl) ?_
    refine lv_iload hx hb dX2_tube_67 (lv_at hl 0 rfl) ?_
    refine li_if_ne (tgt := 76) hx hb (by unfold iR; omega) dX2_tube_69 (by decide) (fun h => absurd (by decide) h) (fun _ => ?_)
    refine li_iconst hx hb dX2_tube_72 ?_
    refine lv_goto (tgt := 90) hx hb dX2_tube_73 (by decide) ?_
    exfalso
    omega

set_option maxHeartbeats 4000000 in
set_option maxRecDepth 100000 in
theorem c_X2_tube_f (l : Launch) (g : bxG) (ad : bxA) (σ τ : bxS) (w : bxW) (k a f n u v r : Int) (hRk : iR k) (hRa : iR a) (hRf : iR f) (hRn : iR n) (hRu : iR u) (hRv : iR v) (hRr : iR r) (hBt : bx_B τ) (hg : ¬ ((0 ≤ k ∧ k ≤ 7) ∧ (0 ≤ a ∧ a ≤ 2) ∧ (0 ≤ f ∧ f ≤ 1000 ∧ 1 ≤ n ∧ n ≤ 1000 ∧ f + n ≤ 1000) ∧ (0 ≤ u ∧ u ≤ 1000) ∧ (0 ≤ v ∧ v ≤ 1000) ∧ 1 ≤ r ∧ r ≤ 200)) : Met l yX2_tube wsX2_tube ({ frames := 2, cells := 0, slots := 0, locals := 43 }) (va_Pc [.ref (ad 7 0), .int (iI k), .int (iI a), .int (iI f), .int (iI n), .int (iI u), .int (iI v), .int (iI r)] (fun U => bx_I g ad σ τ w U)) (bq_W (some (.int (iI 0))) g ad σ τ (w.1, 1)) 0 0 (bq_fr g) := by
  refine Met.ofW (cc := cX2_tube) (maxL := 9) (ret := (some .int)) (by decide) rfl ?_
  intro Pg Ev s mI args below meth cd s₁ B hml hv
  obtain ⟨rfl, hU, hK⟩ := hv
  have hx := B.exec
  have hb := B.bytes
  have hr := B.returns
  have hts := atoms_spec (ws := wsX2_tube) B.pre
  have hown : s.vm.findClass RX2 = some mI.cls := findClass_of_methodNamed B.named
  have hlocks := B.notSynchronized
  have hF : bx_F g s.heap s.heap := bx_F.rf
  have hlc : bx_Lc g [] := bx_Lc.nil
  have hl := lv_entry ([.ref (ad 7 0), .int (iI k), .int (iI a), .int (iI f), .int (iI n), .int (iI u), .int (iI v), .int (iI r)]) (n := 9) (Nat.le_of_ble_eq_true rfl)
  rw [lg_entry_eq]
  generalize (lg_sl ([.ref (ad 7 0), .int (iI k), .int (iI a), .int (iI f), .int (iI n), .int (iI u), .int (iI v), .int (iI r)]) ++ List.replicate (9 - (lg_sl ([.ref (ad 7 0), .int (iI k), .int (iI a), .int (iI f), .int (iI n), .int (iI u), .int (iI v), .int (iI r)])).length) Slot.unset).toArray = ls at hl ⊢
  have hl : lv_has ls 9 [(0, .ref (ad 7 0)), (1, .int (iI k)), (2, .int (iI a)), (3, .int (iI f)), (4, .int (iI n)), (5, .int (iI u)), (6, .int (iI v)), (7, .int (iI r))] := hl
  have hinX2 : ∀ w ∈ wsX20, w ∈ wsX2_tube := by decide +kernel
  have hRk0 : -2147483648 ≤ k ∧ k < 2147483648 := hRk
  have hRa0 : -2147483648 ≤ a ∧ a < 2147483648 := hRa
  have hRf0 : -2147483648 ≤ f ∧ f < 2147483648 := hRf
  have hRn0 : -2147483648 ≤ n ∧ n < 2147483648 := hRn
  have hRu0 : -2147483648 ≤ u ∧ u < 2147483648 := hRu
  have hRv0 : -2147483648 ≤ v ∧ v < 2147483648 := hRv
  have hRr0 : -2147483648 ≤ r ∧ r < 2147483648 := hRr
  have hm0 := bB0 hBt
  refine lv_iload_n hx hb dX2_tube_0 rfl (lv_at hl 1 rfl) ?_
  refine bc_SB (As := [.int (iI k)]) (rest := []) ⟨hx, hb, hml, hown, hts⟩ (c_X2_isKind l g ad σ τ w k (by unfold iR; omega)) (va_cwS 1 hts gX2_tube_X2_isKind rfl rfl rfl (by decide +kernel) ⟨Nat.le_of_ble_eq_true rfl, Nat.le_of_ble_eq_true rfl⟩) hK hU  rfl hl.1 rfl (Nat.le_of_ble_eq_true rfl) dX2_tube_1 ⟨Nat.le_of_ble_eq_true rfl, Nat.le_of_ble_eq_true rfl⟩ (fun h1 => ?_) (fun h1 => ?_)
  · refine li_if_eq (tgt := 63) hx hb (by unfold iR; omega) dX2_tube_4 (by decide) (fun h => absurd h (by decide)) (fun _ => ?_)
    refine lv_iload_n hx hb dX2_tube_7 rfl (lv_at hl 2 rfl) ?_
    refine bc_SB (As := [.int (iI a)]) (rest := []) ⟨hx, hb, hml, hown, hts⟩ (c_X2_isAxis l g ad σ τ w a (by unfold iR; omega)) (va_cwS 1 hts gX2_tube_X2_isAxis rfl rfl rfl (by decide +kernel) ⟨Nat.le_of_ble_eq_true rfl, Nat.le_of_ble_eq_true rfl⟩) hK hU  rfl hl.1 rfl (Nat.le_of_ble_eq_true rfl) dX2_tube_8 ⟨Nat.le_of_ble_eq_true rfl, Nat.le_of_ble_eq_true rfl⟩ (fun h2 => ?_) (fun h2 => ?_)
    · refine li_if_eq (tgt := 63) hx hb (by unfold iR; omega) dX2_tube_11 (by decide) (fun h => absurd h (by decide)) (fun _ => ?_)
      refine lv_iload_n hx hb dX2_tube_14 rfl (lv_at hl 3 rfl) ?_
      refine lv_iload hx hb dX2_tube_15 (lv_at hl 4 rfl) ?_
      refine bc_SB (As := [.int (iI f), .int (iI n)]) (rest := []) ⟨hx, hb, hml, hown, hts⟩ (c_X2_isSpan l g ad σ τ w f n (by unfold iR; omega) (by unfold iR; omega)) (va_cwS 2 hts gX2_tube_X2_isSpan rfl rfl rfl (by decide +kernel) ⟨Nat.le_of_ble_eq_true rfl, Nat.le_of_ble_eq_true rfl⟩) hK hU  rfl hl.1 rfl (Nat.le_of_ble_eq_true rfl) dX2_tube_17 ⟨Nat.le_of_ble_eq_true rfl, Nat.le_of_ble_eq_true rfl⟩ (fun h3 => ?_) (fun h3 => ?_)
      · refine li_if_eq (tgt := 63) hx hb (by unfold iR; omega) dX2_tube_20 (by decide) (fun h => absurd h (by decide)) (fun _ => ?_)
        refine lv_iload hx hb dX2_tube_23 (lv_at hl 5 rfl) ?_
        refine li_iconst hx hb dX2_tube_25 ?_
        refine li_sipush hx hb dX2_tube_26 (by decide) ?_
        refine bc_SB (As := [.int (iI u), .int (iI 0), .int (iI 1000)]) (rest := []) ⟨hx, hb, hml, hown, hts⟩ (c_X2_isIn l g ad σ τ w u 0 1000 (by unfold iR; omega) (by unfold iR; omega) (by unfold iR; omega)) (va_cwS 3 hts gX2_tube_X2_isIn rfl rfl rfl (by decide +kernel) ⟨Nat.le_of_ble_eq_true rfl, Nat.le_of_ble_eq_true rfl⟩) hK hU  rfl hl.1 rfl (Nat.le_of_ble_eq_true rfl) dX2_tube_29 ⟨Nat.le_of_ble_eq_true rfl, Nat.le_of_ble_eq_true rfl⟩ (fun h4 => ?_) (fun h4 => ?_)
        · refine li_if_eq (tgt := 63) hx hb (by unfold iR; omega) dX2_tube_32 (by decide) (fun h => absurd h (by decide)) (fun _ => ?_)
          refine lv_iload hx hb dX2_tube_35 (lv_at hl 6 rfl) ?_
          refine li_iconst hx hb dX2_tube_37 ?_
          refine li_sipush hx hb dX2_tube_38 (by decide) ?_
          refine bc_SB (As := [.int (iI v), .int (iI 0), .int (iI 1000)]) (rest := []) ⟨hx, hb, hml, hown, hts⟩ (c_X2_isIn l g ad σ τ w v 0 1000 (by unfold iR; omega) (by unfold iR; omega) (by unfold iR; omega)) (va_cwS 3 hts gX2_tube_X2_isIn rfl rfl rfl (by decide +kernel) ⟨Nat.le_of_ble_eq_true rfl, Nat.le_of_ble_eq_true rfl⟩) hK hU  rfl hl.1 rfl (Nat.le_of_ble_eq_true rfl) dX2_tube_41 ⟨Nat.le_of_ble_eq_true rfl, Nat.le_of_ble_eq_true rfl⟩ (fun h5 => ?_) (fun h5 => ?_)
          · refine li_if_eq (tgt := 63) hx hb (by unfold iR; omega) dX2_tube_44 (by decide) (fun h => absurd h (by decide)) (fun _ => ?_)
            refine lv_iload hx hb dX2_tube_47 (lv_at hl 7 rfl) ?_
            refine li_iconst hx hb dX2_tube_49 ?_
            refine li_sipush hx hb dX2_tube_50 (by decide) ?_
            refine bc_SB (As := [.int (iI r), .int (iI 1), .int (iI 200)]) (rest := []) ⟨hx, hb, hml, hown, hts⟩ (c_X2_isIn l g ad σ τ w r 1 200 (by unfold iR; omega) (by unfold iR; omega) (by unfold iR; omega)) (va_cwS 3 hts gX2_tube_X2_isIn rfl rfl rfl (by decide +kernel) ⟨Nat.le_of_ble_eq_true rfl, Nat.le_of_ble_eq_true rfl⟩) hK hU  rfl hl.1 rfl (Nat.le_of_ble_eq_true rfl) dX2_tube_53 ⟨Nat.le_of_ble_eq_true rfl, Nat.le_of_ble_eq_true rfl⟩ (fun h6 => ?_) (fun h6 => ?_)
            · refine li_if_eq (tgt := 63) hx hb (by unfold iR; omega) dX2_tube_56 (by decide) (fun h => absurd h (by decide)) (fun _ => ?_)
              refine li_iconst hx hb dX2_tube_59 ?_
              refine lv_goto (tgt := 64) hx hb dX2_tube_60 (by decide) ?_
              refine lv_istore (lv' := [(8, .int (iI 1)), (0, .ref (ad 7 0)), (1, .int (iI k)), (2, .int (iI a)), (3, .int (iI f)), (4, .int (iI n)), (5, .int (iI u)), (6, .int (iI v)), (7, .int (iI r))]) hx hb dX2_tube_64 hl (by decide) rfl (fun ls hl => ?_)
              refine lv_aload_n hx hb dX2_tube_66 rfl (lv_at hl 1 rfl) ?_
              refine lv_iload hx hb dX2_tube_67 (lv_at hl 0 rfl) ?_
              refine li_if_ne (tgt := 76) hx hb (by unfold iR; omega) dX2_tube_69 (by decide) (fun _ => ?_) (fun h => absurd h (by decide))
              refine lv_aload_n hx hb dX2_tube_76 rfl (lv_at hl 1 rfl) ?_
              refine bg_X2_made hx hb hts hinX2 hown hK hU (hts (.fieldLink RX2 49 "ClashBoxesModel" "made" "I") (by decide +kernel)) dX2_tube_77 ?_
              have b7 := bB0 hBt
              refine li_bipush hx hb dX2_tube_80 (by decide) ?_
              refine li_icmp_ne (tgt := 89) hx hb (by unfold iR; omega) (by unfold iR; omega) dX2_tube_82 (by decide) (fun h8 => ?_) (fun h8 => ?_)
              · refine li_iconst hx hb dX2_tube_89 ?_
                exfalso
                omega
              · refine li_iconst hx hb dX2_tube_85 ?_
                refine lv_goto (tgt := 90) hx hb dX2_tube_86 (by decide) ?_
                exfalso
                omega
            · refine li_if_eq (tgt := 63) hx hb (by unfold iR; omega) dX2_tube_56 (by decide) (fun _ => ?_) (fun h => absurd (by decide) h)
              refine li_iconst hx hb dX2_tube_63 ?_
              refine lv_istore (lv' := [(8, .int (iI 0)), (0, .ref (ad 7 0)), (1, .int (iI k)), (2, .int (iI a)), (3, .int (iI f)), (4, .int (iI n)), (5, .int (iI u)), (6, .int (iI v)), (7, .int (iI r))]) hx hb dX2_tube_64 hl (by decide) rfl (fun ls hl => ?_)
              refine lv_aload_n hx hb dX2_tube_66 rfl (lv_at hl 1 rfl) ?_
              refine lv_iload hx hb dX2_tube_67 (lv_at hl 0 rfl) ?_
              refine li_if_ne (tgt := 76) hx hb (by unfold iR; omega) dX2_tube_69 (by decide) (fun h => absurd (by decide) h) (fun _ => ?_)
              refine li_iconst hx hb dX2_tube_72 ?_
              refine lv_goto (tgt := 90) hx hb dX2_tube_73 (by decide) ?_
              refine bp_X2_code hx hb hts hinX2 hown hK hU hlc (hts (.fieldLink RX2 42 "ClashBoxesModel" "code" "I") (by decide +kernel)) dX2_tube_90 (fun H locs hU hF1 hlc => ?_)
              have hF := hF.tr hF1
              have hU : bx_U g ad σ τ (w.1, 1) H := hU
              refine lv_aload_n hx hb dX2_tube_93 rfl (lv_at hl 1 rfl) ?_
              refine bg_X2_code hx hb hts hinX2 hown hK hU (hts (.fieldLink RX2 42 "ClashBoxesModel" "code" "I") (by decide +kernel)) dX2_tube_94 ?_
              refine W.eq (g2 := F0 mI 97 ls [.int (iI 1)]) rfl ?_
              refine li_if_le (tgt := 102) hx hb (by unfold iR; omega) dX2_tube_97 (by decide) (fun h => absurd h (by decide)) (fun _ => ?_)
              refine li_iconst hx hb dX2_tube_100 ?_
              refine bw_i hx hb hr hlocks (by first | exact hU | simpa using hU) hF hlc ?_ dX2_tube_101
              rfl
          · refine li_if_eq (tgt := 63) hx hb (by unfold iR; omega) dX2_tube_44 (by decide) (fun _ => ?_) (fun h => absurd (by decide) h)
            refine li_iconst hx hb dX2_tube_63 ?_
            refine lv_istore (lv' := [(8, .int (iI 0)), (0, .ref (ad 7 0)), (1, .int (iI k)), (2, .int (iI a)), (3, .int (iI f)), (4, .int (iI n)), (5, .int (iI u)), (6, .int (iI v)), (7, .int (iI r))]) hx hb dX2_tube_64 hl (by decide) rfl (fun ls hl => ?_)
            refine lv_aload_n hx hb dX2_tube_66 rfl (lv_at hl 1 rfl) ?_
            refine lv_iload hx hb dX2_tube_67 (lv_at hl 0 rfl) ?_
            refine li_if_ne (tgt := 76) hx hb (by unfold iR; omega) dX2_tube_69 (by decide) (fun h => absurd (by decide) h) (fun _ => ?_)
            refine li_iconst hx hb dX2_tube_72 ?_
            refine lv_goto (tgt := 90) hx hb dX2_tube_73 (by decide) ?_
            refine bp_X2_code hx hb hts hinX2 hown hK hU hlc (hts (.fieldLink RX2 42 "ClashBoxesModel" "code" "I") (by decide +kernel)) dX2_tube_90 (fun H locs hU hF1 hlc => ?_)
            have hF := hF.tr hF1
            have hU : bx_U g ad σ τ (w.1, 1) H := hU
            refine lv_aload_n hx hb dX2_tube_93 rfl (lv_at hl 1 rfl) ?_
            refine bg_X2_code hx hb hts hinX2 hown hK hU (hts (.fieldLink RX2 42 "ClashBoxesModel" "code" "I") (by decide +kernel)) dX2_tube_94 ?_
            refine W.eq (g2 := F0 mI 97 ls [.int (iI 1)]) rfl ?_
            refine li_if_le (tgt := 102) hx hb (by unfold iR; omega) dX2_tube_97 (by decide) (fun h => absurd h (by decide)) (fun _ => ?_)
            refine li_iconst hx hb dX2_tube_100 ?_
            refine bw_i hx hb hr hlocks (by first | exact hU | simpa using hU) hF hlc ?_ dX2_tube_101
            rfl
        · refine li_if_eq (tgt := 63) hx hb (by unfold iR; omega) dX2_tube_32 (by decide) (fun _ => ?_) (fun h => absurd (by decide) h)
          refine li_iconst hx hb dX2_tube_63 ?_
          refine lv_istore (lv' := [(8, .int (iI 0)), (0, .ref (ad 7 0)), (1, .int (iI k)), (2, .int (iI a)), (3, .int (iI f)), (4, .int (iI n)), (5, .int (iI u)), (6, .int (iI v)), (7, .int (iI r))]) hx hb dX2_tube_64 hl (by decide) rfl (fun ls hl => ?_)
          refine lv_aload_n hx hb dX2_tube_66 rfl (lv_at hl 1 rfl) ?_
          refine lv_iload hx hb dX2_tube_67 (lv_at hl 0 rfl) ?_
          refine li_if_ne (tgt := 76) hx hb (by unfold iR; omega) dX2_tube_69 (by decide) (fun h => absurd (by decide) h) (fun _ => ?_)
          refine li_iconst hx hb dX2_tube_72 ?_
          refine lv_goto (tgt := 90) hx hb dX2_tube_73 (by decide) ?_
          refine bp_X2_code hx hb hts hinX2 hown hK hU hlc (hts (.fieldLink RX2 42 "ClashBoxesModel" "code" "I") (by decide +kernel)) dX2_tube_90 (fun H locs hU hF1 hlc => ?_)
          have hF := hF.tr hF1
          have hU : bx_U g ad σ τ (w.1, 1) H := hU
          refine lv_aload_n hx hb dX2_tube_93 rfl (lv_at hl 1 rfl) ?_
          refine bg_X2_code hx hb hts hinX2 hown hK hU (hts (.fieldLink RX2 42 "ClashBoxesModel" "code" "I") (by decide +kernel)) dX2_tube_94 ?_
          refine W.eq (g2 := F0 mI 97 ls [.int (iI 1)]) rfl ?_
          refine li_if_le (tgt := 102) hx hb (by unfold iR; omega) dX2_tube_97 (by decide) (fun h => absurd h (by decide)) (fun _ => ?_)
          refine li_iconst hx hb dX2_tube_100 ?_
          refine bw_i hx hb hr hlocks (by first | exact hU | simpa using hU) hF hlc ?_ dX2_tube_101
          rfl
      · refine li_if_eq (tgt := 63) hx hb (by unfold iR; omega) dX2_tube_20 (by decide) (fun _ => ?_) (fun h => absurd (by decide) h)
        refine li_iconst hx hb dX2_tube_63 ?_
        refine lv_istore (lv' := [(8, .int (iI 0)), (0, .ref (ad 7 0)), (1, .int (iI k)), (2, .int (iI a)), (3, .int (iI f)), (4, .int (iI n)), (5, .int (iI u)), (6, .int (iI v)), (7, .int (iI r))]) hx hb dX2_tube_64 hl (by decide) rfl (fun ls hl => ?_)
        refine lv_aload_n hx hb dX2_tube_66 rfl (lv_at hl 1 rfl) ?_
        refine lv_iload hx hb dX2_tube_67 (lv_at hl 0 rfl) ?_
        refine li_if_ne (tgt := 76) hx hb (by unfold iR; omega) dX2_tube_69 (by decide) (fun h => absurd (by decide) h) (fun _ => ?_)
        refine li_iconst hx hb dX2_tube_72 ?_
        refine lv_goto (tgt := 90) hx hb dX2_tube_73 (by decide) ?_
        refine bp_X2_code hx hb hts hinX2 hown hK hU hlc (hts (.fieldLink RX2 42 "ClashBoxesModel" "code" "I") (by decide +kernel)) dX2_tube_90 (fun H locs hU hF1 hlc => ?_)
        have hF := hF.tr hF1
        have hU : bx_U g ad σ τ (w.1, 1) H := hU
        refine lv_aload_n hx hb dX2_tube_93 rfl (lv_at hl 1 rfl) ?_
        refine bg_X2_code hx hb hts hinX2 hown hK hU (hts (.fieldLink RX2 42 "ClashBoxesModel" "code" "I") (by decide +kernel)) dX2_tube_94 ?_
        refine W.eq (g2 := F0 mI 97 ls [.int (iI 1)]) rfl ?_
        refine li_if_le (tgt := 102) hx hb (by unfold iR; omega) dX2_tube_97 (by decide) (fun h => absurd h (by decide)) (fun _ => ?_)
        refine li_iconst hx hb dX2_tube_100 ?_
        refine bw_i hx hb hr hlocks (by first | exact hU | simpa using hU) hF hlc ?_ dX2_tube_101
        rfl
    · refine li_if_eq (tgt := 63) hx hb (by unfold iR; omega) dX2_tube_11 (by decide) (fun _ => ?_) (fun h => absurd (by decide) h)
      refine li_iconst hx hb dX2_tube_63 ?_
      refine lv_istore (lv' := [(8, .int (iI 0)), (0, .ref (ad 7 0)), (1, .int (iI k)), (2, .int (iI a)), (3, .int (iI f)), (4, .int (iI n)), (5, .int (iI u)), (6, .int (iI v)), (7, .int (iI r))]) hx hb dX2_tube_64 hl (by decide) rfl (fun ls hl => ?_)
      refine lv_aload_n hx hb dX2_tube_66 rfl (lv_at hl 1 rfl) ?_
      refine lv_iload hx hb dX2_tube_67 (lv_at hl 0 rfl) ?_
      refine li_if_ne (tgt := 76) hx hb (by unfold iR; omega) dX2_tube_69 (by decide) (fun h => absurd (by decide) h) (fun _ => ?_)
      refine li_iconst hx hb dX2_tube_72 ?_
      refine lv_goto (tgt := 90) hx hb dX2_tube_73 (by decide) ?_
      refine bp_X2_code hx hb hts hinX2 hown hK hU hlc (hts (.fieldLink RX2 42 "ClashBoxesModel" "code" "I") (by decide +kernel)) dX2_tube_90 (fun H locs hU hF1 hlc => ?_)
      have hF := hF.tr hF1
      have hU : bx_U g ad σ τ (w.1, 1) H := hU
      refine lv_aload_n hx hb dX2_tube_93 rfl (lv_at hl 1 rfl) ?_
      refine bg_X2_code hx hb hts hinX2 hown hK hU (hts (.fieldLink RX2 42 "ClashBoxesModel" "code" "I") (by decide +kernel)) dX2_tube_94 ?_
      refine W.eq (g2 := F0 mI 97 ls [.int (iI 1)]) rfl ?_
      refine li_if_le (tgt := 102) hx hb (by unfold iR; omega) dX2_tube_97 (by decide) (fun h => absurd h (by decide)) (fun _ => ?_)
      refine li_iconst hx hb dX2_tube_100 ?_
      refine bw_i hx hb hr hlocks (by first | exact hU | simpa using hU) hF hlc ?_ dX2_tube_101
      rfl
  · refine li_if_eq (tgt := 63) hx hb (by unfold iR; omega) dX2_tube_4 (by decide) (fun _ => ?_) (fun h => absurd (by decide) h)
    refine li_iconst hx hb dX2_tube_63 ?_
    refine lv_istore (lv' := [(8, .int (iI 0)), (0, .ref (ad 7 0)), (1, .int (iI k)), (2, .int (iI a)), (3, .int (iI f)), (4, .int (iI n)), (5, .int (iI u)), (6, .int (iI v)), (7, .int (iI r))]) hx hb dX2_tube_64 hl (by decide) rfl (fun ls hl => ?_)
    refine lv_aload_n hx hb dX2_tube_66 rfl (lv_at hl 1 rfl) ?_
    refine lv_iload hx hb dX2_tube_67 (lv_at hl 0 rfl) ?_
    refine li_if_ne (tgt := 76) hx hb (by unfold iR; omega) dX2_tube_69 (by decide) (fun h => absurd (by decide) h) (fun _ => ?_)
    refine li_iconst hx hb dX2_tube_72 ?_
    refine lv_goto (tgt := 90) hx hb dX2_tube_73 (by decide) ?_
    refine bp_X2_code hx hb hts hinX2 hown hK hU hlc (hts (.fieldLink RX2 42 "ClashBoxesModel" "code" "I") (by decide +kernel)) dX2_tube_90 (fun H locs hU hF1 hlc => ?_)
    have hF := hF.tr hF1
    have hU : bx_U g ad σ τ (w.1, 1) H := hU
    refine lv_aload_n hx hb dX2_tube_93 rfl (lv_at hl 1 rfl) ?_
    refine bg_X2_code hx hb hts hinX2 hown hK hU (hts (.fieldLink RX2 42 "ClashBoxesModel" "code" "I") (by decide +kernel)) dX2_tube_94 ?_
    refine W.eq (g2 := F0 mI 97 ls [.int (iI 1)]) rfl ?_
    refine li_if_le (tgt := 102) hx hb (by unfold iR; omega) dX2_tube_97 (by decide) (fun h => absurd h (by decide)) (fun _ => ?_)
    refine li_iconst hx hb dX2_tube_100 ?_
    refine bw_i hx hb hr hlocks (by first | exact hU | simpa using hU) hF hlc ?_ dX2_tube_101
    rfl

set_option maxHeartbeats 4000000 in
set_option maxRecDepth 100000 in
theorem c_X2_tube_s (l : Launch) (g : bxG) (ad : bxA) (σ τ : bxS) (w : bxW) (k a f n u v r : Int) (hRk : iR k) (hRa : iR a) (hRf : iR f) (hRn : iR n) (hRu : iR u) (hRv : iR v) (hRr : iR r) (hBt : bx_B τ) (hg : ((0 ≤ k ∧ k ≤ 7) ∧ (0 ≤ a ∧ a ≤ 2) ∧ (0 ≤ f ∧ f ≤ 1000 ∧ 1 ≤ n ∧ n ≤ 1000 ∧ f + n ≤ 1000) ∧ (0 ≤ u ∧ u ≤ 1000) ∧ (0 ≤ v ∧ v ≤ 1000) ∧ 1 ≤ r ∧ r ≤ 200) ∧ ¬ τ 0 0 0 < 60) : Met l yX2_tube wsX2_tube ({ frames := 2, cells := 0, slots := 0, locals := 43 }) (va_Pc [.ref (ad 7 0), .int (iI k), .int (iI a), .int (iI f), .int (iI n), .int (iI u), .int (iI v), .int (iI r)] (fun U => bx_I g ad σ τ w U)) (bq_W (some (.int (iI 0))) g ad σ τ (w.1, 2)) 0 0 (bq_fr g) := by
  refine Met.ofW (cc := cX2_tube) (maxL := 9) (ret := (some .int)) (by decide) rfl ?_
  intro Pg Ev s mI args below meth cd s₁ B hml hv
  obtain ⟨rfl, hU, hK⟩ := hv
  have hx := B.exec
  have hb := B.bytes
  have hr := B.returns
  have hts := atoms_spec (ws := wsX2_tube) B.pre
  have hown : s.vm.findClass RX2 = some mI.cls := findClass_of_methodNamed B.named
  have hlocks := B.notSynchronized
  have hF : bx_F g s.heap s.heap := bx_F.rf
  have hlc : bx_Lc g [] := bx_Lc.nil
  have hl := lv_entry ([.ref (ad 7 0), .int (iI k), .int (iI a), .int (iI f), .int (iI n), .int (iI u), .int (iI v), .int (iI r)]) (n := 9) (Nat.le_of_ble_eq_true rfl)
  rw [lg_entry_eq]
  generalize (lg_sl ([.ref (ad 7 0), .int (iI k), .int (iI a), .int (iI f), .int (iI n), .int (iI u), .int (iI v), .int (iI r)]) ++ List.replicate (9 - (lg_sl ([.ref (ad 7 0), .int (iI k), .int (iI a), .int (iI f), .int (iI n), .int (iI u), .int (iI v), .int (iI r)])).length) Slot.unset).toArray = ls at hl ⊢
  have hl : lv_has ls 9 [(0, .ref (ad 7 0)), (1, .int (iI k)), (2, .int (iI a)), (3, .int (iI f)), (4, .int (iI n)), (5, .int (iI u)), (6, .int (iI v)), (7, .int (iI r))] := hl
  have hinX2 : ∀ w ∈ wsX20, w ∈ wsX2_tube := by decide +kernel
  have hRk0 : -2147483648 ≤ k ∧ k < 2147483648 := hRk
  have hRa0 : -2147483648 ≤ a ∧ a < 2147483648 := hRa
  have hRf0 : -2147483648 ≤ f ∧ f < 2147483648 := hRf
  have hRn0 : -2147483648 ≤ n ∧ n < 2147483648 := hRn
  have hRu0 : -2147483648 ≤ u ∧ u < 2147483648 := hRu
  have hRv0 : -2147483648 ≤ v ∧ v < 2147483648 := hRv
  have hRr0 : -2147483648 ≤ r ∧ r < 2147483648 := hRr
  have hm0 := bB0 hBt
  refine lv_iload_n hx hb dX2_tube_0 rfl (lv_at hl 1 rfl) ?_
  refine bc_SB (As := [.int (iI k)]) (rest := []) ⟨hx, hb, hml, hown, hts⟩ (c_X2_isKind l g ad σ τ w k (by unfold iR; omega)) (va_cwS 1 hts gX2_tube_X2_isKind rfl rfl rfl (by decide +kernel) ⟨Nat.le_of_ble_eq_true rfl, Nat.le_of_ble_eq_true rfl⟩) hK hU  rfl hl.1 rfl (Nat.le_of_ble_eq_true rfl) dX2_tube_1 ⟨Nat.le_of_ble_eq_true rfl, Nat.le_of_ble_eq_true rfl⟩ (fun h1 => ?_) (fun h1 => ?_)
  · refine li_if_eq (tgt := 63) hx hb (by unfold iR; omega) dX2_tube_4 (by decide) (fun h => absurd h (by decide)) (fun _ => ?_)
    refine lv_iload_n hx hb dX2_tube_7 rfl (lv_at hl 2 rfl) ?_
    refine bc_SB (As := [.int (iI a)]) (rest := []) ⟨hx, hb, hml, hown, hts⟩ (c_X2_isAxis l g ad σ τ w a (by unfold iR; omega)) (va_cwS 1 hts gX2_tube_X2_isAxis rfl rfl rfl (by decide +kernel) ⟨Nat.le_of_ble_eq_true rfl, Nat.le_of_ble_eq_true rfl⟩) hK hU  rfl hl.1 rfl (Nat.le_of_ble_eq_true rfl) dX2_tube_8 ⟨Nat.le_of_ble_eq_true rfl, Nat.le_of_ble_eq_true rfl⟩ (fun h2 => ?_) (fun h2 => ?_)
    · refine li_if_eq (tgt := 63) hx hb (by unfold iR; omega) dX2_tube_11 (by decide) (fun h => absurd h (by decide)) (fun _ => ?_)
      refine lv_iload_n hx hb dX2_tube_14 rfl (lv_at hl 3 rfl) ?_
      refine lv_iload hx hb dX2_tube_15 (lv_at hl 4 rfl) ?_
      refine bc_SB (As := [.int (iI f), .int (iI n)]) (rest := []) ⟨hx, hb, hml, hown, hts⟩ (c_X2_isSpan l g ad σ τ w f n (by unfold iR; omega) (by unfold iR; omega)) (va_cwS 2 hts gX2_tube_X2_isSpan rfl rfl rfl (by decide +kernel) ⟨Nat.le_of_ble_eq_true rfl, Nat.le_of_ble_eq_true rfl⟩) hK hU  rfl hl.1 rfl (Nat.le_of_ble_eq_true rfl) dX2_tube_17 ⟨Nat.le_of_ble_eq_true rfl, Nat.le_of_ble_eq_true rfl⟩ (fun h3 => ?_) (fun h3 => ?_)
      · refine li_if_eq (tgt := 63) hx hb (by unfold iR; omega) dX2_tube_20 (by decide) (fun h => absurd h (by decide)) (fun _ => ?_)
        refine lv_iload hx hb dX2_tube_23 (lv_at hl 5 rfl) ?_
        refine li_iconst hx hb dX2_tube_25 ?_
        refine li_sipush hx hb dX2_tube_26 (by decide) ?_
        refine bc_SB (As := [.int (iI u), .int (iI 0), .int (iI 1000)]) (rest := []) ⟨hx, hb, hml, hown, hts⟩ (c_X2_isIn l g ad σ τ w u 0 1000 (by unfold iR; omega) (by unfold iR; omega) (by unfold iR; omega)) (va_cwS 3 hts gX2_tube_X2_isIn rfl rfl rfl (by decide +kernel) ⟨Nat.le_of_ble_eq_true rfl, Nat.le_of_ble_eq_true rfl⟩) hK hU  rfl hl.1 rfl (Nat.le_of_ble_eq_true rfl) dX2_tube_29 ⟨Nat.le_of_ble_eq_true rfl, Nat.le_of_ble_eq_true rfl⟩ (fun h4 => ?_) (fun h4 => ?_)
        · refine li_if_eq (tgt := 63) hx hb (by unfold iR; omega) dX2_tube_32 (by decide) (fun h => absurd h (by decide)) (fun _ => ?_)
          refine lv_iload hx hb dX2_tube_35 (lv_at hl 6 rfl) ?_
          refine li_iconst hx hb dX2_tube_37 ?_
          refine li_sipush hx hb dX2_tube_38 (by decide) ?_
          refine bc_SB (As := [.int (iI v), .int (iI 0), .int (iI 1000)]) (rest := []) ⟨hx, hb, hml, hown, hts⟩ (c_X2_isIn l g ad σ τ w v 0 1000 (by unfold iR; omega) (by unfold iR; omega) (by unfold iR; omega)) (va_cwS 3 hts gX2_tube_X2_isIn rfl rfl rfl (by decide +kernel) ⟨Nat.le_of_ble_eq_true rfl, Nat.le_of_ble_eq_true rfl⟩) hK hU  rfl hl.1 rfl (Nat.le_of_ble_eq_true rfl) dX2_tube_41 ⟨Nat.le_of_ble_eq_true rfl, Nat.le_of_ble_eq_true rfl⟩ (fun h5 => ?_) (fun h5 => ?_)
          · refine li_if_eq (tgt := 63) hx hb (by unfold iR; omega) dX2_tube_44 (by decide) (fun h => absurd h (by decide)) (fun _ => ?_)
            refine lv_iload hx hb dX2_tube_47 (lv_at hl 7 rfl) ?_
            refine li_iconst hx hb dX2_tube_49 ?_
            refine li_sipush hx hb dX2_tube_50 (by decide) ?_
            refine bc_SB (As := [.int (iI r), .int (iI 1), .int (iI 200)]) (rest := []) ⟨hx, hb, hml, hown, hts⟩ (c_X2_isIn l g ad σ τ w r 1 200 (by unfold iR; omega) (by unfold iR; omega) (by unfold iR; omega)) (va_cwS 3 hts gX2_tube_X2_isIn rfl rfl rfl (by decide +kernel) ⟨Nat.le_of_ble_eq_true rfl, Nat.le_of_ble_eq_true rfl⟩) hK hU  rfl hl.1 rfl (Nat.le_of_ble_eq_true rfl) dX2_tube_53 ⟨Nat.le_of_ble_eq_true rfl, Nat.le_of_ble_eq_true rfl⟩ (fun h6 => ?_) (fun h6 => ?_)
            · refine li_if_eq (tgt := 63) hx hb (by unfold iR; omega) dX2_tube_56 (by decide) (fun h => absurd h (by decide)) (fun _ => ?_)
              refine li_iconst hx hb dX2_tube_59 ?_
              refine lv_goto (tgt := 64) hx hb dX2_tube_60 (by decide) ?_
              refine lv_istore (lv' := [(8, .int (iI 1)), (0, .ref (ad 7 0)), (1, .int (iI k)), (2, .int (iI a)), (3, .int (iI f)), (4, .int (iI n)), (5, .int (iI u)), (6, .int (iI v)), (7, .int (iI r))]) hx hb dX2_tube_64 hl (by decide) rfl (fun ls hl => ?_)
              refine lv_aload_n hx hb dX2_tube_66 rfl (lv_at hl 1 rfl) ?_
              refine lv_iload hx hb dX2_tube_67 (lv_at hl 0 rfl) ?_
              refine li_if_ne (tgt := 76) hx hb (by unfold iR; omega) dX2_tube_69 (by decide) (fun _ => ?_) (fun h => absurd h (by decide))
              refine lv_aload_n hx hb dX2_tube_76 rfl (lv_at hl 1 rfl) ?_
              refine bg_X2_made hx hb hts hinX2 hown hK hU (hts (.fieldLink RX2 49 "ClashBoxesModel" "made" "I") (by decide +kernel)) dX2_tube_77 ?_
              have b7 := bB0 hBt
              refine li_bipush hx hb dX2_tube_80 (by decide) ?_
              refine li_icmp_ne (tgt := 89) hx hb (by unfold iR; omega) (by unfold iR; omega) dX2_tube_82 (by decide) (fun h8 => ?_) (fun h8 => ?_)
              · refine li_iconst hx hb dX2_tube_89 ?_
                exfalso
                omega
              · refine li_iconst hx hb dX2_tube_85 ?_
                refine lv_goto (tgt := 90) hx hb dX2_tube_86 (by decide) ?_
                refine bp_X2_code hx hb hts hinX2 hown hK hU hlc (hts (.fieldLink RX2 42 "ClashBoxesModel" "code" "I") (by decide +kernel)) dX2_tube_90 (fun H locs hU hF1 hlc => ?_)
                have hF := hF.tr hF1
                have hU : bx_U g ad σ τ (w.1, 2) H := hU
                refine lv_aload_n hx hb dX2_tube_93 rfl (lv_at hl 1 rfl) ?_
                refine bg_X2_code hx hb hts hinX2 hown hK hU (hts (.fieldLink RX2 42 "ClashBoxesModel" "code" "I") (by decide +kernel)) dX2_tube_94 ?_
                refine W.eq (g2 := F0 mI 97 ls [.int (iI 2)]) rfl ?_
                refine li_if_le (tgt := 102) hx hb (by unfold iR; omega) dX2_tube_97 (by decide) (fun h => absurd h (by decide)) (fun _ => ?_)
                refine li_iconst hx hb dX2_tube_100 ?_
                refine bw_i hx hb hr hlocks (by first | exact hU | simpa using hU) hF hlc ?_ dX2_tube_101
                rfl
            · refine li_if_eq (tgt := 63) hx hb (by unfold iR; omega) dX2_tube_56 (by decide) (fun _ => ?_) (fun h => absurd (by decide) h)
              refine li_iconst hx hb dX2_tube_63 ?_
              refine lv_istore (lv' := [(8, .int (iI 0)), (0, .ref (ad 7 0)), (1, .int (iI k)), (2, .int (iI a)), (3, .int (iI f)), (4, .int (iI n)), (5, .int (iI u)), (6, .int (iI v)), (7, .int (iI r))]) hx hb dX2_tube_64 hl (by decide) rfl (fun ls hl => ?_)
              refine lv_aload_n hx hb dX2_tube_66 rfl (lv_at hl 1 rfl) ?_
              refine lv_iload hx hb dX2_tube_67 (lv_at hl 0 rfl) ?_
              refine li_if_ne (tgt := 76) hx hb (by unfold iR; omega) dX2_tube_69 (by decide) (fun h => absurd (by decide) h) (fun _ => ?_)
              refine li_iconst hx hb dX2_tube_72 ?_
              refine lv_goto (tgt := 90) hx hb dX2_tube_73 (by decide) ?_
              exfalso
              omega
          · refine li_if_eq (tgt := 63) hx hb (by unfold iR; omega) dX2_tube_44 (by decide) (fun _ => ?_) (fun h => absurd (by decide) h)
            refine li_iconst hx hb dX2_tube_63 ?_
            refine lv_istore (lv' := [(8, .int (iI 0)), (0, .ref (ad 7 0)), (1, .int (iI k)), (2, .int (iI a)), (3, .int (iI f)), (4, .int (iI n)), (5, .int (iI u)), (6, .int (iI v)), (7, .int (iI r))]) hx hb dX2_tube_64 hl (by decide) rfl (fun ls hl => ?_)
            refine lv_aload_n hx hb dX2_tube_66 rfl (lv_at hl 1 rfl) ?_
            refine lv_iload hx hb dX2_tube_67 (lv_at hl 0 rfl) ?_
            refine li_if_ne (tgt := 76) hx hb (by unfold iR; omega) dX2_tube_69 (by decide) (fun h => absurd (by decide) h) (fun _ => ?_)
            refine li_iconst hx hb dX2_tube_72 ?_
            refine lv_goto (tgt := 90) hx hb dX2_tube_73 (by decide) ?_
            exfalso
            omega
        · refine li_if_eq (tgt := 63) hx hb (by unfold iR; omega) dX2_tube_32 (by decide) (fun _ => ?_) (fun h => absurd (by decide) h)
          refine li_iconst hx hb dX2_tube_63 ?_
          refine lv_istore (lv' := [(8, .int (iI 0)), (0, .ref (ad 7 0)), (1, .int (iI k)), (2, .int (iI a)), (3, .int (iI f)), (4, .int (iI n)), (5, .int (iI u)), (6, .int (iI v)), (7, .int (iI r))]) hx hb dX2_tube_64 hl (by decide) rfl (fun ls hl => ?_)
          refine lv_aload_n hx hb dX2_tube_66 rfl (lv_at hl 1 rfl) ?_
          refine lv_iload hx hb dX2_tube_67 (lv_at hl 0 rfl) ?_
          refine li_if_ne (tgt := 76) hx hb (by unfold iR; omega) dX2_tube_69 (by decide) (fun h => absurd (by decide) h) (fun _ => ?_)
          refine li_iconst hx hb dX2_tube_72 ?_
          refine lv_goto (tgt := 90) hx hb dX2_tube_73 (by decide) ?_
          exfalso
          omega
      · refine li_if_eq (tgt := 63) hx hb (by unfold iR; omega) dX2_tube_20 (by decide) (fun _ => ?_) (fun h => absurd (by decide) h)
        refine li_iconst hx hb dX2_tube_63 ?_
        refine lv_istore (lv' := [(8, .int (iI 0)), (0, .ref (ad 7 0)), (1, .int (iI k)), (2, .int (iI a)), (3, .int (iI f)), (4, .int (iI n)), (5, .int (iI u)), (6, .int (iI v)), (7, .int (iI r))]) hx hb dX2_tube_64 hl (by decide) rfl (fun ls hl => ?_)
        refine lv_aload_n hx hb dX2_tube_66 rfl (lv_at hl 1 rfl) ?_
        refine lv_iload hx hb dX2_tube_67 (lv_at hl 0 rfl) ?_
        refine li_if_ne (tgt := 76) hx hb (by unfold iR; omega) dX2_tube_69 (by decide) (fun h => absurd (by decide) h) (fun _ => ?_)
        refine li_iconst hx hb dX2_tube_72 ?_
        refine lv_goto (tgt := 90) hx hb dX2_tube_73 (by decide) ?_
        exfalso
        omega
    · refine li_if_eq (tgt := 63) hx hb (by unfold iR; omega) dX2_tube_11 (by decide) (fun _ => ?_) (fun h => absurd (by decide) h)
      refine li_iconst hx hb dX2_tube_63 ?_
      refine lv_istore (lv' := [(8, .int (iI 0)), (0, .ref (ad 7 0)), (1, .int (iI k)), (2, .int (iI a)), (3, .int (iI f)), (4, .int (iI n)), (5, .int (iI u)), (6, .int (iI v)), (7, .int (iI r))]) hx hb dX2_tube_64 hl (by decide) rfl (fun ls hl => ?_)
      refine lv_aload_n hx hb dX2_tube_66 rfl (lv_at hl 1 rfl) ?_
      refine lv_iload hx hb dX2_tube_67 (lv_at hl 0 rfl) ?_
      refine li_if_ne (tgt := 76) hx hb (by unfold iR; omega) dX2_tube_69 (by decide) (fun h => absurd (by decide) h) (fun _ => ?_)
      refine li_iconst hx hb dX2_tube_72 ?_
      refine lv_goto (tgt := 90) hx hb dX2_tube_73 (by decide) ?_
      exfalso
      omega
  · refine li_if_eq (tgt := 63) hx hb (by unfold iR; omega) dX2_tube_4 (by decide) (fun _ => ?_) (fun h => absurd (by decide) h)
    refine li_iconst hx hb dX2_tube_63 ?_
    refine lv_istore (lv' := [(8, .int (iI 0)), (0, .ref (ad 7 0)), (1, .int (iI k)), (2, .int (iI a)), (3, .int (iI f)), (4, .int (iI n)), (5, .int (iI u)), (6, .int (iI v)), (7, .int (iI r))]) hx hb dX2_tube_64 hl (by decide) rfl (fun ls hl => ?_)
    refine lv_aload_n hx hb dX2_tube_66 rfl (lv_at hl 1 rfl) ?_
    refine lv_iload hx hb dX2_tube_67 (lv_at hl 0 rfl) ?_
    refine li_if_ne (tgt := 76) hx hb (by unfold iR; omega) dX2_tube_69 (by decide) (fun h => absurd (by decide) h) (fun _ => ?_)
    refine li_iconst hx hb dX2_tube_72 ?_
    refine lv_goto (tgt := 90) hx hb dX2_tube_73 (by decide) ?_
    exfalso
    omega
