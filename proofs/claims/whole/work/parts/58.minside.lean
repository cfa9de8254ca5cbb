set_option maxHeartbeats 4000000 in
set_option maxRecDepth 100000 in
theorem c_X2_inside_t (l : Launch) (g : bxG) (ad : bxA) (σ τ : bxS) (w : bxW) (x y z tx ty tz k : Int) (hRx : iR x) (hRy : iR y) (hRz : iR z) (hRtx : iR tx) (hRty : iR ty) (hRtz : iR tz) (hRk : iR k) (hBt : bx_B τ) (hM : bx_M τ) (hg : (-2000 ≤ x ∧ x ≤ 2000 ∧ -2000 ≤ tx ∧ tx ≤ 2000 ∧ x < tx) ∧ (-2000 ≤ y ∧ y ≤ 2000 ∧ -2000 ≤ ty ∧ ty ≤ 2000 ∧ y < ty) ∧ (-2000 ≤ z ∧ z ≤ 2000 ∧ -2000 ≤ tz ∧ tz ≤ 2000 ∧ z < tz) ∧ 0 ≤ k) : Met l yX2_inside wsX2_inside ({ frames := 2, cells := 0, slots := 0, locals := 53 }) (va_Pc [.ref (ad 7 0), .int (iI x), .int (iI y), .int (iI z), .int (iI tx), .int (iI ty), .int (iI tz), .int (iI k)] (fun U => bx_I g ad σ τ w U)) (bq_W (some (.int (iI (nth (insM (eff τ) x y z tx ty tz) 0 (τ 0 0 0) k)))) g ad σ τ (w.1, 0)) 0 0 (bq_fr g) := by
  refine Met.ofW (cc := cX2_inside) (maxL := 12) (ret := (some .int)) (by decide) rfl ?_
  intro Pg Ev s mI args below meth cd s₁ B hml hv
  obtain ⟨rfl, hU, hK⟩ := hv
  have hx := B.exec
  have hb := B.bytes
  have hr := B.returns
  have hts := atoms_spec (ws := wsX2_inside) B.pre
  have hown : s.vm.findClass RX2 = some mI.cls := findClass_of_methodNamed B.named
  have hlocks := B.notSynchronized
  have hF : bx_F g s.heap s.heap := bx_F.rf
  have hlc : bx_Lc g [] := bx_Lc.nil
  have hl := lv_entry ([.ref (ad 7 0), .int (iI x), .int (iI y), .int (iI z), .int (iI tx), .int (iI ty), .int (iI tz), .int (iI k)]) (n := 12) (Nat.le_of_ble_eq_true rfl)
  rw [lg_entry_eq]
  generalize (lg_sl ([.ref (ad 7 0), .int (iI x), .int (iI y), .int (iI z), .int (iI tx), .int (iI ty), .int (iI tz), .int (iI k)]) ++ List.replicate (12 - (lg_sl ([.ref (ad 7 0), .int (iI x), .int (iI y), .int (iI z), .int (iI tx), .int (iI ty), .int (iI tz), .int (iI k)])).length) Slot.unset).toArray = ls at hl ⊢
  have hl : lv_has ls 12 [(0, .ref (ad 7 0)), (1, .int (iI x)), (2, .int (iI y)), (3, .int (iI z)), (4, .int (iI tx)), (5, .int (iI ty)), (6, .int (iI tz)), (7, .int (iI k))] := hl
  have hinX2 : ∀ w ∈ wsX20, w ∈ wsX2_inside := by decide +kernel
  have hRx0 : -2147483648 ≤ x ∧ x < 2147483648 := hRx
  have hRy0 : -2147483648 ≤ y ∧ y < 2147483648 := hRy
  have hRz0 : -2147483648 ≤ z ∧ z < 2147483648 := hRz
  have hRtx0 : -2147483648 ≤ tx ∧ tx < 2147483648 := hRtx
  have hRty0 : -2147483648 ≤ ty ∧ ty < 2147483648 := hRty
  have hRtz0 : -2147483648 ≤ tz ∧ tz < 2147483648 := hRtz
  have hRk0 : -2147483648 ≤ k ∧ k < 2147483648 := hRk
  have hm0 := bB0 hBt
  refine lv_aload_n hx hb dX2_inside_0 rfl (lv_at hl 0 rfl) ?_
  refine lv_iload_n hx hb dX2_inside_1 rfl (lv_at hl 1 rfl) ?_
  refine lv_iload hx hb dX2_inside_2 (lv_at hl 4 rfl) ?_
  refine bc_SB (As := [.int (iI x), .int (iI tx)]) (rest := [.ref (ad 7 0)]) ⟨hx, hb, hml, hown, hts⟩ (c_X2_isEnds l g ad σ τ w x tx (by unfold iR; omega) (by unfold iR; omega)) (va_cwS 2 hts gX2_inside_X2_isEnds rfl rfl rfl (by decide +kernel) ⟨Nat.le_of_ble_eq_true rfl, Nat.le_of_ble_eq_true rfl⟩) hK hU  rfl hl.1 rfl (Nat.le_of_ble_eq_true rfl) dX2_inside_4 ⟨Nat.le_of_ble_eq_true rfl, Nat.le_of_ble_eq_true rfl⟩ (fun h1 => ?_) (fun h1 => ?_)
  · refine li_if_eq (tgt := 33) hx hb (by unfold iR; omega) dX2_inside_7 (by decide) (fun h => absurd h (by decide)) (fun _ => ?_)
    refine lv_iload_n hx hb dX2_inside_10 rfl (lv_at hl 2 rfl) ?_
    refine lv_iload hx hb dX2_inside_11 (lv_at hl 5 rfl) ?_
    refine bc_SB (As := [.int (iI y), .int (iI ty)]) (rest := [.ref (ad 7 0)]) ⟨hx, hb, hml, hown, hts⟩ (c_X2_isEnds l g ad σ τ w y ty (by unfold iR; omega) (by unfold iR; omega)) (va_cwS 2 hts gX2_inside_X2_isEnds rfl rfl rfl (by decide +kernel) ⟨Nat.le_of_ble_eq_true rfl, Nat.le_of_ble_eq_true rfl⟩) hK hU  rfl hl.1 rfl (Nat.le_of_ble_eq_true rfl) dX2_inside_13 ⟨Nat.le_of_ble_eq_true rfl, Nat.le_of_ble_eq_true rfl⟩ (fun h2 => ?_) (fun h2 => ?_)
    · refine li_if_eq (tgt := 33) hx hb (by unfold iR; omega) dX2_inside_16 (by decide) (fun h => absurd h (by decide)) (fun _ => ?_)
      refine lv_iload_n hx hb dX2_inside_19 rfl (lv_at hl 3 rfl) ?_
      refine lv_iload hx hb dX2_inside_20 (lv_at hl 6 rfl) ?_
      refine bc_SB (As := [.int (iI z), .int (iI tz)]) (rest := [.ref (ad 7 0)]) ⟨hx, hb, hml, hown, hts⟩ (c_X2_isEnds l g ad σ τ w z tz (by unfold iR; omega) (by unfold iR; omega)) (va_cwS 2 hts gX2_inside_X2_isEnds rfl rfl rfl (by decide +kernel) ⟨Nat.le_of_ble_eq_true rfl, Nat.le_of_ble_eq_true rfl⟩) hK hU  rfl hl.1 rfl (Nat.le_of_ble_eq_true rfl) dX2_inside_22 ⟨Nat.le_of_ble_eq_true rfl, Nat.le_of_ble_eq_true rfl⟩ (fun h3 => ?_) (fun h3 => ?_)
      · refine li_if_eq (tgt := 33) hx hb (by unfold iR; omega) dX2_inside_25 (by decide) (fun h => absurd h (by decide)) (fun _ => ?_)
        refine lv_iload hx hb dX2_inside_28 (lv_at hl 7 rfl) ?_
        refine li_if_ge (tgt := 37) hx hb (by unfold iR; omega) dX2_inside_30 (by decide) (fun h4 => ?_) (fun h4 => ?_)
        · refine li_iconst hx hb dX2_inside_37 ?_
          refine bp_X2_code hx hb hts hinX2 hown hK hU hlc (hts (.fieldLink RX2 42 "ClashBoxesModel" "code" "I") (by decide +kernel)) dX2_inside_38 (fun H locs hU hF1 hlc => ?_)
          have hF := hF.tr hF1
          have hU : bx_U g ad σ τ (w.1, 0) H := hU
          refine lv_aload_n hx hb dX2_inside_41 rfl (lv_at hl 0 rfl) ?_
          refine bg_X2_code hx hb hts hinX2 hown hK hU (hts (.fieldLink RX2 42 "ClashBoxesModel" "code" "I") (by decide +kernel)) dX2_inside_42 ?_
          refine W.eq (g2 := F0 mI 45 ls [.int (iI 0)]) rfl ?_
          refine li_if_le (tgt := 50) hx hb (by unfold iR; omega) dX2_inside_45 (by decide) (fun _ => ?_) (fun h => absurd (by decide) h)
          refine li_iconst hx hb dX2_inside_50 ?_
          refine lv_istore (lv' := [(8, .int (iI 0)), (0, .ref (ad 7 0)), (1, .int (iI x)), (2, .int (iI y)), (3, .int (iI z)), (4, .int (iI tx)), (5, .int (iI ty)), (6, .int (iI tz)), (7, .int (iI k))]) hx hb dX2_inside_51 hl (by decide) rfl (fun ls hl => ?_)
          refine li_iconst hx hb dX2_inside_53 ?_
          refine lv_istore (lv' := [(9, .int (iI 0)), (8, .int (iI 0)), (0, .ref (ad 7 0)), (1, .int (iI x)), (2, .int (iI y)), (3, .int (iI z)), (4, .int (iI tx)), (5, .int (iI ty)), (6, .int (iI tz)), (7, .int (iI k))]) hx hb dX2_inside_54 hl (by decide) rfl (fun ls hl => ?_)
          refine bl_loop (V := Int × Int) (nL := 12) (I := fun v => [(9, .int (iI v.1)), (8, .int (iI v.2)), (0, .ref (ad 7 0)), (1, .int (iI x)), (2, .int (iI y)), (3, .int (iI z)), (4, .int (iI tx)), (5, .int (iI ty)), (6, .int (iI tz)), (7, .int (iI k))]) (Inv := fun v => (0 ≤ v.1 ∧ v.1 ≤ τ 0 0 0) ∧ (0 ≤ v.2 ∧ v.2 ≤ k) ∧ (nth (insM (eff τ) x y z tx ty tz) v.1 (τ 0 0 0) (k - v.2) = nth (insM (eff τ) x y z tx ty tz) 0 (τ 0 0 0) k)) (μ := fun v => 60 - v.1) ?_ (0, 0) (show (0 ≤ 0 ∧ 0 ≤ τ 0 0 0) ∧ (0 ≤ 0 ∧ 0 ≤ k) ∧ (nth (insM (eff τ) x y z tx ty tz) 0 (τ 0 0 0) (k - 0) = nth (insM (eff τ) x y z tx ty tz) 0 (τ 0 0 0) k) from ⟨by omega, by omega, by rw [Int.sub_zero]⟩) ls (lv_sub hl [0, 1, 2, 3, 4, 5, 6, 7, 8, 9] rfl)
          rintro ⟨i5, n5⟩ hI ih5 ls hl
          have hI : (0 ≤ i5 ∧ i5 ≤ τ 0 0 0) ∧ (0 ≤ n5 ∧ n5 ≤ k) ∧ (nth (insM (eff τ) x y z tx ty tz) i5 (τ 0 0 0) (k - n5) = nth (insM (eff τ) x y z tx ty tz) 0 (τ 0 0 0) k) := hI
          obtain ⟨ha5, hb5, hc5⟩ := hI
          have hl : lv_has ls 12 [(9, .int (iI i5)), (8, .int (iI n5)), (0, .ref (ad 7 0)), (1, .int (iI x)), (2, .int (iI y)), (3, .int (iI z)), (4, .int (iI tx)), (5, .int (iI ty)), (6, .int (iI tz)), (7, .int (iI k))] := hl
          have hm0 := bB0 hBt
          refine lv_iload hx hb dX2_inside_56 (lv_at hl 0 rfl) ?_
          refine lv_aload_n hx hb dX2_inside_58 rfl (lv_at hl 2 rfl) ?_
          refine bg_X2_made hx hb hts hinX2 hown hK hU (hts (.fieldLink RX2 49 "ClashBoxesModel" "made" "I") (by decide +kernel)) dX2_inside_59 ?_
          have b6 := bB0 hBt
          refine li_icmp_ge (tgt := 194) hx hb (by unfold iR; omega) (by unfold iR; omega) dX2_inside_62 (by decide) (fun h7 => ?_) (fun h7 => ?_)
          · refine li_iconst hx hb dX2_inside_194 ?_
            refine bw_i hx hb hr hlocks (by first | exact hU | simpa using hU) hF hlc ?_ dX2_inside_195
            rw [← hc5, nth_end _ _ (by omega)]
          · refine lv_aload_n hx hb dX2_inside_65 rfl (lv_at hl 2 rfl) ?_
            refine bg_X2_isThere hx hb hts hinX2 hown hK hU (hts (.fieldLink RX2 7 "ClashBoxesModel" "isThere" "[Z") (by decide +kernel)) dX2_inside_66 ?_
            refine lv_iload hx hb dX2_inside_69 (lv_at hl 0 rfl) ?_
            refine bl_8 hx hb hK hU (by omega) (by omega) dX2_inside_71 ?_
            have b8 := bB2 hBt (k := i5) (by omega) (by omega)
            rcases (by omega : τ 2 i5 0 = 0 ∨ τ 2 i5 0 = 1) with hq9 | hq9
            · refine W.eq (g2 := F0 mI 72 ls [.int (iI 0)]) (by rw [hq9]) ?_
              refine lv_istore (lv' := [(10, .int (iI 0)), (9, .int (iI i5)), (8, .int (iI n5)), (0, .ref (ad 7 0)), (1, .int (iI x)), (2, .int (iI y)), (3, .int (iI z)), (4, .int (iI tx)), (5, .int (iI ty)), (6, .int (iI tz)), (7, .int (iI k))]) hx hb dX2_inside_72 hl (by decide) rfl (fun ls hl => ?_)
              refine li_iconst hx hb dX2_inside_74 ?_
              refine lv_istore (lv' := [(11, .int (iI 0)), (10, .int (iI 0)), (9, .int (iI i5)), (8, .int (iI n5)), (0, .ref (ad 7 0)), (1, .int (iI x)), (2, .int (iI y)), (3, .int (iI z)), (4, .int (iI tx)), (5, .int (iI ty)), (6, .int (iI tz)), (7, .int (iI k))]) hx hb dX2_inside_75 hl (by decide) rfl (fun ls hl => ?_)
              refine lv_iload hx hb dX2_inside_77 (lv_at hl 0 rfl) ?_
              refine li_iconst hx hb dX2_inside_79 ?_
              refine li_icmp_ge (tgt := 170) hx hb (by unfold iR; omega) (by unfold iR; omega) dX2_inside_80 (by decide) (fun h => absurd h (by decide)) (fun _ => ?_)
              refine lv_iload hx hb dX2_inside_83 (lv_at hl 1 rfl) ?_
              refine li_if_eq (tgt := 161) hx hb (by unfold iR; omega) dX2_inside_85 (by decide) (fun _ => ?_) (fun h => absurd (by decide) h)
              refine li_iconst hx hb dX2_inside_161 ?_
              refine lv_istore (lv' := [(10, .int (iI 0)), (11, .int (iI 0)), (9, .int (iI i5)), (8, .int (iI n5)), (0, .ref (ad 7 0)), (1, .int (iI x)), (2, .int (iI y)), (3, .int (iI z)), (4, .int (iI tx)), (5, .int (iI ty)), (6, .int (iI tz)), (7, .int (iI k))]) hx hb dX2_inside_162 hl (by decide) rfl (fun ls hl => ?_)
              refine li_iinc (k0 := 1) (lv' := [(11, .int (iI (0 + 1))), (10, .int (iI 0)), (9, .int (iI i5)), (8, .int (iI n5)), (0, .ref (ad 7 0)), (1, .int (iI x)), (2, .int (iI y)), (3, .int (iI z)), (4, .int (iI tx)), (5, .int (iI ty)), (6, .int (iI tz)), (7, .int (iI k))]) hx hb dX2_inside_164 hl rfl (by decide) rfl (fun ls hl => ?_)
              have hl : lv_has ls 12 [(11, .int (iI 1)), (10, .int (iI 0)), (9, .int (iI i5)), (8, .int (iI n5)), (0, .ref (ad 7 0)), (1, .int (iI x)), (2, .int (iI y)), (3, .int (iI z)), (4, .int (iI tx)), (5, .int (iI ty)), (6, .int (iI tz)), (7, .int (iI k))] := hl
              refine lv_goto (tgt := 77) hx hb dX2_inside_167 (by decide) ?_
              refine lv_iload hx hb dX2_inside_77 (lv_at hl 0 rfl) ?_
              refine li_iconst hx hb dX2_inside_79 ?_
              refine li_icmp_ge (tgt := 170) hx hb (by unfold iR; omega) (by unfold iR; omega) dX2_inside_80 (by decide) (fun h => absurd h (by decide)) (fun _ => ?_)
              refine lv_iload hx hb dX2_inside_83 (lv_at hl 1 rfl) ?_
              refine li_if_eq (tgt := 161) hx hb (by unfold iR; omega) dX2_inside_85 (by decide) (fun _ => ?_) (fun h => absurd (by decide) h)
              refine li_iconst hx hb dX2_inside_161 ?_
              refine lv_istore (lv' := [(10, .int (iI 0)), (11, .int (iI 1)), (9, .int (iI i5)), (8, .int (iI n5)), (0, .ref (ad 7 0)), (1, .int (iI x)), (2, .int (iI y)), (3, .int (iI z)), (4, .int (iI tx)), (5, .int (iI ty)), (6, .int (iI tz)), (7, .int (iI k))]) hx hb dX2_inside_162 hl (by decide) rfl (fun ls hl => ?_)
              refine li_iinc (k0 := 1) (lv' := [(11, .int (iI (1 + 1))), (10, .int (iI 0)), (9, .int (iI i5)), (8, .int (iI n5)), (0, .ref (ad 7 0)), (1, .int (iI x)), (2, .int (iI y)), (3, .int (iI z)), (4, .int (iI tx)), (5, .int (iI ty)), (6, .int (iI tz)), (7, .int (iI k))]) hx hb dX2_inside_164 hl rfl (by decide) rfl (fun ls hl => ?_)
              have hl : lv_has ls 12 [(11, .int (iI 2)), (10, .int (iI 0)), (9, .int (iI i5)), (8, .int (iI n5)), (0, .ref (ad 7 0)), (1, .int (iI x)), (2, .int (iI y)), (3, .int (iI z)), (4, .int (iI tx)), (5, .int (iI ty)), (6, .int (iI tz)), (7, .int (iI k))] := hl
              refine lv_goto (tgt := 77) hx hb dX2_inside_167 (by decide) ?_
              refine lv_iload hx hb dX2_inside_77 (lv_at hl 0 rfl) ?_
              refine li_iconst hx hb dX2_inside_79 ?_
              refine li_icmp_ge (tgt := 170) hx hb (by unfold iR; omega) (by unfold iR; omega) dX2_inside_80 (by decide) (fun h => absurd h (by decide)) (fun _ => ?_)
              refine lv_iload hx hb dX2_inside_83 (lv_at hl 1 rfl) ?_
              refine li_if_eq (tgt := 161) hx hb (by unfold iR; omega) dX2_inside_85 (by decide) (fun _ => ?_) (fun h => absurd (by decide) h)
              refine li_iconst hx hb dX2_inside_161 ?_
              refine lv_istore (lv' := [(10, .int (iI 0)), (11, .int (iI 2)), (9, .int (iI i5)), (8, .int (iI n5)), (0, .ref (ad 7 0)), (1, .int (iI x)), (2, .int (iI y)), (3, .int (iI z)), (4, .int (iI tx)), (5, .int (iI ty)), (6, .int (iI tz)), (7, .int (iI k))]) hx hb dX2_inside_162 hl (by decide) rfl (fun ls hl => ?_)
              refine li_iinc (k0 := 1) (lv' := [(11, .int (iI (2 + 1))), (10, .int (iI 0)), (9, .int (iI i5)), (8, .int (iI n5)), (0, .ref (ad 7 0)), (1, .int (iI x)), (2, .int (iI y)), (3, .int (iI z)), (4, .int (iI tx)), (5, .int (iI ty)), (6, .int (iI tz)), (7, .int (iI k))]) hx hb dX2_inside_164 hl rfl (by decide) rfl (fun ls hl => ?_)
              have hl : lv_has ls 12 [(11, .int (iI 3)), (10, .int (iI 0)), (9, .int (iI i5)), (8, .int (iI n5)), (0, .ref (ad 7 0)), (1, .int (iI x)), (2, .int (iI y)), (3, .int (iI z)), (4, .int (iI tx)), (5, .int (iI ty)), (6, .int (iI tz)), (7, .int (iI k))] := hl
              refine lv_goto (tgt := 77) hx hb dX2_inside_167 (by decide) ?_
              refine lv_iload hx hb dX2_inside_77 (lv_at hl 0 rfl) ?_
              refine li_iconst hx hb dX2_inside_79 ?_
              refine li_icmp_ge (tgt := 170) hx hb (by unfold iR; omega) (by unfold iR; omega) dX2_inside_80 (by decide) (fun _ => ?_) (fun h => absurd (by decide) h)
              refine lv_iload hx hb dX2_inside_170 (lv_at hl 1 rfl) ?_
              refine li_if_eq (tgt := 188) hx hb (by unfold iR; omega) dX2_inside_172 (by decide) (fun _ => ?_) (fun h => absurd (by decide) h)
              refine li_iinc (k0 := 2) (lv' := [(9, .int (iI (i5 + 1))), (11, .int (iI 3)), (10, .int (iI 0)), (8, .int (iI n5)), (0, .ref (ad 7 0)), (1, .int (iI x)), (2, .int (iI y)), (3, .int (iI z)), (4, .int (iI tx)), (5, .int (iI ty)), (6, .int (iI tz)), (7, .int (iI k))]) hx hb dX2_inside_188 hl rfl (by decide) rfl (fun ls hl => ?_)
              refine lv_goto (tgt := 56) hx hb dX2_inside_191 (by decide) ?_
              exact ih5 (i5 + 1, n5) (show (0 ≤ (i5 + 1) ∧ (i5 + 1) ≤ τ 0 0 0) ∧ (0 ≤ n5 ∧ n5 ≤ k) ∧ (nth (insM (eff τ) x y z tx ty tz) (i5 + 1) (τ 0 0 0) (k - n5) = nth (insM (eff τ) x y z tx ty tz) 0 (τ 0 0 0) k) from ⟨by omega, by omega, by rw [← hc5, nth_f (i := i5) (k - n5) (by omega) (fun q => q.1 (show τ 2 i5 0 = 0 by omega))]⟩) (show 0 ≤ 60 - (i5 + 1) by omega) (show 60 - (i5 + 1) < 60 - i5 by omega) ls (lv_sub hl [0, 3, 4, 5, 6, 7, 8, 9, 10, 11] rfl)
            · refine W.eq (g2 := F0 mI 72 ls [.int (iI 1)]) (by rw [hq9]) ?_
              refine lv_istore (lv' := [(10, .int (iI 1)), (9, .int (iI i5)), (8, .int (iI n5)), (0, .ref (ad 7 0)), (1, .int (iI x)), (2, .int (iI y)), (3, .int (iI z)), (4, .int (iI tx)), (5, .int (iI ty)), (6, .int (iI tz)), (7, .int (iI k))]) hx hb dX2_inside_72 hl (by decide) rfl (fun ls hl => ?_)
              refine li_iconst hx hb dX2_inside_74 ?_
              refine lv_istore (lv' := [(11, .int (iI 0)), (10, .int (iI 1)), (9, .int (iI i5)), (8, .int (iI n5)), (0, .ref (ad 7 0)), (1, .int (iI x)), (2, .int (iI y)), (3, .int (iI z)), (4, .int (iI tx)), (5, .int (iI ty)), (6, .int (iI tz)), (7, .int (iI k))]) hx hb dX2_inside_75 hl (by decide) rfl (fun ls hl => ?_)
              refine lv_iload hx hb dX2_inside_77 (lv_at hl 0 rfl) ?_
              refine li_iconst hx hb dX2_inside_79 ?_
              refine li_icmp_ge (tgt := 170) hx hb (by unfold iR; omega) (by unfold iR; omega) dX2_inside_80 (by decide) (fun h => absurd h (by decide)) (fun _ => ?_)
              refine lv_iload hx hb dX2_inside_83 (lv_at hl 1 rfl) ?_
              refine li_if_eq (tgt := 161) hx hb (by unfold iR; omega) dX2_inside_85 (by decide) (fun h => absurd h (by decide)) (fun _ => ?_)
              have hz10 : 0 ≤ i5 ∧ i5 < 60 ∧ τ 2 i5 0 ≠ 0 := ⟨by omega, by omega, by omega⟩
              refine lv_aload_n hx hb dX2_inside_88 rfl (lv_at hl 4 rfl) ?_
              refine lv_iload hx hb dX2_inside_89 (lv_at hl 2 rfl) ?_
              refine lv_iload hx hb dX2_inside_91 (lv_at hl 0 rfl) ?_
              refine li_iconst hx hb dX2_inside_93 ?_
              refine li_iconst hx hb dX2_inside_94 ?_
              refine bc_V (As := [.int (iI i5), .int (iI 0), .int (iI 0), .int (iI 0)]) (rest := []) (kd := 7) (k := 0) (ci := 2) ⟨hx, hb, hml, hown, hts⟩ (c_X2_hullEnd l g ad σ τ (w.1, 0) i5 0 0 0 hz10 hBt hM (by omega) (by omega) (by omega)) (cwV 4 hts gX2_inside_X2_hullEnd rfl rfl rfl (by decide +kernel) ⟨Nat.le_of_ble_eq_true rfl, Nat.le_of_ble_eq_true rfl⟩) hK hU (bx_L0 (by omega)) rfl rfl rfl hl.1 rfl (Nat.le_of_ble_eq_true rfl) dX2_inside_95 ⟨Nat.le_of_ble_eq_true rfl, Nat.le_of_ble_eq_true rfl⟩ ?_
              have h11 := mH_bd hBt hM hz10 (a := 0) (hi := 0) (gr := 0) (by omega) (by omega) (by omega)
              refine lv_aload_n hx hb dX2_inside_98 rfl (lv_at hl 4 rfl) ?_
              refine lv_iload hx hb dX2_inside_99 (lv_at hl 2 rfl) ?_
              refine lv_iload hx hb dX2_inside_101 (lv_at hl 0 rfl) ?_
              refine li_iconst hx hb dX2_inside_103 ?_
              refine li_iconst hx hb dX2_inside_104 ?_
              refine bc_V (As := [.int (iI i5), .int (iI 0), .int (iI 1), .int (iI 0)]) (rest := [.int (iI (mH (eff τ) i5 0 0 0))]) (kd := 7) (k := 0) (ci := 2) ⟨hx, hb, hml, hown, hts⟩ (c_X2_hullEnd l g ad σ τ (w.1, 0) i5 0 1 0 hz10 hBt hM (by omega) (by omega) (by omega)) (cwV 4 hts gX2_inside_X2_hullEnd rfl rfl rfl (by decide +kernel) ⟨Nat.le_of_ble_eq_true rfl, Nat.le_of_ble_eq_true rfl⟩) hK hU (bx_L0 (by omega)) rfl rfl rfl hl.1 rfl (Nat.le_of_ble_eq_true rfl) dX2_inside_105 ⟨Nat.le_of_ble_eq_true rfl, Nat.le_of_ble_eq_true rfl⟩ ?_
              have h12 := mH_bd hBt hM hz10 (a := 0) (hi := 1) (gr := 0) (by omega) (by omega) (by omega)
              refine lv_iload hx hb dX2_inside_108 (lv_at hl 0 rfl) ?_
              refine li_if_ne (tgt := 117) hx hb (by unfold iR; omega) dX2_inside_110 (by decide) (fun h => absurd (by decide) h) (fun _ => ?_)
              refine lv_iload_n hx hb dX2_inside_113 rfl (lv_at hl 5 rfl) ?_
              refine lv_goto (tgt := 128) hx hb dX2_inside_114 (by decide) ?_
              refine lv_iload hx hb dX2_inside_128 (lv_at hl 0 rfl) ?_
              refine li_if_ne (tgt := 138) hx hb (by unfold iR; omega) dX2_inside_130 (by decide) (fun h => absurd (by decide) h) (fun _ => ?_)
              refine lv_iload hx hb dX2_inside_133 (lv_at hl 8 rfl) ?_
              refine lv_goto (tgt := 151) hx hb dX2_inside_135 (by decide) ?_
              refine bc_SB (As := [.int (iI (mH (eff τ) i5 0 0 0)), .int (iI (mH (eff τ) i5 0 1 0)), .int (iI x), .int (iI tx)]) (rest := []) ⟨hx, hb, hml, hown, hts⟩ (c_X2_overlaps l g ad σ τ (w.1, 0) (mH (eff τ) i5 0 0 0) (mH (eff τ) i5 0 1 0) x tx (by unfold iR; omega) (by unfold iR; omega) (by unfold iR; omega) (by unfold iR; omega)) (va_cwS 4 hts gX2_inside_X2_overlaps rfl rfl rfl (by decide +kernel) ⟨Nat.le_of_ble_eq_true rfl, Nat.le_of_ble_eq_true rfl⟩) hK hU  rfl hl.1 rfl (Nat.le_of_ble_eq_true rfl) dX2_inside_151 ⟨Nat.le_of_ble_eq_true rfl, Nat.le_of_ble_eq_true rfl⟩ (fun h13 => ?_) (fun h13 => ?_)
              · refine li_if_eq (tgt := 161) hx hb (by unfold iR; omega) dX2_inside_154 (by decide) (fun h => absurd h (by decide)) (fun _ => ?_)
                refine li_iconst hx hb dX2_inside_157 ?_
                refine lv_goto (tgt := 162) hx hb dX2_inside_158 (by decide) ?_
                refine lv_istore (lv' := [(10, .int (iI 1)), (11, .int (iI 0)), (9, .int (iI i5)), (8, .int (iI n5)), (0, .ref (ad 7 0)), (1, .int (iI x)), (2, .int (iI y)), (3, .int (iI z)), (4, .int (iI tx)), (5, .int (iI ty)), (6, .int (iI tz)), (7, .int (iI k))]) hx hb dX2_inside_162 hl (by decide) rfl (fun ls hl => ?_)
                refine li_iinc (k0 := 1) (lv' := [(11, .int (iI (0 + 1))), (10, .int (iI 1)), (9, .int (iI i5)), (8, .int (iI n5)), (0, .ref (ad 7 0)), (1, .int (iI x)), (2, .int (iI y)), (3, .int (iI z)), (4, .int (iI tx)), (5, .int (iI ty)), (6, .int (iI tz)), (7, .int (iI k))]) hx hb dX2_inside_164 hl rfl (by decide) rfl (fun ls hl => ?_)
                have hl : lv_has ls 12 [(11, .int (iI 1)), (10, .int (iI 1)), (9, .int (iI i5)), (8, .int (iI n5)), (0, .ref (ad 7 0)), (1, .int (iI x)), (2, .int (iI y)), (3, .int (iI z)), (4, .int (iI tx)), (5, .int (iI ty)), (6, .int (iI tz)), (7, .int (iI k))] := hl
                refine lv_goto (tgt := 77) hx hb dX2_inside_167 (by decide) ?_
                refine lv_iload hx hb dX2_inside_77 (lv_at hl 0 rfl) ?_
                refine li_iconst hx hb dX2_inside_79 ?_
                refine li_icmp_ge (tgt := 170) hx hb (by unfold iR; omega) (by unfold iR; omega) dX2_inside_80 (by decide) (fun h => absurd h (by decide)) (fun _ => ?_)
                refine lv_iload hx hb dX2_inside_83 (lv_at hl 1 rfl) ?_
                refine li_if_eq (tgt := 161) hx hb (by unfold iR; omega) dX2_inside_85 (by decide) (fun h => absurd h (by decide)) (fun _ => ?_)
                refine lv_aload_n hx hb dX2_inside_88 rfl (lv_at hl 4 rfl) ?_
                refine lv_iload hx hb dX2_inside_89 (lv_at hl 2 rfl) ?_
                refine lv_iload hx hb dX2_inside_91 (lv_at hl 0 rfl) ?_
                refine li_iconst hx hb dX2_inside_93 ?_
                refine li_iconst hx hb dX2_inside_94 ?_
                refine bc_V (As := [.int (iI i5), .int (iI 1), .int (iI 0), .int (iI 0)]) (rest := []) (kd := 7) (k := 0) (ci := 2) ⟨hx, hb, hml, hown, hts⟩ (c_X2_hullEnd l g ad σ τ (w.1, 0) i5 1 0 0 hz10 hBt hM (by omega) (by omega) (by omega)) (cwV 4 hts gX2_inside_X2_hullEnd rfl rfl rfl (by decide +kernel) ⟨Nat.le_of_ble_eq_true rfl, Nat.le_of_ble_eq_true rfl⟩) hK hU (bx_L0 (by omega)) rfl rfl rfl hl.1 rfl (Nat.le_of_ble_eq_true rfl) dX2_inside_95 ⟨Nat.le_of_ble_eq_true rfl, Nat.le_of_ble_eq_true rfl⟩ ?_
                have h14 := mH_bd hBt hM hz10 (a := 1) (hi := 0) (gr := 0) (by omega) (by omega) (by omega)
                refine lv_aload_n hx hb dX2_inside_98 rfl (lv_at hl 4 rfl) ?_
                refine lv_iload hx hb dX2_inside_99 (lv_at hl 2 rfl) ?_
                refine lv_iload hx hb dX2_inside_101 (lv_at hl 0 rfl) ?_
                refine li_iconst hx hb dX2_inside_103 ?_
                refine li_iconst hx hb dX2_inside_104 ?_
                refine bc_V (As := [.int (iI i5), .int (iI 1), .int (iI 1), .int (iI 0)]) (rest := [.int (iI (mH (eff τ) i5 1 0 0))]) (kd := 7) (k := 0) (ci := 2) ⟨hx, hb, hml, hown, hts⟩ (c_X2_hullEnd l g ad σ τ (w.1, 0) i5 1 1 0 hz10 hBt hM (by omega) (by omega) (by omega)) (cwV 4 hts gX2_inside_X2_hullEnd rfl rfl rfl (by decide +kernel) ⟨Nat.le_of_ble_eq_true rfl, Nat.le_of_ble_eq_true rfl⟩) hK hU (bx_L0 (by omega)) rfl rfl rfl hl.1 rfl (Nat.le_of_ble_eq_true rfl) dX2_inside_105 ⟨Nat.le_of_ble_eq_true rfl, Nat.le_of_ble_eq_true rfl⟩ ?_
                have h15 := mH_bd hBt hM hz10 (a := 1) (hi := 1) (gr := 0) (by omega) (by omega) (by omega)
                refine lv_iload hx hb dX2_inside_108 (lv_at hl 0 rfl) ?_
                refine li_if_ne (tgt := 117) hx hb (by unfold iR; omega) dX2_inside_110 (by decide) (fun _ => ?_) (fun h => absurd h (by decide))
                refine lv_iload hx hb dX2_inside_117 (lv_at hl 0 rfl) ?_
                refine li_iconst hx hb dX2_inside_119 ?_
                refine li_icmp_ne (tgt := 127) hx hb (by unfold iR; omega) (by unfold iR; omega) dX2_inside_120 (by decide) (fun h => absurd (by decide) h) (fun _ => ?_)
                refine lv_iload_n hx hb dX2_inside_123 rfl (lv_at hl 6 rfl) ?_
                refine lv_goto (tgt := 128) hx hb dX2_inside_124 (by decide) ?_
                refine lv_iload hx hb dX2_inside_128 (lv_at hl 0 rfl) ?_
                refine li_if_ne (tgt := 138) hx hb (by unfold iR; omega) dX2_inside_130 (by decide) (fun _ => ?_) (fun h => absurd h (by decide))
                refine lv_iload hx hb dX2_inside_138 (lv_at hl 0 rfl) ?_
                refine li_iconst hx hb dX2_inside_140 ?_
                refine li_icmp_ne (tgt := 149) hx hb (by unfold iR; omega) (by unfold iR; omega) dX2_inside_141 (by decide) (fun h => absurd (by decide) h) (fun _ => ?_)
                refine lv_iload hx hb dX2_inside_144 (lv_at hl 9 rfl) ?_
                refine lv_goto (tgt := 151) hx hb dX2_inside_146 (by decide) ?_
                refine bc_SB (As := [.int (iI (mH (eff τ) i5 1 0 0)), .int (iI (mH (eff τ) i5 1 1 0)), .int (iI y), .int (iI ty)]) (rest := []) ⟨hx, hb, hml, hown, hts⟩ (c_X2_overlaps l g ad σ τ (w.1, 0) (mH (eff τ) i5 1 0 0) (mH (eff τ) i5 1 1 0) y ty (by unfold iR; omega) (by unfold iR; omega) (by unfold iR; omega) (by unfold iR; omega)) (va_cwS 4 hts gX2_inside_X2_overlaps rfl rfl rfl (by decide +kernel) ⟨Nat.le_of_ble_eq_true rfl, Nat.le_of_ble_eq_true rfl⟩) hK hU  rfl hl.1 rfl (Nat.le_of_ble_eq_true rfl) dX2_inside_151 ⟨Nat.le_of_ble_eq_true rfl, Nat.le_of_ble_eq_true rfl⟩ (fun h16 => ?_) (fun h16 => ?_)
                · refine li_if_eq (tgt := 161) hx hb (by unfold iR; omega) dX2_inside_154 (by decide) (fun h => absurd h (by decide)) (fun _ => ?_)
                  refine li_iconst hx hb dX2_inside_157 ?_
                  refine lv_goto (tgt := 162) hx hb dX2_inside_158 (by decide) ?_
                  refine lv_istore (lv' := [(10, .int (iI 1)), (11, .int (iI 1)), (9, .int (iI i5)), (8, .int (iI n5)), (0, .ref (ad 7 0)), (1, .int (iI x)), (2, .int (iI y)), (3, .int (iI z)), (4, .int (iI tx)), (5, .int (iI ty)), (6, .int (iI tz)), (7, .int (iI k))]) hx hb dX2_inside_162 hl (by decide) rfl (fun ls hl => ?_)
                  refine li_iinc (k0 := 1) (lv' := [(11, .int (iI (1 + 1))), (10, .int (iI 1)), (9, .int (iI i5)), (8, .int (iI n5)), (0, .ref (ad 7 0)), (1, .int (iI x)), (2, .int (iI y)), (3, .int (iI z)), (4, .int (iI tx)), (5, .int (iI ty)), (6, .int (iI tz)), (7, .int (iI k))]) hx hb dX2_inside_164 hl rfl (by decide) rfl (fun ls hl => ?_)
                  have hl : lv_has ls 12 [(11, .int (iI 2)), (10, .int (iI 1)), (9, .int (iI i5)), (8, .int (iI n5)), (0, .ref (ad 7 0)), (1, .int (iI x)), (2, .int (iI y)), (3, .int (iI z)), (4, .int (iI tx)), (5, .int (iI ty)), (6, .int (iI tz)), (7, .int (iI k))] := hl
                  refine lv_goto (tgt := 77) hx hb dX2_inside_167 (by decide) ?_
                  refine lv_iload hx hb dX2_inside_77 (lv_at hl 0 rfl) ?_
                  refine li_iconst hx hb dX2_inside_79 ?_
                  refine li_icmp_ge (tgt := 170) hx hb (by unfold iR; omega) (by unfold iR; omega) dX2_inside_80 (by decide) (fun h => absurd h (by decide)) (fun _ => ?_)
                  refine lv_iload hx hb dX2_inside_83 (lv_at hl 1 rfl) ?_
                  refine li_if_eq (tgt := 161) hx hb (by unfold iR; omega) dX2_inside_85 (by decide) (fun h => absurd h (by decide)) (fun _ => ?_)
                  refine lv_aload_n hx hb dX2_inside_88 rfl (lv_at hl 4 rfl) ?_
                  refine lv_iload hx hb dX2_inside_89 (lv_at hl 2 rfl) ?_
                  refine lv_iload hx hb dX2_inside_91 (lv_at hl 0 rfl) ?_
                  refine li_iconst hx hb dX2_inside_93 ?_
                  refine li_iconst hx hb dX2_inside_94 ?_
                  refine bc_V (As := [.int (iI i5), .int (iI 2), .int (iI 0), .int (iI 0)]) (rest := []) (kd := 7) (k := 0) (ci := 2) ⟨hx, hb, hml, hown, hts⟩ (c_X2_hullEnd l g ad σ τ (w.1, 0) i5 2 0 0 hz10 hBt hM (by omega) (by omega) (by omega)) (cwV 4 hts gX2_inside_X2_hullEnd rfl rfl rfl (by decide +kernel) ⟨Nat.le_of_ble_eq_true rfl, Nat.le_of_ble_eq_true rfl⟩) hK hU (bx_L0 (by omega)) rfl rfl rfl hl.1 rfl (Nat.le_of_ble_eq_true rfl) dX2_inside_95 ⟨Nat.le_of_ble_eq_true rfl, Nat.le_of_ble_eq_true rfl⟩ ?_
                  have h17 := mH_bd hBt hM hz10 (a := 2) (hi := 0) (gr := 0) (by omega) (by omega) (by omega)
                  refine lv_aload_n hx hb dX2_inside_98 rfl (lv_at hl 4 rfl) ?_
                  refine lv_iload hx hb dX2_inside_99 (lv_at hl 2 rfl) ?_
                  refine lv_iload hx hb dX2_inside_101 (lv_at hl 0 rfl) ?_
                  refine li_iconst hx hb dX2_inside_103 ?_
                  refine li_iconst hx hb dX2_inside_104 ?_
                  refine bc_V (As := [.int (iI i5), .int (iI 2), .int (iI 1), .int (iI 0)]) (rest := [.int (iI (mH (eff τ) i5 2 0 0))]) (kd := 7) (k := 0) (ci := 2) ⟨hx, hb, hml, hown, hts⟩ (c_X2_hullEnd l g ad σ τ (w.1, 0) i5 2 1 0 hz10 hBt hM (by omega) (by omega) (by omega)) (cwV 4 hts gX2_inside_X2_hullEnd rfl rfl rfl (by decide +kernel) ⟨Nat.le_of_ble_eq_true rfl, Nat.le_of_ble_eq_true rfl⟩) hK hU (bx_L0 (by omega)) rfl rfl rfl hl.1 rfl (Nat.le_of_ble_eq_true rfl) dX2_inside_105 ⟨Nat.le_of_ble_eq_true rfl, Nat.le_of_ble_eq_true rfl⟩ ?_
                  have h18 := mH_bd hBt hM hz10 (a := 2) (hi := 1) (gr := 0) (by omega) (by omega) (by omega)
                  refine lv_iload hx hb dX2_inside_108 (lv_at hl 0 rfl) ?_
                  refine li_if_ne (tgt := 117) hx hb (by unfold iR; omega) dX2_inside_110 (by decide) (fun _ => ?_) (fun h => absurd h (by decide))
                  refine lv_iload hx hb dX2_inside_117 (lv_at hl 0 rfl) ?_
                  refine li_iconst hx hb dX2_inside_119 ?_
                  refine li_icmp_ne (tgt := 127) hx hb (by unfold iR; omega) (by unfold iR; omega) dX2_inside_120 (by decide) (fun _ => ?_) (fun h => absurd h (by decide))
                  refine lv_iload_n hx hb dX2_inside_127 rfl (lv_at hl 7 rfl) ?_
                  refine lv_iload hx hb dX2_inside_128 (lv_at hl 0 rfl) ?_
                  refine li_if_ne (tgt := 138) hx hb (by unfold iR; omega) dX2_inside_130 (by decide) (fun _ => ?_) (fun h => absurd h (by decide))
                  refine lv_iload hx hb dX2_inside_138 (lv_at hl 0 rfl) ?_
                  refine li_iconst hx hb dX2_inside_140 ?_
                  refine li_icmp_ne (tgt := 149) hx hb (by unfold iR; omega) (by unfold iR; omega) dX2_inside_141 (by decide) (fun _ => ?_) (fun h => absurd h (by decide))
                  refine lv_iload hx hb dX2_inside_149 (lv_at hl 10 rfl) ?_
                  refine bc_SB (As := [.int (iI (mH (eff τ) i5 2 0 0)), .int (iI (mH (eff τ) i5 2 1 0)), .int (iI z), .int (iI tz)]) (rest := []) ⟨hx, hb, hml, hown, hts⟩ (c_X2_overlaps l g ad σ τ (w.1, 0) (mH (eff τ) i5 2 0 0) (mH (eff τ) i5 2 1 0) z tz (by unfold iR; omega) (by unfold iR; omega) (by unfold iR; omega) (by unfold iR; omega)) (va_cwS 4 hts gX2_inside_X2_overlaps rfl rfl rfl (by decide +kernel) ⟨Nat.le_of_ble_eq_true rfl, Nat.le_of_ble_eq_true rfl⟩) hK hU  rfl hl.1 rfl (Nat.le_of_ble_eq_true rfl) dX2_inside_151 ⟨Nat.le_of_ble_eq_true rfl, Nat.le_of_ble_eq_true rfl⟩ (fun h19 => ?_) (fun h19 => ?_)
                  · refine li_if_eq (tgt := 161) hx hb (by unfold iR; omega) dX2_inside_154 (by decide) (fun h => absurd h (by decide)) (fun _ => ?_)
                    refine li_iconst hx hb dX2_inside_157 ?_
                    refine lv_goto (tgt := 162) hx hb dX2_inside_158 (by decide) ?_
                    refine lv_istore (lv' := [(10, .int (iI 1)), (11, .int (iI 2)), (9, .int (iI i5)), (8, .int (iI n5)), (0, .ref (ad 7 0)), (1, .int (iI x)), (2, .int (iI y)), (3, .int (iI z)), (4, .int (iI tx)), (5, .int (iI ty)), (6, .int (iI tz)), (7, .int (iI k))]) hx hb dX2_inside_162 hl (by decide) rfl (fun ls hl => ?_)
                    refine li_iinc (k0 := 1) (lv' := [(11, .int (iI (2 + 1))), (10, .int (iI 1)), (9, .int (iI i5)), (8, .int (iI n5)), (0, .ref (ad 7 0)), (1, .int (iI x)), (2, .int (iI y)), (3, .int (iI z)), (4, .int (iI tx)), (5, .int (iI ty)), (6, .int (iI tz)), (7, .int (iI k))]) hx hb dX2_inside_164 hl rfl (by decide) rfl (fun ls hl => ?_)
                    have hl : lv_has ls 12 [(11, .int (iI 3)), (10, .int (iI 1)), (9, .int (iI i5)), (8, .int (iI n5)), (0, .ref (ad 7 0)), (1, .int (iI x)), (2, .int (iI y)), (3, .int (iI z)), (4, .int (iI tx)), (5, .int (iI ty)), (6, .int (iI tz)), (7, .int (iI k))] := hl
                    refine lv_goto (tgt := 77) hx hb dX2_inside_167 (by decide) ?_
                    refine lv_iload hx hb dX2_inside_77 (lv_at hl 0 rfl) ?_
                    refine li_iconst hx hb dX2_inside_79 ?_
                    refine li_icmp_ge (tgt := 170) hx hb (by unfold iR; omega) (by unfold iR; omega) dX2_inside_80 (by decide) (fun _ => ?_) (fun h => absurd (by decide) h)
                    refine lv_iload hx hb dX2_inside_170 (lv_at hl 1 rfl) ?_
                    refine li_if_eq (tgt := 188) hx hb (by unfold iR; omega) dX2_inside_172 (by decide) (fun h => absurd h (by decide)) (fun _ => ?_)
                    refine lv_iload hx hb dX2_inside_175 (lv_at hl 3 rfl) ?_
                    refine lv_iload hx hb dX2_inside_177 (lv_at hl 11 rfl) ?_
                    refine li_icmp_ne (tgt := 185) hx hb (by unfold iR; omega) (by unfold iR; omega) dX2_inside_179 (by decide) (fun h20 => ?_) (fun h20 => ?_)
                    · refine li_iinc (k0 := 3) (lv' := [(8, .int (iI (n5 + 1))), (11, .int (iI 3)), (10, .int (iI 1)), (9, .int (iI i5)), (0, .ref (ad 7 0)), (1, .int (iI x)), (2, .int (iI y)), (3, .int (iI z)), (4, .int (iI tx)), (5, .int (iI ty)), (6, .int (iI tz)), (7, .int (iI k))]) hx hb dX2_inside_185 hl rfl (by decide) rfl (fun ls hl => ?_)
                      refine li_iinc (k0 := 3) (lv' := [(9, .int (iI (i5 + 1))), (8, .int (iI (n5 + 1))), (11, .int (iI 3)), (10, .int (iI 1)), (0, .ref (ad 7 0)), (1, .int (iI x)), (2, .int (iI y)), (3, .int (iI z)), (4, .int (iI tx)), (5, .int (iI ty)), (6, .int (iI tz)), (7, .int (iI k))]) hx hb dX2_inside_188 hl rfl (by decide) rfl (fun ls hl => ?_)
                      refine lv_goto (tgt := 56) hx hb dX2_inside_191 (by decide) ?_
                      exact ih5 (i5 + 1, n5 + 1) (show (0 ≤ (i5 + 1) ∧ (i5 + 1) ≤ τ 0 0 0) ∧ (0 ≤ (n5 + 1) ∧ (n5 + 1) ≤ k) ∧ (nth (insM (eff τ) x y z tx ty tz) (i5 + 1) (τ 0 0 0) (k - (n5 + 1)) = nth (insM (eff τ) x y z tx ty tz) 0 (τ 0 0 0) k) from ⟨by omega, by omega, by rw [← hc5, nth_t (i := i5) (k - n5) (by omega) ⟨(show τ 2 i5 0 ≠ 0 by omega), h13, h16, h19⟩, if_neg (by omega), show k - (n5 + 1) = k - n5 - 1 by omega]⟩) (show 0 ≤ 60 - (i5 + 1) by omega) (show 60 - (i5 + 1) < 60 - i5 by omega) ls (lv_sub hl [0, 1, 4, 5, 6, 7, 8, 9, 10, 11] rfl)
                    · refine lv_iload hx hb dX2_inside_182 (lv_at hl 2 rfl) ?_
                      refine bw_i hx hb hr hlocks (by first | exact hU | simpa using hU) hF hlc ?_ dX2_inside_184
                      rw [← hc5, nth_t (i := i5) (k - n5) (by omega) ⟨(show τ 2 i5 0 ≠ 0 by omega), h13, h16, h19⟩, if_pos (by omega)]
                  · refine li_if_eq (tgt := 161) hx hb (by unfold iR; omega) dX2_inside_154 (by decide) (fun _ => ?_) (fun h => absurd (by decide) h)
                    refine li_iconst hx hb dX2_inside_161 ?_
                    refine lv_istore (lv' := [(10, .int (iI 0)), (11, .int (iI 2)), (9, .int (iI i5)), (8, .int (iI n5)), (0, .ref (ad 7 0)), (1, .int (iI x)), (2, .int (iI y)), (3, .int (iI z)), (4, .int (iI tx)), (5, .int (iI ty)), (6, .int (iI tz)), (7, .int (iI k))]) hx hb dX2_inside_162 hl (by decide) rfl (fun ls hl => ?_)
                    refine li_iinc (k0 := 1) (lv' := [(11, .int (iI (2 + 1))), (10, .int (iI 0)), (9, .int (iI i5)), (8, .int (iI n5)), (0, .ref (ad 7 0)), (1, .int (iI x)), (2, .int (iI y)), (3, .int (iI z)), (4, .int (iI tx)), (5, .int (iI ty)), (6, .int (iI tz)), (7, .int (iI k))]) hx hb dX2_inside_164 hl rfl (by decide) rfl (fun ls hl => ?_)
                    have hl : lv_has ls 12 [(11, .int (iI 3)), (10, .int (iI 0)), (9, .int (iI i5)), (8, .int (iI n5)), (0, .ref (ad 7 0)), (1, .int (iI x)), (2, .int (iI y)), (3, .int (iI z)), (4, .int (iI tx)), (5, .int (iI ty)), (6, .int (iI tz)), (7, .int (iI k))] := hl
                    refine lv_goto (tgt := 77) hx hb dX2_inside_167 (by decide) ?_
                    refine lv_iload hx hb dX2_inside_77 (lv_at hl 0 rfl) ?_
                    refine li_iconst hx hb dX2_inside_79 ?_
                    refine li_icmp_ge (tgt := 170) hx hb (by unfold iR; omega) (by unfold iR; omega) dX2_inside_80 (by decide) (fun _ => ?_) (fun h => absurd (by decide) h)
                    refine lv_iload hx hb dX2_inside_170 (lv_at hl 1 rfl) ?_
                    refine li_if_eq (tgt := 188) hx hb (by unfold iR; omega) dX2_inside_172 (by decide) (fun _ => ?_) (fun h => absurd (by decide) h)
                    refine li_iinc (k0 := 2) (lv' := [(9, .int (iI (i5 + 1))), (11, .int (iI 3)), (10, .int (iI 0)), (8, .int (iI n5)), (0, .ref (ad 7 0)), (1, .int (iI x)), (2, .int (iI y)), (3, .int (iI z)), (4, .int (iI tx)), (5, .int (iI ty)), (6, .int (iI tz)), (7, .int (iI k))]) hx hb dX2_inside_188 hl rfl (by decide) rfl (fun ls hl => ?_)
                    refine lv_goto (tgt := 56) hx hb dX2_inside_191 (by decide) ?_
                    exact ih5 (i5 + 1, n5) (show (0 ≤ (i5 + 1) ∧ (i5 + 1) ≤ τ 0 0 0) ∧ (0 ≤ n5 ∧ n5 ≤ k) ∧ (nth (insM (eff τ) x y z tx ty tz) (i5 + 1) (τ 0 0 0) (k - n5) = nth (insM (eff τ) x y z tx ty tz) 0 (τ 0 0 0) k) from ⟨by omega, by omega, by rw [← hc5, nth_f (i := i5) (k - n5) (by omega) (fun q => h19 q.2.2.2)]⟩) (show 0 ≤ 60 - (i5 + 1) by omega) (show 60 - (i5 + 1) < 60 - i5 by omega) ls (lv_sub hl [0, 3, 4, 5, 6, 7, 8, 9, 10, 11] rfl)
                · refine li_if_eq (tgt := 161) hx hb (by unfold iR; omega) dX2_inside_154 (by decide) (fun _ => ?_) (fun h => absurd (by decide) h)
                  refine li_iconst hx hb dX2_inside_161 ?_
                  refine lv_istore (lv' := [(10, .int (iI 0)), (11, .int (iI 1)), (9, .int (iI i5)), (8, .int (iI n5)), (0, .ref (ad 7 0)), (1, .int (iI x)), (2, .int (iI y)), (3, .int (iI z)), (4, .int (iI tx)), (5, .int (iI ty)), (6, .int (iI tz)), (7, .int (iI k))]) hx hb dX2_inside_162 hl (by decide) rfl (fun ls hl => ?_)
                  refine li_iinc (k0 := 1) (lv' := [(11, .int (iI (1 + 1))), (10, .int (iI 0)), (9, .int (iI i5)), (8, .int (iI n5)), (0, .ref (ad 7 0)), (1, .int (iI x)), (2, .int (iI y)), (3, .int (iI z)), (4, .int (iI tx)), (5, .int (iI ty)), (6, .int (iI tz)), (7, .int (iI k))]) hx hb dX2_inside_164 hl rfl (by decide) rfl (fun ls hl => ?_)
                  have hl : lv_has ls 12 [(11, .int (iI 2)), (10, .int (iI 0)), (9, .int (iI i5)), (8, .int (iI n5)), (0, .ref (ad 7 0)), (1, .int (iI x)), (2, .int (iI y)), (3, .int (iI z)), (4, .int (iI tx)), (5, .int (iI ty)), (6, .int (iI tz)), (7, .int (iI k))] := hl
                  refine lv_goto (tgt := 77) hx hb dX2_inside_167 (by decide) ?_
                  refine lv_iload hx hb dX2_inside_77 (lv_at hl 0 rfl) ?_
                  refine li_iconst hx hb dX2_inside_79 ?_
                  refine li_icmp_ge (tgt := 170) hx hb (by unfold iR; omega) (by unfold iR; omega) dX2_inside_80 (by decide) (fun h => absurd h (by decide)) (fun _ => ?_)
                  refine lv_iload hx hb dX2_inside_83 (lv_at hl 1 rfl) ?_
                  refine li_if_eq (tgt := 161) hx hb (by unfold iR; omega) dX2_inside_85 (by decide) (fun _ => ?_) (fun h => absurd (by decide) h)
                  refine li_iconst hx hb dX2_inside_161 ?_
                  refine lv_istore (lv' := [(10, .int (iI 0)), (11, .int (iI 2)), (9, .int (iI i5)), (8, .int (iI n5)), (0, .ref (ad 7 0)), (1, .int (iI x)), (2, .int (iI y)), (3, .int (iI z)), (4, .int (iI tx)), (5, .int (iI ty)), (6, .int (iI tz)), (7, .int (iI k))]) hx hb dX2_inside_162 hl (by decide) rfl (fun ls hl => ?_)
                  refine li_iinc (k0 := 1) (lv' := [(11, .int (iI (2 + 1))), (10, .int (iI 0)), (9, .int (iI i5)), (8, .int (iI n5)), (0, .ref (ad 7 0)), (1, .int (iI x)), (2, .int (iI y)), (3, .int (iI z)), (4, .int (iI tx)), (5, .int (iI ty)), (6, .int (iI tz)), (7, .int (iI k))]) hx hb dX2_inside_164 hl rfl (by decide) rfl (fun ls hl => ?_)
                  have hl : lv_has ls 12 [(11, .int (iI 3)), (10, .int (iI 0)), (9, .int (iI i5)), (8, .int (iI n5)), (0, .ref (ad 7 0)), (1, .int (iI x)), (2, .int (iI y)), (3, .int (iI z)), (4, .int (iI tx)), (5, .int (iI ty)), (6, .int (iI tz)), (7, .int (iI k))] := hl
                  refine lv_goto (tgt := 77) hx hb dX2_inside_167 (by decide) ?_
                  refine lv_iload hx hb dX2_inside_77 (lv_at hl 0 rfl) ?_
                  refine li_iconst hx hb dX2_inside_79 ?_
                  refine li_icmp_ge (tgt := 170) hx hb (by unfold iR; omega) (by unfold iR; omega) dX2_inside_80 (by decide) (fun _ => ?_) (fun h => absurd (by decide) h)
                  refine lv_iload hx hb dX2_inside_170 (lv_at hl 1 rfl) ?_
                  refine li_if_eq (tgt := 188) hx hb (by unfold iR; omega) dX2_inside_172 (by decide) (fun _ => ?_) (fun h => absurd (by decide) h)
                  refine li_iinc (k0 := 2) (lv' := [(9, .int (iI (i5 + 1))), (11, .int (iI 3)), (10, .int (iI 0)), (8, .int (iI n5)), (0, .ref (ad 7 0)), (1, .int (iI x)), (2, .int (iI y)), (3, .int (iI z)), (4, .int (iI tx)), (5, .int (iI ty)), (6, .int (iI tz)), (7, .int (iI k))]) hx hb dX2_inside_188 hl rfl (by decide) rfl (fun ls hl => ?_)
                  refine lv_goto (tgt := 56) hx hb dX2_inside_191 (by decide) ?_
                  exact ih5 (i5 + 1, n5) (show (0 ≤ (i5 + 1) ∧ (i5 + 1) ≤ τ 0 0 0) ∧ (0 ≤ n5 ∧ n5 ≤ k) ∧ (nth (insM (eff τ) x y z tx ty tz) (i5 + 1) (τ 0 0 0) (k - n5) = nth (insM (eff τ) x y z tx ty tz) 0 (τ 0 0 0) k) from ⟨by omega, by omega, by rw [← hc5, nth_f (i := i5) (k - n5) (by omega) (fun q => h16 q.2.2.1)]⟩) (show 0 ≤ 60 - (i5 + 1) by omega) (show 60 - (i5 + 1) < 60 - i5 by omega) ls (lv_sub hl [0, 3, 4, 5, 6, 7, 8, 9, 10, 11] rfl)
              · refine li_if_eq (tgt := 161) hx hb (by unfold iR; omega) dX2_inside_154 (by decide) (fun _ => ?_) (fun h => absurd (by decide) h)
                refine li_iconst hx hb dX2_inside_161 ?_
                refine lv_istore (lv' := [(10, .int (iI 0)), (11, .int (iI 0)), (9, .int (iI i5)), (8, .int (iI n5)), (0, .ref (ad 7 0)), (1, .int (iI x)), (2, .int (iI y)), (3, .int (iI z)), (4, .int (iI tx)), (5, .int (iI ty)), (6, .int (iI tz)), (7, .int (iI k))]) hx hb dX2_inside_162 hl (by decide) rfl (fun ls hl => ?_)
                refine li_iinc (k0 := 1) (lv' := [(11, .int (iI (0 + 1))), (10, .int (iI 0)), (9, .int (iI i5)), (8, .int (iI n5)), (0, .ref (ad 7 0)), (1, .int (iI x)), (2, .int (iI y)), (3, .int (iI z)), (4, .int (iI tx)), (5, .int (iI ty)), (6, .int (iI tz)), (7, .int (iI k))]) hx hb dX2_inside_164 hl rfl (by decide) rfl (fun ls hl => ?_)
                have hl : lv_has ls 12 [(11, .int (iI 1)), (10, .int (iI 0)), (9, .int (iI i5)), (8, .int (iI n5)), (0, .ref (ad 7 0)), (1, .int (iI x)), (2, .int (iI y)), (3, .int (iI z)), (4, .int (iI tx)), (5, .int (iI ty)), (6, .int (iI tz)), (7, .int (iI k))] := hl
                refine lv_goto (tgt := 77) hx hb dX2_inside_167 (by decide) ?_
                refine lv_iload hx hb dX2_inside_77 (lv_at hl 0 rfl) ?_
                refine li_iconst hx hb dX2_inside_79 ?_
                refine li_icmp_ge (tgt := 170) hx hb (by unfold iR; omega) (by unfold iR; omega) dX2_inside_80 (by decide) (fun h => absurd h (by decide)) (fun _ => ?_)
                refine lv_iload hx hb dX2_inside_83 (lv_at hl 1 rfl) ?_
                refine li_if_eq (tgt := 161) hx hb (by unfold iR; omega) dX2_inside_85 (by decide) (fun _ => ?_) (fun h => absurd (by decide) h)
                refine li_iconst hx hb dX2_inside_161 ?_
                refine lv_istore (lv' := [(10, .int (iI 0)), (11, .int (iI 1)), (9, .int (iI i5)), (8, .int (iI n5)), (0, .ref (ad 7 0)), (1, .int (iI x)), (2, .int (iI y)), (3, .int (iI z)), (4, .int (iI tx)), (5, .int (iI ty)), (6, .int (iI tz)), (7, .int (iI k))]) hx hb dX2_inside_162 hl (by decide) rfl (fun ls hl => ?_)
                refine li_iinc (k0 := 1) (lv' := [(11, .int (iI (1 + 1))), (10, .int (iI 0)), (9, .int (iI i5)), (8, .int (iI n5)), (0, .ref (ad 7 0)), (1, .int (iI x)), (2, .int (iI y)), (3, .int (iI z)), (4, .int (iI tx)), (5, .int (iI ty)), (6, .int (iI tz)), (7, .int (iI k))]) hx hb dX2_inside_164 hl rfl (by decide) rfl (fun ls hl => ?_)
                have hl : lv_has ls 12 [(11, .int (iI 2)), (10, .int (iI 0)), (9, .int (iI i5)), (8, .int (iI n5)), (0, .ref (ad 7 0)), (1, .int (iI x)), (2, .int (iI y)), (3, .int (iI z)), (4, .int (iI tx)), (5, .int (iI ty)), (6, .int (iI tz)), (7, .int (iI k))] := hl
                refine lv_goto (tgt := 77) hx hb dX2_inside_167 (by decide) ?_
                refine lv_iload hx hb dX2_inside_77 (lv_at hl 0 rfl) ?_
                refine li_iconst hx hb dX2_inside_79 ?_
                refine li_icmp_ge (tgt := 170) hx hb (by unfold iR; omega) (by unfold iR; omega) dX2_inside_80 (by decide) (fun h => absurd h (by decide)) (fun _ => ?_)
                refine lv_iload hx hb dX2_inside_83 (lv_at hl 1 rfl) ?_
                refine li_if_eq (tgt := 161) hx hb (by unfold iR; omega) dX2_inside_85 (by decide) (fun _ => ?_) (fun h => absurd (by decide) h)
                refine li_iconst hx hb dX2_inside_161 ?_
                refine lv_istore (lv' := [(10, .int (iI 0)), (11, .int (iI 2)), (9, .int (iI i5)), (8, .int (iI n5)), (0, .ref (ad 7 0)), (1, .int (iI x)), (2, .int (iI y)), (3, .int (iI z)), (4, .int (iI tx)), (5, .int (iI ty)), (6, .int (iI tz)), (7, .int (iI k))]) hx hb dX2_inside_162 hl (by decide) rfl (fun ls hl => ?_)
                refine li_iinc (k0 := 1) (lv' := [(11, .int (iI (2 + 1))), (10, .int (iI 0)), (9, .int (iI i5)), (8, .int (iI n5)), (0, .ref (ad 7 0)), (1, .int (iI x)), (2, .int (iI y)), (3, .int (iI z)), (4, .int (iI tx)), (5, .int (iI ty)), (6, .int (iI tz)), (7, .int (iI k))]) hx hb dX2_inside_164 hl rfl (by decide) rfl (fun ls hl => ?_)
                have hl : lv_has ls 12 [(11, .int (iI 3)), (10, .int (iI 0)), (9, .int (iI i5)), (8, .int (iI n5)), (0, .ref (ad 7 0)), (1, .int (iI x)), (2, .int (iI y)), (3, .int (iI z)), (4, .int (iI tx)), (5, .int (iI ty)), (6, .int (iI tz)), (7, .int (iI k))] := hl
                refine lv_goto (tgt := 77) hx hb dX2_inside_167 (by decide) ?_
                refine lv_iload hx hb dX2_inside_77 (lv_at hl 0 rfl) ?_
                refine li_iconst hx hb dX2_inside_79 ?_
                refine li_icmp_ge (tgt := 170) hx hb (by unfold iR; omega) (by unfold iR; omega) dX2_inside_80 (by decide) (fun _ => ?_) (fun h => absurd (by decide) h)
                refine lv_iload hx hb dX2_inside_170 (lv_at hl 1 rfl) ?_
                refine li_if_eq (tgt := 188) hx hb (by unfold iR; omega) dX2_inside_172 (by decide) (fun _ => ?_) (fun h => absurd (by decide) h)
                refine li_iinc (k0 := 2) (lv' := [(9, .int (iI (i5 + 1))), (11, .int (iI 3)), (10, .int (iI 0)), (8, .int (iI n5)), (0, .ref (ad 7 0)), (1, .int (iI x)), (2, .int (iI y)), (3, .int (iI z)), (4, .int (iI tx)), (5, .int (iI ty)), (6, .int (iI tz)), (7, .int (iI k))]) hx hb dX2_inside_188 hl rfl (by decide) rfl (fun ls hl => ?_)
                refine lv_goto (tgt := 56) hx hb dX2_inside_191 (by decide) ?_
                exact ih5 (i5 + 1, n5) (show (0 ≤ (i5 + 1) ∧ (i5 + 1) ≤ τ 0 0 0) ∧ (0 ≤ n5 ∧ n5 ≤ k) ∧ (nth (insM (eff τ) x y z tx ty tz) (i5 + 1) (τ 0 0 0) (k - n5) = nth (insM (eff τ) x y z tx ty tz) 0 (τ 0 0 0) k) from ⟨by omega, by omega, by rw [← hc5, nth_f (i := i5) (k - n5) (by omega) (fun q => h13 q.2.1)]⟩) (show 0 ≤ 60 - (i5 + 1) by omega) (show 60 - (i5 + 1) < 60 - i5 by omega) ls (lv_sub hl [0, 3, 4, 5, 6, 7, 8, 9, 10, 11] rfl)
        · refine li_iconst hx hb dX2_inside_33 ?_
          refine lv_goto (tgt := 38) hx hb dX2_inside_34 (by decide) ?_
          exfalso
          omega
      · refine li_if_eq (tgt := 33) hx hb (by unfold iR; omega) dX2_inside_25 (by decide) (fun _ => ?_) (fun h => absurd (by decide) h)
        refine li_iconst hx hb dX2_inside_33 ?_
        refine lv_goto (tgt := 38) hx hb dX2_inside_34 (by decide) ?_
        exfalso
        omega
    · refine li_if_eq (tgt := 33) hx hb (by unfold iR; omega) dX2_inside_16 (by decide) (fun _ => ?_) (fun h => absurd (by decide) h)
      refine li_iconst hx hb dX2_inside_33 ?_
      refine lv_goto (tgt := 38) hx hb dX2_inside_34 (by decide) ?_
      exfalso
      omega
  · refine li_if_eq (tgt := 33) hx hb (by unfold iR; omega) dX2_inside_7 (by decide) (fun _ => ?_) (fun h => absurd (by decide) h)
    refine li_iconst hx hb dX2_inside_33 ?_
    refine lv_goto (tgt := 38) hx hb dX2_inside_34 (by decide) ?_
    exfalso
    omega

set_option maxHeartbeats 4000000 in
set_option maxRecDepth 100000 in
theorem c_X2_inside_f (l : Launch) (g : bxG) (ad : bxA) (σ τ : bxS) (w : bxW) (x y z tx ty tz k : Int) (hRx : iR x) (hRy : iR y) (hRz : iR z) (hRtx : iR tx) (hRty : iR ty) (hRtz : iR tz) (hRk : iR k) (hBt : bx_B τ) (hM : bx_M τ) (hg : ¬ ((-2000 ≤ x ∧ x ≤ 2000 ∧ -2000 ≤ tx ∧ tx ≤ 2000 ∧ x < tx) ∧ (-2000 ≤ y ∧ y ≤ 2000 ∧ -2000 ≤ ty ∧ ty ≤ 2000 ∧ y < ty) ∧ (-2000 ≤ z ∧ z ≤ 2000 ∧ -2000 ≤ tz ∧ tz ≤ 2000 ∧ z < tz) ∧ 0 ≤ k)) : Met l yX2_inside wsX2_inside ({ frames := 2, cells := 0, slots := 0, locals := 53 }) (va_Pc [.ref (ad 7 0), .int (iI x), .int (iI y), .int (iI z), .int (iI tx), .int (iI ty), .int (iI tz), .int (iI k)] (fun U => bx_I g ad σ τ w U)) (bq_W (some (.int (iI 0))) g ad σ τ (w.1, 1)) 0 0 (bq_fr g) := by
  refine Met.ofW (cc := cX2_inside) (maxL := 12) (ret := (some .int)) (by decide) rfl ?_
  intro Pg Ev s mI args below meth cd s₁ B hml hv
  obtain ⟨rfl, hU, hK⟩ := hv
  have hx := B.exec
  have hb := B.bytes
  have hr := B.returns
  have hts := atoms_spec (ws := wsX2_inside) B.pre
  have hown : s.vm.findClass RX2 = some mI.cls := findClass_of_methodNamed B.named
  have hlocks := B.notSynchronized
  have hF : bx_F g s.heap s.heap := bx_F.rf
  have hlc : bx_Lc g [] := bx_Lc.nil
  have hl := lv_entry ([.ref (ad 7 0), .int (iI x), .int (iI y), .int (iI z), .int (iI tx), .int (iI ty), .int (iI tz), .int (iI k)]) (n := 12) (Nat.le_of_ble_eq_true rfl)
  rw [lg_entry_eq]
  generalize (lg_sl ([.ref (ad 7 0), .int (iI x), .int (iI y), .int (iI z), .int (iI tx), .int (iI ty), .int (iI tz), .int (iI k)]) ++ List.replicate (12 - (lg_sl ([.ref (ad 7 0), .int (iI x), .int (iI y), .int (iI z), .int (iI tx), .int (iI ty), .int (iI tz), .int (iI k)])).length) Slot.unset).toArray = ls at hl ⊢
  have hl : lv_has ls 12 [(0, .ref (ad 7 0)), (1, .int (iI x)), (2, .int (iI y)), (3, .int (iI z)), (4, .int (iI tx)), (5, .int (iI ty)), (6, .int (iI tz)), (7, .int (iI k))] := hl
  have hinX2 : ∀ w ∈ wsX20, w ∈ wsX2_inside := by decide +kernel
  have hRx0 : -2147483648 ≤ x ∧ x < 2147483648 := hRx
  have hRy0 : -2147483648 ≤ y ∧ y < 2147483648 := hRy
  have hRz0 : -2147483648 ≤ z ∧ z < 2147483648 := hRz
  have hRtx0 : -2147483648 ≤ tx ∧ tx < 2147483648 := hRtx
  have hRty0 : -2147483648 ≤ ty ∧ ty < 2147483648 := hRty
  have hRtz0 : -2147483648 ≤ tz ∧ tz < 2147483648 := hRtz
  have hRk0 : -2147483648 ≤ k ∧ k < 2147483648 := hRk
  have hm0 := bB0 hBt
  refine lv_aload_n hx hb dX2_inside_0 rfl (lv_at hl 0 rfl) ?_
  refine lv_iload_n hx hb dX2_inside_1 rfl (lv_at hl 1 rfl) ?_
  refine lv_iload hx hb dX2_inside_2 (lv_at hl 4 rfl) ?_
  refine bc_SB (As := [.int (iI x), .int (iI tx)]) (rest := [.ref (ad 7 0)]) ⟨hx, hb, hml, hown, hts⟩ (c_X2_isEnds l g ad σ τ w x tx (by unfold iR; omega) (by unfold iR; omega)) (va_cwS 2 hts gX2_inside_X2_isEnds rfl rfl rfl (by decide +kernel) ⟨Nat.le_of_ble_eq_true rfl, Nat.le_of_ble_eq_true rfl⟩) hK hU  rfl hl.1 rfl (Nat.le_of_ble_eq_true rfl) dX2_inside_4 ⟨Nat.le_of_ble_eq_true rfl, Nat.le_of_ble_eq_true rfl⟩ (fun h1 => ?_) (fun h1 => ?_)
  · refine li_if_eq (tgt := 33) hx hb (by unfold iR; omega) dX2_inside_7 (by decide) (fun h => absurd h (by decide)) (fun _ => ?_)
    refine lv_iload_n hx hb dX2_inside_10 rfl (lv_at hl 2 rfl) ?_
    refine lv_iload hx hb dX2_inside_11 (lv_at hl 5 rfl) ?_
    refine bc_SB (As := [.int (iI y), .int (iI ty)]) (rest := [.ref (ad 7 0)]) ⟨hx, hb, hml, hown, hts⟩ (c_X2_isEnds l g ad σ τ w y ty (by unfold iR; omega) (by unfold iR; omega)) (va_cwS 2 hts gX2_inside_X2_isEnds rfl rfl rfl (by decide +kernel) ⟨Nat.le_of_ble_eq_true rfl, Nat.le_of_ble_eq_true rfl⟩) hK hU  rfl hl.1 rfl (Nat.le_of_ble_eq_true rfl) dX2_inside_13 ⟨Nat.le_of_ble_eq_true rfl, Nat.le_of_ble_eq_true rfl⟩ (fun h2 => ?_) (fun h2 => ?_)
    · refine li_if_eq (tgt := 33) hx hb (by unfold iR; omega) dX2_inside_16 (by decide) (fun h => absurd h (by decide)) (fun _ => ?_)
      refine lv_iload_n hx hb dX2_inside_19 rfl (lv_at hl 3 rfl) ?_
      refine lv_iload hx hb dX2_inside_20 (lv_at hl 6 rfl) ?_
      refine bc_SB (As := [.int (iI z), .int (iI tz)]) (rest := [.ref (ad 7 0)]) ⟨hx, hb, hml, hown, hts⟩ (c_X2_isEnds l g ad σ τ w z tz (by unfold iR; omega) (by unfold iR; omega)) (va_cwS 2 hts gX2_inside_X2_isEnds rfl rfl rfl (by decide +kernel) ⟨Nat.le_of_ble_eq_true rfl, Nat.le_of_ble_eq_true rfl⟩) hK hU  rfl hl.1 rfl (Nat.le_of_ble_eq_true rfl) dX2_inside_22 ⟨Nat.le_of_ble_eq_true rfl, Nat.le_of_ble_eq_true rfl⟩ (fun h3 => ?_) (fun h3 => ?_)
      · refine li_if_eq (tgt := 33) hx hb (by unfold iR; omega) dX2_inside_25 (by decide) (fun h => absurd h (by decide)) (fun _ => ?_)
        refine lv_iload hx hb dX2_inside_28 (lv_at hl 7 rfl) ?_
        refine li_if_ge (tgt := 37) hx hb (by unfold iR; omega) dX2_inside_30 (by decide) (fun h4 => ?_) (fun h4 => ?_)
        · refine li_iconst hx hb dX2_inside_37 ?_
          exfalso
          omega
        · refine li_iconst hx hb dX2_inside_33 ?_
          refine lv_goto (tgt := 38) hx hb dX2_inside_34 (by decide) ?_
          refine bp_X2_code hx hb hts hinX2 hown hK hU hlc (hts (.fieldLink RX2 42 "ClashBoxesModel" "code" "I") (by decide +kernel)) dX2_inside_38 (fun H locs hU hF1 hlc => ?_)
          have hF := hF.tr hF1
          have hU : bx_U g ad σ τ (w.1, 1) H := hU
          refine lv_aload_n hx hb dX2_inside_41 rfl (lv_at hl 0 rfl) ?_
          refine bg_X2_code hx hb hts hinX2 hown hK hU (hts (.fieldLink RX2 42 "ClashBoxesModel" "code" "I") (by decide +kernel)) dX2_inside_42 ?_
          refine W.eq (g2 := F0 mI 45 ls [.int (iI 1)]) rfl ?_
          refine li_if_le (tgt := 50) hx hb (by unfold iR; omega) dX2_inside_45 (by decide) (fun h => absurd h (by decide)) (fun _ => ?_)
          refine li_iconst hx hb dX2_inside_48 ?_
          refine bw_i hx hb hr hlocks (by first | exact hU | simpa using hU) hF hlc ?_ dX2_inside_49
          rfl
      · refine li_if_eq (tgt := 33) hx hb (by unfold iR; omega) dX2_inside_25 (by decide) (fun _ => ?_) (fun h => absurd (by decide) h)
        refine li_iconst hx hb dX2_inside_33 ?_
        refine lv_goto (tgt := 38) hx hb dX2_inside_34 (by decide) ?_
        refine bp_X2_code hx hb hts hinX2 hown hK hU hlc (hts (.fieldLink RX2 42 "ClashBoxesModel" "code" "I") (by decide +kernel)) dX2_inside_38 (fun H locs hU hF1 hlc => ?_)
        have hF := hF.tr hF1
        have hU : bx_U g ad σ τ (w.1, 1) H := hU
        refine lv_aload_n hx hb dX2_inside_41 rfl (lv_at hl 0 rfl) ?_
        refine bg_X2_code hx hb hts hinX2 hown hK hU (hts (.fieldLink RX2 42 "ClashBoxesModel" "code" "I") (by decide +kernel)) dX2_inside_42 ?_
        refine W.eq (g2 := F0 mI 45 ls [.int (iI 1)]) rfl ?_
        refine li_if_le (tgt := 50) hx hb (by unfold iR; omega) dX2_inside_45 (by decide) (fun h => absurd h (by decide)) (fun _ => ?_)
        refine li_iconst hx hb dX2_inside_48 ?_
        refine bw_i hx hb hr hlocks (by first | exact hU | simpa using hU) hF hlc ?_ dX2_inside_49
        rfl
    · refine li_if_eq (tgt := 33) hx hb (by unfold iR; omega) dX2_inside_16 (by decide) (fun _ => ?_) (fun h => absurd (by decide) h)
      refine li_iconst hx hb dX2_inside_33 ?_
      refine lv_goto (tgt := 38) hx hb dX2_inside_34 (by decide) ?_
      refine bp_X2_code hx hb hts hinX2 hown hK hU hlc (hts (.fieldLink RX2 42 "ClashBoxesModel" "code" "I") (by decide +kernel)) dX2_inside_38 (fun H locs hU hF1 hlc => ?_)
      have hF := hF.tr hF1
      have hU : bx_U g ad σ τ (w.1, 1) H := hU
      refine lv_aload_n hx hb dX2_inside_41 rfl (lv_at hl 0 rfl) ?_
      refine bg_X2_code hx hb hts hinX2 hown hK hU (hts (.fieldLink RX2 42 "ClashBoxesModel" "code" "I") (by decide +kernel)) dX2_inside_42 ?_
      refine W.eq (g2 := F0 mI 45 ls [.int (iI 1)]) rfl ?_
      refine li_if_le (tgt := 50) hx hb (by unfold iR; omega) dX2_inside_45 (by decide) (fun h => absurd h (by decide)) (fun _ => ?_)
      refine li_iconst hx hb dX2_inside_48 ?_
      refine bw_i hx hb hr hlocks (by first | exact hU | simpa using hU) hF hlc ?_ dX2_inside_49
      rfl
  · refine li_if_eq (tgt := 33) hx hb (by unfold iR; omega) dX2_inside_7 (by decide) (fun _ => ?_) (fun h => absurd (by decide) h)
    refine li_iconst hx hb dX2_inside_33 ?_
    refine lv_goto (tgt := 38) hx hb dX2_inside_34 (by decide) ?_
    refine bp_X2_code hx hb hts hinX2 hown hK hU hlc (hts (.fieldLink RX2 42 "ClashBoxesModel" "code" "I") (by decide +kernel)) dX2_inside_38 (fun H locs hU hF1 hlc => ?_)
    have hF := hF.tr hF1
    have hU : bx_U g ad σ τ (w.1, 1) H := hU
    refine lv_aload_n hx hb dX2_inside_41 rfl (lv_at hl 0 rfl) ?_
    refine bg_X2_code hx hb hts hinX2 hown hK hU (hts (.fieldLink RX2 42 "ClashBoxesModel" "code" "I") (by decide +kernel)) dX2_inside_42 ?_
    refine W.eq (g2 := F0 mI 45 ls [.int (iI 1)]) rfl ?_
    refine li_if_le (tgt := 50) hx hb (by unfold iR; omega) dX2_inside_45 (by decide) (fun h => absurd h (by decide)) (fun _ => ?_)
    refine li_iconst hx hb dX2_inside_48 ?_
    refine bw_i hx hb hr hlocks (by first | exact hU | simpa using hU) hF hlc ?_ dX2_inside_49
    rfl
