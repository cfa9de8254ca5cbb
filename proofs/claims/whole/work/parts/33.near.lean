set_option maxHeartbeats 4000000 in
set_option maxRecDepth 100000 in
theorem c_X1_isNear (l : Launch) (g : bxG) (ad : bxA) (σ τ : bxS) (w : bxW) (p m0 q ax : Int) (hpp : 0 ≤ p ∧ p < 60 ∧ σ 2 p 0 ≠ 0) (hpq : 0 ≤ q ∧ q < 60 ∧ σ 2 q 0 ≠ 0) (hB : bx_B σ) (hxax : 0 ≤ ax ∧ ax < 3) (hm : 0 ≤ m0 ∧ m0 ≤ 50) : Met l yX1_isNear wsX1_isNear ({ frames := 2, cells := 0, slots := 0, locals := 45 }) (va_Pc [.ref (ad 20 p), .int (iI m0), .ref (ad 20 q), .int (iI ax)] (fun U => bx_I g ad σ τ w U)) (k2_QcV (.int (iI (zB (near σ p m0 q ax))))) 0 0 (fun _ => False) := by
  refine Met.ofW (cc := cX1_isNear) (maxL := 9) (ret := (some .boolean)) (by decide) rfl ?_
  intro Pg Ev s mI args below meth cd s₁ B hml hv
  obtain ⟨rfl, hU, hK⟩ := hv
  have hx := B.exec
  have hb := B.bytes
  have hr := B.returns
  have hts := atoms_spec (ws := wsX1_isNear) B.pre
  have hown : s.vm.findClass RX1 = some mI.cls := findClass_of_methodNamed B.named
  have hlocks := B.notSynchronized
  have hl := lv_entry ([.ref (ad 20 p), .int (iI m0), .ref (ad 20 q), .int (iI ax)]) (n := 9) (Nat.le_of_ble_eq_true rfl)
  rw [lg_entry_eq]
  generalize (lg_sl ([.ref (ad 20 p), .int (iI m0), .ref (ad 20 q), .int (iI ax)]) ++ List.replicate (9 - (lg_sl ([.ref (ad 20 p), .int (iI m0), .ref (ad 20 q), .int (iI ax)])).length) Slot.unset).toArray = ls at hl ⊢
  have hl : lv_has ls 9 [(0, .ref (ad 20 p)), (1, .int (iI m0)), (2, .ref (ad 20 q)), (3, .int (iI ax))] := hl
  have hinX0 : ∀ w ∈ wsX00, w ∈ wsX1_isNear := by decide +kernel
  rcases (by omega : ax = 0 ∨ ax = 1 ∨ ax = 2) with rfl | rfl | rfl
  · refine lv_aload_n hx hb dX1_isNear_0 rfl (lv_at hl 0 rfl) ?_
    refine bc_VB (As := []) (rest := []) (kd := 20) (k := p) (ci := 0) ⟨hx, hb, hml, hown, hts⟩ (c_X0_isTube l g ad σ τ w p hpp hB) (cwV 0 hts gX1_isNear_X0_isTube rfl rfl rfl (by decide +kernel) ⟨Nat.le_of_ble_eq_true rfl, Nat.le_of_ble_eq_true rfl⟩) hK hU (bx_Lp (by omega) (by omega) hpp) rfl rfl rfl hl.1 rfl (Nat.le_of_ble_eq_true rfl) dX1_isNear_1 ⟨Nat.zero_le _, Nat.zero_le _⟩ (fun h1 => ?_) (fun h1 => ?_)
    · refine li_if_eq (tgt := 11) hx hb (by unfold iR; omega) dX1_isNear_4 (by decide) (fun h => absurd h (by decide)) (fun _ => ?_)
      refine li_iconst hx hb dX1_isNear_7 ?_
      refine lv_goto (tgt := 12) hx hb dX1_isNear_8 (by decide) ?_
      refine lv_istore (lv' := [(4, .int (iI 0)), (0, .ref (ad 20 p)), (1, .int (iI m0)), (2, .ref (ad 20 q)), (3, .int (iI 0))]) hx hb dX1_isNear_12 hl (by decide) rfl (fun ls hl => ?_)
      refine lv_aload_n hx hb dX1_isNear_14 rfl (lv_at hl 1 rfl) ?_
      refine bg_X0_radius hx hb hts hinX0 hown hK hU hpp (hts (.fieldLink RX1 176 "ClashBoxes$Part" "radius" "I") (by decide +kernel)) dX1_isNear_15 ?_
      have b2 := bB6 hB hpp
      refine lv_aload_n hx hb dX1_isNear_18 rfl (lv_at hl 3 rfl) ?_
      refine bg_X0_radius hx hb hts hinX0 hown hK hU hpq (hts (.fieldLink RX1 176 "ClashBoxes$Part" "radius" "I") (by decide +kernel)) dX1_isNear_19 ?_
      have b3 := bB6 hB hpq
      refine li_iadd hx hb dX1_isNear_22 ?_
      refine lv_iload_n hx hb dX1_isNear_23 rfl (lv_at hl 2 rfl) ?_
      refine li_iadd hx hb dX1_isNear_24 ?_
      refine lv_iload hx hb dX1_isNear_25 (lv_at hl 0 rfl) ?_
      refine li_isub hx hb dX1_isNear_27 ?_
      refine lv_istore (lv' := [(5, .int (iI ((((σ 6 p 0) + (σ 6 q 0)) + m0) - 0))), (4, .int (iI 0)), (0, .ref (ad 20 p)), (1, .int (iI m0)), (2, .ref (ad 20 q)), (3, .int (iI 0))]) hx hb dX1_isNear_28 hl (by decide) rfl (fun ls hl => ?_)
      refine li_iconst hx hb dX1_isNear_30 ?_
      refine lv_istore (lv' := [(6, .int (iI 0)), (5, .int (iI ((((σ 6 p 0) + (σ 6 q 0)) + m0) - 0))), (4, .int (iI 0)), (0, .ref (ad 20 p)), (1, .int (iI m0)), (2, .ref (ad 20 q)), (3, .int (iI 0))]) hx hb dX1_isNear_31 hl (by decide) rfl (fun ls hl => ?_)
      refine li_iconst hx hb dX1_isNear_33 ?_
      refine lv_istore (lv' := [(7, .int (iI 0)), (6, .int (iI 0)), (5, .int (iI ((((σ 6 p 0) + (σ 6 q 0)) + m0) - 0))), (4, .int (iI 0)), (0, .ref (ad 20 p)), (1, .int (iI m0)), (2, .ref (ad 20 q)), (3, .int (iI 0))]) hx hb dX1_isNear_34 hl (by decide) rfl (fun ls hl => ?_)
      refine lv_iload hx hb dX1_isNear_36 (lv_at hl 0 rfl) ?_
      refine li_iconst hx hb dX1_isNear_38 ?_
      refine li_icmp_ge (tgt := 80) hx hb (by unfold iR; omega) (by unfold iR; omega) dX1_isNear_39 (by decide) (fun h => absurd h (by decide)) (fun _ => ?_)
      refine lv_iload hx hb dX1_isNear_42 (lv_at hl 0 rfl) ?_
      refine lv_iload_n hx hb dX1_isNear_44 rfl (lv_at hl 7 rfl) ?_
      refine li_icmp_eq (tgt := 74) hx hb (by unfold iR; omega) (by unfold iR; omega) dX1_isNear_45 (by decide) (fun _ => ?_) (fun h => absurd (by decide) h)
      refine li_iinc (k0 := 0) (lv' := [(7, .int (iI (0 + 1))), (6, .int (iI 0)), (5, .int (iI ((((σ 6 p 0) + (σ 6 q 0)) + m0) - 0))), (4, .int (iI 0)), (0, .ref (ad 20 p)), (1, .int (iI m0)), (2, .ref (ad 20 q)), (3, .int (iI 0))]) hx hb dX1_isNear_74 hl rfl (by decide) rfl (fun ls hl => ?_)
      have hl : lv_has ls 9 [(7, .int (iI 1)), (6, .int (iI 0)), (5, .int (iI ((((σ 6 p 0) + (σ 6 q 0)) + m0) - 0))), (4, .int (iI 0)), (0, .ref (ad 20 p)), (1, .int (iI m0)), (2, .ref (ad 20 q)), (3, .int (iI 0))] := hl
      refine lv_goto (tgt := 36) hx hb dX1_isNear_77 (by decide) ?_
      refine lv_iload hx hb dX1_isNear_36 (lv_at hl 0 rfl) ?_
      refine li_iconst hx hb dX1_isNear_38 ?_
      refine li_icmp_ge (tgt := 80) hx hb (by unfold iR; omega) (by unfold iR; omega) dX1_isNear_39 (by decide) (fun h => absurd h (by decide)) (fun _ => ?_)
      refine lv_iload hx hb dX1_isNear_42 (lv_at hl 0 rfl) ?_
      refine lv_iload_n hx hb dX1_isNear_44 rfl (lv_at hl 7 rfl) ?_
      refine li_icmp_eq (tgt := 74) hx hb (by unfold iR; omega) (by unfold iR; omega) dX1_isNear_45 (by decide) (fun h => absurd h (by decide)) (fun _ => ?_)
      refine li_iconst hx hb dX1_isNear_48 ?_
      refine lv_aload_n hx hb dX1_isNear_49 rfl (lv_at hl 4 rfl) ?_
      refine lv_aload_n hx hb dX1_isNear_50 rfl (lv_at hl 6 rfl) ?_
      refine lv_iload hx hb dX1_isNear_51 (lv_at hl 0 rfl) ?_
      refine bc_S (As := [.ref (ad 20 p), .ref (ad 20 q), .int (iI 1)]) (rest := [.int (iI 0)]) ⟨hx, hb, hml, hown, hts⟩ (c_X1_coreGap l g ad σ τ w p q 1 hpp hpq hB (by omega)) (va_cwS 3 hts gX1_isNear_X1_coreGap rfl rfl rfl (by decide +kernel) ⟨Nat.le_of_ble_eq_true rfl, Nat.le_of_ble_eq_true rfl⟩) hK hU  rfl hl.1 rfl (Nat.le_of_ble_eq_true rfl) dX1_isNear_53 ⟨Nat.zero_le _, Nat.zero_le _⟩ ?_
      have h4 := cgap_bd hB hpp hpq (a := 1) (by omega) (by omega)
      refine lv_iload hx hb dX1_isNear_56 (lv_at hl 3 rfl) ?_
      refine li_isub hx hb dX1_isNear_58 ?_
      refine li_mmax hx hb (hml.trans hl.1.symm) hown (hts (.methodLink RX1 112 Lib.Math.max.name) (by decide +kernel)) (hts (.static Lib.Math.max.name) (by decide +kernel)) (hts (.initialized "java/lang/Math") (by decide +kernel)) (hts _ (by exact by decide +kernel)) (Nat.le_of_ble_eq_true rfl) (Nat.le_of_ble_eq_true rfl) (Nat.zero_le _) (Nat.zero_le _) (by unfold iR; omega) (by unfold iR; omega) dX1_isNear_59 ?_
      refine lv_istore (lv' := [(8, .int (iI (max 0 ((cgap σ p q 1) - 0)))), (7, .int (iI 1)), (6, .int (iI 0)), (5, .int (iI ((((σ 6 p 0) + (σ 6 q 0)) + m0) - 0))), (4, .int (iI 0)), (0, .ref (ad 20 p)), (1, .int (iI m0)), (2, .ref (ad 20 q)), (3, .int (iI 0))]) hx hb dX1_isNear_62 hl (by decide) rfl (fun ls hl => ?_)
      have b5 := sq_bd (x := max 0 ((cgap σ p q 1) - 0)) (B := 1000) (by omega) (by omega)
      refine lv_iload hx hb dX1_isNear_64 (lv_at hl 2 rfl) ?_
      refine lv_iload hx hb dX1_isNear_66 (lv_at hl 0 rfl) ?_
      refine lv_iload hx hb dX1_isNear_68 (lv_at hl 0 rfl) ?_
      refine li_imul hx hb dX1_isNear_70 ?_
      refine li_iadd hx hb dX1_isNear_71 ?_
      refine lv_istore (lv' := [(6, .int (iI (0 + ((max 0 ((cgap σ p q 1) - 0)) * (max 0 ((cgap σ p q 1) - 0)))))), (8, .int (iI (max 0 ((cgap σ p q 1) - 0)))), (7, .int (iI 1)), (5, .int (iI ((((σ 6 p 0) + (σ 6 q 0)) + m0) - 0))), (4, .int (iI 0)), (0, .ref (ad 20 p)), (1, .int (iI m0)), (2, .ref (ad 20 q)), (3, .int (iI 0))]) hx hb dX1_isNear_72 hl (by decide) rfl (fun ls hl => ?_)
      refine li_iinc (k0 := 2) (lv' := [(7, .int (iI (1 + 1))), (6, .int (iI (0 + ((max 0 ((cgap σ p q 1) - 0)) * (max 0 ((cgap σ p q 1) - 0)))))), (8, .int (iI (max 0 ((cgap σ p q 1) - 0)))), (5, .int (iI ((((σ 6 p 0) + (σ 6 q 0)) + m0) - 0))), (4, .int (iI 0)), (0, .ref (ad 20 p)), (1, .int (iI m0)), (2, .ref (ad 20 q)), (3, .int (iI 0))]) hx hb dX1_isNear_74 hl rfl (by decide) rfl (fun ls hl => ?_)
      have hl : lv_has ls 9 [(7, .int (iI 2)), (6, .int (iI (0 + ((max 0 ((cgap σ p q 1) - 0)) * (max 0 ((cgap σ p q 1) - 0)))))), (8, .int (iI (max 0 ((cgap σ p q 1) - 0)))), (5, .int (iI ((((σ 6 p 0) + (σ 6 q 0)) + m0) - 0))), (4, .int (iI 0)), (0, .ref (ad 20 p)), (1, .int (iI m0)), (2, .ref (ad 20 q)), (3, .int (iI 0))] := hl
      refine lv_goto (tgt := 36) hx hb dX1_isNear_77 (by decide) ?_
      refine lv_iload hx hb dX1_isNear_36 (lv_at hl 0 rfl) ?_
      refine li_iconst hx hb dX1_isNear_38 ?_
      refine li_icmp_ge (tgt := 80) hx hb (by unfold iR; omega) (by unfold iR; omega) dX1_isNear_39 (by decide) (fun h => absurd h (by decide)) (fun _ => ?_)
      refine lv_iload hx hb dX1_isNear_42 (lv_at hl 0 rfl) ?_
      refine lv_iload_n hx hb dX1_isNear_44 rfl (lv_at hl 8 rfl) ?_
      refine li_icmp_eq (tgt := 74) hx hb (by unfold iR; omega) (by unfold iR; omega) dX1_isNear_45 (by decide) (fun h => absurd h (by decide)) (fun _ => ?_)
      refine li_iconst hx hb dX1_isNear_48 ?_
      refine lv_aload_n hx hb dX1_isNear_49 rfl (lv_at hl 5 rfl) ?_
      refine lv_aload_n hx hb dX1_isNear_50 rfl (lv_at hl 7 rfl) ?_
      refine lv_iload hx hb dX1_isNear_51 (lv_at hl 0 rfl) ?_
      refine bc_S (As := [.ref (ad 20 p), .ref (ad 20 q), .int (iI 2)]) (rest := [.int (iI 0)]) ⟨hx, hb, hml, hown, hts⟩ (c_X1_coreGap l g ad σ τ w p q 2 hpp hpq hB (by omega)) (va_cwS 3 hts gX1_isNear_X1_coreGap rfl rfl rfl (by decide +kernel) ⟨Nat.le_of_ble_eq_true rfl, Nat.le_of_ble_eq_true rfl⟩) hK hU  rfl hl.1 rfl (Nat.le_of_ble_eq_true rfl) dX1_isNear_53 ⟨Nat.zero_le _, Nat.zero_le _⟩ ?_
      have h6 := cgap_bd hB hpp hpq (a := 2) (by omega) (by omega)
      refine lv_iload hx hb dX1_isNear_56 (lv_at hl 4 rfl) ?_
      refine li_isub hx hb dX1_isNear_58 ?_
      refine li_mmax hx hb (hml.trans hl.1.symm) hown (hts (.methodLink RX1 112 Lib.Math.max.name) (by decide +kernel)) (hts (.static Lib.Math.max.name) (by decide +kernel)) (hts (.initialized "java/lang/Math") (by decide +kernel)) (hts _ (by exact by decide +kernel)) (Nat.le_of_ble_eq_true rfl) (Nat.le_of_ble_eq_true rfl) (Nat.zero_le _) (Nat.zero_le _) (by unfold iR; omega) (by unfold iR; omega) dX1_isNear_59 ?_
      refine lv_istore (lv' := [(8, .int (iI (max 0 ((cgap σ p q 2) - 0)))), (7, .int (iI 2)), (6, .int (iI (0 + ((max 0 ((cgap σ p q 1) - 0)) * (max 0 ((cgap σ p q 1) - 0)))))), (5, .int (iI ((((σ 6 p 0) + (σ 6 q 0)) + m0) - 0))), (4, .int (iI 0)), (0, .ref (ad 20 p)), (1, .int (iI m0)), (2, .ref (ad 20 q)), (3, .int (iI 0))]) hx hb dX1_isNear_62 hl (by decide) rfl (fun ls hl => ?_)
      have b7 := sq_bd (x := max 0 ((cgap σ p q 2) - 0)) (B := 1000) (by omega) (by omega)
      refine lv_iload hx hb dX1_isNear_64 (lv_at hl 2 rfl) ?_
      refine lv_iload hx hb dX1_isNear_66 (lv_at hl 0 rfl) ?_
      refine lv_iload hx hb dX1_isNear_68 (lv_at hl 0 rfl) ?_
      refine li_imul hx hb dX1_isNear_70 ?_
      refine li_iadd hx hb dX1_isNear_71 ?_
      refine lv_istore (lv' := [(6, .int (iI ((0 + ((max 0 ((cgap σ p q 1) - 0)) * (max 0 ((cgap σ p q 1) - 0)))) + ((max 0 ((cgap σ p q 2) - 0)) * (max 0 ((cgap σ p q 2) - 0)))))), (8, .int (iI (max 0 ((cgap σ p q 2) - 0)))), (7, .int (iI 2)), (5, .int (iI ((((σ 6 p 0) + (σ 6 q 0)) + m0) - 0))), (4, .int (iI 0)), (0, .ref (ad 20 p)), (1, .int (iI m0)), (2, .ref (ad 20 q)), (3, .int (iI 0))]) hx hb dX1_isNear_72 hl (by decide) rfl (fun ls hl => ?_)
      refine li_iinc (k0 := 2) (lv' := [(7, .int (iI (2 + 1))), (6, .int (iI ((0 + ((max 0 ((cgap σ p q 1) - 0)) * (max 0 ((cgap σ p q 1) - 0)))) + ((max 0 ((cgap σ p q 2) - 0)) * (max 0 ((cgap σ p q 2) - 0)))))), (8, .int (iI (max 0 ((cgap σ p q 2) - 0)))), (5, .int (iI ((((σ 6 p 0) + (σ 6 q 0)) + m0) - 0))), (4, .int (iI 0)), (0, .ref (ad 20 p)), (1, .int (iI m0)), (2, .ref (ad 20 q)), (3, .int (iI 0))]) hx hb dX1_isNear_74 hl rfl (by decide) rfl (fun ls hl => ?_)
      have hl : lv_has ls 9 [(7, .int (iI 3)), (6, .int (iI ((0 + ((max 0 ((cgap σ p q 1) - 0)) * (max 0 ((cgap σ p q 1) - 0)))) + ((max 0 ((cgap σ p q 2) - 0)) * (max 0 ((cgap σ p q 2) - 0)))))), (8, .int (iI (max 0 ((cgap σ p q 2) - 0)))), (5, .int (iI ((((σ 6 p 0) + (σ 6 q 0)) + m0) - 0))), (4, .int (iI 0)), (0, .ref (ad 20 p)), (1, .int (iI m0)), (2, .ref (ad 20 q)), (3, .int (iI 0))] := hl
      refine lv_goto (tgt := 36) hx hb dX1_isNear_77 (by decide) ?_
      refine lv_iload hx hb dX1_isNear_36 (lv_at hl 0 rfl) ?_
      refine li_iconst hx hb dX1_isNear_38 ?_
      refine li_icmp_ge (tgt := 80) hx hb (by unfold iR; omega) (by unfold iR; omega) dX1_isNear_39 (by decide) (fun _ => ?_) (fun h => absurd (by decide) h)
      have b8 := sq_bd (x := (((σ 6 p 0) + (σ 6 q 0)) + m0) - 0) (B := 450) (by omega) (by omega)
      refine lv_iload hx hb dX1_isNear_80 (lv_at hl 1 rfl) ?_
      refine lv_iload hx hb dX1_isNear_82 (lv_at hl 3 rfl) ?_
      refine lv_iload hx hb dX1_isNear_84 (lv_at hl 3 rfl) ?_
      refine li_imul hx hb dX1_isNear_86 ?_
      refine li_icmp_ge (tgt := 94) hx hb (by unfold iR; omega) (by unfold iR; omega) dX1_isNear_87 (by decide) (fun h9 => ?_) (fun h9 => ?_)
      · refine li_iconst hx hb dX1_isNear_94 ?_
        refine be_f hx hb hr hlocks ?_ dX1_isNear_95
        (have hcg : cgr σ p m0 = 0 := by unfold cgr; first | (rw [if_pos (by omega)]) | (rw [if_neg (by omega)])); (unfold near rch; rw [hcg]; unfold nsum gapc; rw [if_pos rfl, if_neg (by decide), if_neg (by decide)]; omega)
      · refine li_iconst hx hb dX1_isNear_90 ?_
        refine lv_goto (tgt := 95) hx hb dX1_isNear_91 (by decide) ?_
        refine be_t hx hb hr hlocks ?_ dX1_isNear_95
        (have hcg : cgr σ p m0 = 0 := by unfold cgr; first | (rw [if_pos (by omega)]) | (rw [if_neg (by omega)])); (unfold near rch; rw [hcg]; unfold nsum gapc; rw [if_pos rfl, if_neg (by decide), if_neg (by decide)]; omega)
    · refine li_if_eq (tgt := 11) hx hb (by unfold iR; omega) dX1_isNear_4 (by decide) (fun _ => ?_) (fun h => absurd (by decide) h)
      refine lv_iload_n hx hb dX1_isNear_11 rfl (lv_at hl 1 rfl) ?_
      refine lv_istore (lv' := [(4, .int (iI m0)), (0, .ref (ad 20 p)), (1, .int (iI m0)), (2, .ref (ad 20 q)), (3, .int (iI 0))]) hx hb dX1_isNear_12 hl (by decide) rfl (fun ls hl => ?_)
      refine lv_aload_n hx hb dX1_isNear_14 rfl (lv_at hl 1 rfl) ?_
      refine bg_X0_radius hx hb hts hinX0 hown hK hU hpp (hts (.fieldLink RX1 176 "ClashBoxes$Part" "radius" "I") (by decide +kernel)) dX1_isNear_15 ?_
      have b10 := bB6 hB hpp
      refine lv_aload_n hx hb dX1_isNear_18 rfl (lv_at hl 3 rfl) ?_
      refine bg_X0_radius hx hb hts hinX0 hown hK hU hpq (hts (.fieldLink RX1 176 "ClashBoxes$Part" "radius" "I") (by decide +kernel)) dX1_isNear_19 ?_
      have b11 := bB6 hB hpq
      refine li_iadd hx hb dX1_isNear_22 ?_
      refine lv_iload_n hx hb dX1_isNear_23 rfl (lv_at hl 2 rfl) ?_
      refine li_iadd hx hb dX1_isNear_24 ?_
      refine lv_iload hx hb dX1_isNear_25 (lv_at hl 0 rfl) ?_
      refine li_isub hx hb dX1_isNear_27 ?_
      refine lv_istore (lv' := [(5, .int (iI ((((σ 6 p 0) + (σ 6 q 0)) + m0) - m0))), (4, .int (iI m0)), (0, .ref (ad 20 p)), (1, .int (iI m0)), (2, .ref (ad 20 q)), (3, .int (iI 0))]) hx hb dX1_isNear_28 hl (by decide) rfl (fun ls hl => ?_)
      refine li_iconst hx hb dX1_isNear_30 ?_
      refine lv_istore (lv' := [(6, .int (iI 0)), (5, .int (iI ((((σ 6 p 0) + (σ 6 q 0)) + m0) - m0))), (4, .int (iI m0)), (0, .ref (ad 20 p)), (1, .int (iI m0)), (2, .ref (ad 20 q)), (3, .int (iI 0))]) hx hb dX1_isNear_31 hl (by decide) rfl (fun ls hl => ?_)
      refine li_iconst hx hb dX1_isNear_33 ?_
      refine lv_istore (lv' := [(7, .int (iI 0)), (6, .int (iI 0)), (5, .int (iI ((((σ 6 p 0) + (σ 6 q 0)) + m0) - m0))), (4, .int (iI m0)), (0, .ref (ad 20 p)), (1, .int (iI m0)), (2, .ref (ad 20 q)), (3, .int (iI 0))]) hx hb dX1_isNear_34 hl (by decide) rfl (fun ls hl => ?_)
      refine lv_iload hx hb dX1_isNear_36 (lv_at hl 0 rfl) ?_
      refine li_iconst hx hb dX1_isNear_38 ?_
      refine li_icmp_ge (tgt := 80) hx hb (by unfold iR; omega) (by unfold iR; omega) dX1_isNear_39 (by decide) (fun h => absurd h (by decide)) (fun _ => ?_)
      refine lv_iload hx hb dX1_isNear_42 (lv_at hl 0 rfl) ?_
      refine lv_iload_n hx hb dX1_isNear_44 rfl (lv_at hl 7 rfl) ?_
      refine li_icmp_eq (tgt := 74) hx hb (by unfold iR; omega) (by unfold iR; omega) dX1_isNear_45 (by decide) (fun _ => ?_) (fun h => absurd (by decide) h)
      refine li_iinc (k0 := 0) (lv' := [(7, .int (iI (0 + 1))), (6, .int (iI 0)), (5, .int (iI ((((σ 6 p 0) + (σ 6 q 0)) + m0) - m0))), (4, .int (iI m0)), (0, .ref (ad 20 p)), (1, .int (iI m0)), (2, .ref (ad 20 q)), (3, .int (iI 0))]) hx hb dX1_isNear_74 hl rfl (by decide) rfl (fun ls hl => ?_)
      have hl : lv_has ls 9 [(7, .int (iI 1)), (6, .int (iI 0)), (5, .int (iI ((((σ 6 p 0) + (σ 6 q 0)) + m0) - m0))), (4, .int (iI m0)), (0, .ref (ad 20 p)), (1, .int (iI m0)), (2, .ref (ad 20 q)), (3, .int (iI 0))] := hl
      refine lv_goto (tgt := 36) hx hb dX1_isNear_77 (by decide) ?_
      refine lv_iload hx hb dX1_isNear_36 (lv_at hl 0 rfl) ?_
      refine li_iconst hx hb dX1_isNear_38 ?_
      refine li_icmp_ge (tgt := 80) hx hb (by unfold iR; omega) (by unfold iR; omega) dX1_isNear_39 (by decide) (fun h => absurd h (by decide)) (fun _ => ?_)
      refine lv_iload hx hb dX1_isNear_42 (lv_at hl 0 rfl) ?_
      refine lv_iload_n hx hb dX1_isNear_44 rfl (lv_at hl 7 rfl) ?_
      refine li_icmp_eq (tgt := 74) hx hb (by unfold iR; omega) (by unfold iR; omega) dX1_isNear_45 (by decide) (fun h => absurd h (by decide)) (fun _ => ?_)
      refine li_iconst hx hb dX1_isNear_48 ?_
      refine lv_aload_n hx hb dX1_isNear_49 rfl (lv_at hl 4 rfl) ?_
      refine lv_aload_n hx hb dX1_isNear_50 rfl (lv_at hl 6 rfl) ?_
      refine lv_iload hx hb dX1_isNear_51 (lv_at hl 0 rfl) ?_
      refine bc_S (As := [.ref (ad 20 p), .ref (ad 20 q), .int (iI 1)]) (rest := [.int (iI 0)]) ⟨hx, hb, hml, hown, hts⟩ (c_X1_coreGap l g ad σ τ w p q 1 hpp hpq hB (by omega)) (va_cwS 3 hts gX1_isNear_X1_coreGap rfl rfl rfl (by decide +kernel) ⟨Nat.le_of_ble_eq_true rfl, Nat.le_of_ble_eq_true rfl⟩) hK hU  rfl hl.1 rfl (Nat.le_of_ble_eq_true rfl) dX1_isNear_53 ⟨Nat.zero_le _, Nat.zero_le _⟩ ?_
      have h12 := cgap_bd hB hpp hpq (a := 1) (by omega) (by omega)
      refine lv_iload hx hb dX1_isNear_56 (lv_at hl 3 rfl) ?_
      refine li_isub hx hb dX1_isNear_58 ?_
      refine li_mmax hx hb (hml.trans hl.1.symm) hown (hts (.methodLink RX1 112 Lib.Math.max.name) (by decide +kernel)) (hts (.static Lib.Math.max.name) (by decide +kernel)) (hts (.initialized "java/lang/Math") (by decide +kernel)) (hts _ (by exact by decide +kernel)) (Nat.le_of_ble_eq_true rfl) (Nat.le_of_ble_eq_true rfl) (Nat.zero_le _) (Nat.zero_le _) (by unfold iR; omega) (by unfold iR; omega) dX1_isNear_59 ?_
      refine lv_istore (lv' := [(8, .int (iI (max 0 ((cgap σ p q 1) - m0)))), (7, .int (iI 1)), (6, .int (iI 0)), (5, .int (iI ((((σ 6 p 0) + (σ 6 q 0)) + m0) - m0))), (4, .int (iI m0)), (0, .ref (ad 20 p)), (1, .int (iI m0)), (2, .ref (ad 20 q)), (3, .int (iI 0))]) hx hb dX1_isNear_62 hl (by decide) rfl (fun ls hl => ?_)
      have b13 := sq_bd (x := max 0 ((cgap σ p q 1) - m0)) (B := 1000) (by omega) (by omega)
      refine lv_iload hx hb dX1_isNear_64 (lv_at hl 2 rfl) ?_
      refine lv_iload hx hb dX1_isNear_66 (lv_at hl 0 rfl) ?_
      refine lv_iload hx hb dX1_isNear_68 (lv_at hl 0 rfl) ?_
      refine li_imul hx hb dX1_isNear_70 ?_
      refine li_iadd hx hb dX1_isNear_71 ?_
      refine lv_istore (lv' := [(6, .int (iI (0 + ((max 0 ((cgap σ p q 1) - m0)) * (max 0 ((cgap σ p q 1) - m0)))))), (8, .int (iI (max 0 ((cgap σ p q 1) - m0)))), (7, .int (iI 1)), (5, .int (iI ((((σ 6 p 0) + (σ 6 q 0)) + m0) - m0))), (4, .int (iI m0)), (0, .ref (ad 20 p)), (1, .int (iI m0)), (2, .ref (ad 20 q)), (3, .int (iI 0))]) hx hb dX1_isNear_72 hl (by decide) rfl (fun ls hl => ?_)
      refine li_iinc (k0 := 2) (lv' := [(7, .int (iI (1 + 1))), (6, .int (iI (0 + ((max 0 ((cgap σ p q 1) - m0)) * (max 0 ((cgap σ p q 1) - m0)))))), (8, .int (iI (max 0 ((cgap σ p q 1) - m0)))), (5, .int (iI ((((σ 6 p 0) + (σ 6 q 0)) + m0) - m0))), (4, .int (iI m0)), (0, .ref (ad 20 p)), (1, .int (iI m0)), (2, .ref (ad 20 q)), (3, .int (iI 0))]) hx hb dX1_isNear_74 hl rfl (by decide) rfl (fun ls hl => ?_)
      have hl : lv_has ls 9 [(7, .int (iI 2)), (6, .int (iI (0 + ((max 0 ((cgap σ p q 1) - m0)) * (max 0 ((cgap σ p q 1) - m0)))))), (8, .int (iI (max 0 ((cgap σ p q 1) - m0)))), (5, .int (iI ((((σ 6 p 0) + (σ 6 q 0)) + m0) - m0))), (4, .int (iI m0)), (0, .ref (ad 20 p)), (1, .int (iI m0)), (2, .ref (ad 20 q)), (3, .int (iI 0))] := hl
      refine lv_goto (tgt := 36) hx hb dX1_isNear_77 (by decide) ?_
      refine lv_iload hx hb dX1_isNear_36 (lv_at hl 0 rfl) ?_
      refine li_iconst hx hb dX1_isNear_38 ?_
      refine li_icmp_ge (tgt := 80) hx hb (by unfold iR; omega) (by unfold iR; omega) dX1_isNear_39 (by decide) (fun h => absurd h (by decide)) (fun _ => ?_)
      refine lv_iload hx hb dX1_isNear_42 (lv_at hl 0 rfl) ?_
      refine lv_iload_n hx hb dX1_isNear_44 rfl (lv_at hl 8 rfl) ?_
      refine li_icmp_eq (tgt := 74) hx hb (by unfold iR; omega) (by unfold iR; omega) dX1_isNear_45 (by decide) (fun h => absurd h (by decide)) (fun _ => ?_)
      refine li_iconst hx hb dX1_isNear_48 ?_
      refine lv_aload_n hx hb dX1_isNear_49 rfl (lv_at hl 5 rfl) ?_
      refine lv_aload_n hx hb dX1_isNear_50 rfl (lv_at hl 7 rfl) ?_
      refine lv_iload hx hb dX1_isNear_51 (lv_at hl 0 rfl) ?_
      refine bc_S (As := [.ref (ad 20 p), .ref (ad 20 q), .int (iI 2)]) (rest := [.int (iI 0)]) ⟨hx, hb, hml, hown, hts⟩ (c_X1_coreGap l g ad σ τ w p q 2 hpp hpq hB (by omega)) (va_cwS 3 hts gX1_isNear_X1_coreGap rfl rfl rfl (by decide +kernel) ⟨Nat.le_of_ble_eq_true rfl, Nat.le_of_ble_eq_true rfl⟩) hK hU  rfl hl.1 rfl (Nat.le_of_ble_eq_true rfl) dX1_isNear_53 ⟨Nat.zero_le _, Nat.zero_le _⟩ ?_
      have h14 := cgap_bd hB hpp hpq (a := 2) (by omega) (by omega)
      refine lv_iload hx hb dX1_isNear_56 (lv_at hl 4 rfl) ?_
      refine li_isub hx hb dX1_isNear_58 ?_
      refine li_mmax hx hb (hml.trans hl.1.symm) hown (hts (.methodLink RX1 112 Lib.Math.max.name) (by decide +kernel)) (hts (.static Lib.Math.max.name) (by decide +kernel)) (hts (.initialized "java/lang/Math") (by decide +kernel)) (hts _ (by exact by decide +kernel)) (Nat.le_of_ble_eq_true rfl) (Nat.le_of_ble_eq_true rfl) (Nat.zero_le _) (Nat.zero_le _) (by unfold iR; omega) (by unfold iR; omega) dX1_isNear_59 ?_
      refine lv_istore (lv' := [(8, .int (iI (max 0 ((cgap σ p q 2) - m0)))), (7, .int (iI 2)), (6, .int (iI (0 + ((max 0 ((cgap σ p q 1) - m0)) * (max 0 ((cgap σ p q 1) - m0)))))), (5, .int (iI ((((σ 6 p 0) + (σ 6 q 0)) + m0) - m0))), (4, .int (iI m0)), (0, .ref (ad 20 p)), (1, .int (iI m0)), (2, .ref (ad 20 q)), (3, .int (iI 0))]) hx hb dX1_isNear_62 hl (by decide) rfl (fun ls hl => ?_)
      have b15 := sq_bd (x := max 0 ((cgap σ p q 2) - m0)) (B := 1000) (by omega) (by omega)
      refine lv_iload hx hb dX1_isNear_64 (lv_at hl 2 rfl) ?_
      refine lv_iload hx hb dX1_isNear_66 (lv_at hl 0 rfl) ?_
      refine lv_iload hx hb dX1_isNear_68 (lv_at hl 0 rfl) ?_
      refine li_imul hx hb dX1_isNear_70 ?_
      refine li_iadd hx hb dX1_isNear_71 ?_
      refine lv_istore (lv' := [(6, .int (iI ((0 + ((max 0 ((cgap σ p q 1) - m0)) * (max 0 ((cgap σ p q 1) - m0)))) + ((max 0 ((cgap σ p q 2) - m0)) * (max 0 ((cgap σ p q 2) - m0)))))), (8, .int (iI (max 0 ((cgap σ p q 2) - m0)))), (7, .int (iI 2)), (5, .int (iI ((((σ 6 p 0) + (σ 6 q 0)) + m0) - m0))), (4, .int (iI m0)), (0, .ref (ad 20 p)), (1, .int (iI m0)), (2, .ref (ad 20 q)), (3, .int (iI 0))]) hx hb dX1_isNear_72 hl (by decide) rfl (fun ls hl => ?_)
      refine li_iinc (k0 := 2) (lv' := [(7, .int (iI (2 + 1))), (6, .int (iI ((0 + ((max 0 ((cgap σ p q 1) - m0)) * (max 0 ((cgap σ p q 1) - m0)))) + ((max 0 ((cgap σ p q 2) - m0)) * (max 0 ((cgap σ p q 2) - m0)))))), (8, .int (iI (max 0 ((cgap σ p q 2) - m0)))), (5, .int (iI ((((σ 6 p 0) + (σ 6 q 0)) + m0) - m0))), (4, .int (iI m0)), (0, .ref (ad 20 p)), (1, .int (iI m0)), (2, .ref (ad 20 q)), (3, .int (iI 0))]) hx hb dX1_isNear_74 hl rfl (by decide) rfl (fun ls hl => ?_)
      have hl : lv_has ls 9 [(7, .int (iI 3)), (6, .int (iI ((0 + ((max 0 ((cgap σ p q 1) - m0)) * (max 0 ((cgap σ p q 1) - m0)))) + ((max 0 ((cgap σ p q 2) - m0)) * (max 0 ((cgap σ p q 2) - m0)))))), (8, .int (iI (max 0 ((cgap σ p q 2) - m0)))), (5, .int (iI ((((σ 6 p 0) + (σ 6 q 0)) + m0) - m0))), (4, .int (iI m0)), (0, .ref (ad 20 p)), (1, .int (iI m0)), (2, .ref (ad 20 q)), (3, .int (iI 0))] := hl
      refine lv_goto (tgt := 36) hx hb dX1_isNear_77 (by decide) ?_
      refine lv_iload hx hb dX1_isNear_36 (lv_at hl 0 rfl) ?_
      refine li_iconst hx hb dX1_isNear_38 ?_
      refine li_icmp_ge (tgt := 80) hx hb (by unfold iR; omega) (by unfold iR; omega) dX1_isNear_39 (by decide) (fun _ => ?_) (fun h => absurd (by decide) h)
      have b16 := sq_bd (x := (((σ 6 p 0) + (σ 6 q 0)) + m0) - m0) (B := 450) (by omega) (by omega)
      refine lv_iload hx hb dX1_isNear_80 (lv_at hl 1 rfl) ?_
      refine lv_iload hx hb dX1_isNear_82 (lv_at hl 3 rfl) ?_
      refine lv_iload hx hb dX1_isNear_84 (lv_at hl 3 rfl) ?_
      refine li_imul hx hb dX1_isNear_86 ?_
      refine li_icmp_ge (tgt := 94) hx hb (by unfold iR; omega) (by unfold iR; omega) dX1_isNear_87 (by decide) (fun h17 => ?_) (fun h17 => ?_)
      · refine li_iconst hx hb dX1_isNear_94 ?_
        refine be_f hx hb hr hlocks ?_ dX1_isNear_95
        (have hcg : cgr σ p m0 = m0 := by unfold cgr; first | (rw [if_pos (by omega)]) | (rw [if_neg (by omega)])); (unfold near rch; rw [hcg]; unfold nsum gapc; rw [if_pos rfl, if_neg (by decide), if_neg (by decide)]; omega)
      · refine li_iconst hx hb dX1_isNear_90 ?_
        refine lv_goto (tgt := 95) hx hb dX1_isNear_91 (by decide) ?_
        refine be_t hx hb hr hlocks ?_ dX1_isNear_95
        (have hcg : cgr σ p m0 = m0 := by unfold cgr; first | (rw [if_pos (by omega)]) | (rw [if_neg (by omega)])); (unfold near rch; rw [hcg]; unfold nsum gapc; rw [if_pos rfl, if_neg (by decide), if_neg (by decide)]; omega)
  · refine lv_aload_n hx hb dX1_isNear_0 rfl (lv_at hl 0 rfl) ?_
    refine bc_VB (As := []) (rest := []) (kd := 20) (k := p) (ci := 0) ⟨hx, hb, hml, hown, hts⟩ (c_X0_isTube l g ad σ τ w p hpp hB) (cwV 0 hts gX1_isNear_X0_isTube rfl rfl rfl (by decide +kernel) ⟨Nat.le_of_ble_eq_true rfl, Nat.le_of_ble_eq_true rfl⟩) hK hU (bx_Lp (by omega) (by omega) hpp) rfl rfl rfl hl.1 rfl (Nat.le_of_ble_eq_true rfl) dX1_isNear_1 ⟨Nat.zero_le _, Nat.zero_le _⟩ (fun h18 => ?_) (fun h18 => ?_)
    · refine li_if_eq (tgt := 11) hx hb (by unfold iR; omega) dX1_isNear_4 (by decide) (fun h => absurd h (by decide)) (fun _ => ?_)
      refine li_iconst hx hb dX1_isNear_7 ?_
      refine lv_goto (tgt := 12) hx hb dX1_isNear_8 (by decide) ?_
      refine lv_istore (lv' := [(4, .int (iI 0)), (0, .ref (ad 20 p)), (1, .int (iI m0)), (2, .ref (ad 20 q)), (3, .int (iI 1))]) hx hb dX1_isNear_12 hl (by decide) rfl (fun ls hl => ?_)
      refine lv_aload_n hx hb dX1_isNear_14 rfl (lv_at hl 1 rfl) ?_
      refine bg_X0_radius hx hb hts hinX0 hown hK hU hpp (hts (.fieldLink RX1 176 "ClashBoxes$Part" "radius" "I") (by decide +kernel)) dX1_isNear_15 ?_
      have b19 := bB6 hB hpp
      refine lv_aload_n hx hb dX1_isNear_18 rfl (lv_at hl 3 rfl) ?_
      refine bg_X0_radius hx hb hts hinX0 hown hK hU hpq (hts (.fieldLink RX1 176 "ClashBoxes$Part" "radius" "I") (by decide +kernel)) dX1_isNear_19 ?_
      have b20 := bB6 hB hpq
      refine li_iadd hx hb dX1_isNear_22 ?_
      refine lv_iload_n hx hb dX1_isNear_23 rfl (lv_at hl 2 rfl) ?_
      refine li_iadd hx hb dX1_isNear_24 ?_
      refine lv_iload hx hb dX1_isNear_25 (lv_at hl 0 rfl) ?_
      refine li_isub hx hb dX1_isNear_27 ?_
      refine lv_istore (lv' := [(5, .int (iI ((((σ 6 p 0) + (σ 6 q 0)) + m0) - 0))), (4, .int (iI 0)), (0, .ref (ad 20 p)), (1, .int (iI m0)), (2, .ref (ad 20 q)), (3, .int (iI 1))]) hx hb dX1_isNear_28 hl (by decide) rfl (fun ls hl => ?_)
      refine li_iconst hx hb dX1_isNear_30 ?_
      refine lv_istore (lv' := [(6, .int (iI 0)), (5, .int (iI ((((σ 6 p 0) + (σ 6 q 0)) + m0) - 0))), (4, .int (iI 0)), (0, .ref (ad 20 p)), (1, .int (iI m0)), (2, .ref (ad 20 q)), (3, .int (iI 1))]) hx hb dX1_isNear_31 hl (by decide) rfl (fun ls hl => ?_)
      refine li_iconst hx hb dX1_isNear_33 ?_
      refine lv_istore (lv' := [(7, .int (iI 0)), (6, .int (iI 0)), (5, .int (iI ((((σ 6 p 0) + (σ 6 q 0)) + m0) - 0))), (4, .int (iI 0)), (0, .ref (ad 20 p)), (1, .int (iI m0)), (2, .ref (ad 20 q)), (3, .int (iI 1))]) hx hb dX1_isNear_34 hl (by decide) rfl (fun ls hl => ?_)
      refine lv_iload hx hb dX1_isNear_36 (lv_at hl 0 rfl) ?_
      refine li_iconst hx hb dX1_isNear_38 ?_
      refine li_icmp_ge (tgt := 80) hx hb (by unfold iR; omega) (by unfold iR; omega) dX1_isNear_39 (by decide) (fun h => absurd h (by decide)) (fun _ => ?_)
      refine lv_iload hx hb dX1_isNear_42 (lv_at hl 0 rfl) ?_
      refine lv_iload_n hx hb dX1_isNear_44 rfl (lv_at hl 7 rfl) ?_
      refine li_icmp_eq (tgt := 74) hx hb (by unfold iR; omega) (by unfold iR; omega) dX1_isNear_45 (by decide) (fun h => absurd h (by decide)) (fun _ => ?_)
      refine li_iconst hx hb dX1_isNear_48 ?_
      refine lv_aload_n hx hb dX1_isNear_49 rfl (lv_at hl 4 rfl) ?_
      refine lv_aload_n hx hb dX1_isNear_50 rfl (lv_at hl 6 rfl) ?_
      refine lv_iload hx hb dX1_isNear_51 (lv_at hl 0 rfl) ?_
      refine bc_S (As := [.ref (ad 20 p), .ref (ad 20 q), .int (iI 0)]) (rest := [.int (iI 0)]) ⟨hx, hb, hml, hown, hts⟩ (c_X1_coreGap l g ad σ τ w p q 0 hpp hpq hB (by omega)) (va_cwS 3 hts gX1_isNear_X1_coreGap rfl rfl rfl (by decide +kernel) ⟨Nat.le_of_ble_eq_true rfl, Nat.le_of_ble_eq_true rfl⟩) hK hU  rfl hl.1 rfl (Nat.le_of_ble_eq_true rfl) dX1_isNear_53 ⟨Nat.zero_le _, Nat.zero_le _⟩ ?_
      have h21 := cgap_bd hB hpp hpq (a := 0) (by omega) (by omega)
      refine lv_iload hx hb dX1_isNear_56 (lv_at hl 3 rfl) ?_
      refine li_isub hx hb dX1_isNear_58 ?_
      refine li_mmax hx hb (hml.trans hl.1.symm) hown (hts (.methodLink RX1 112 Lib.Math.max.name) (by decide +kernel)) (hts (.static Lib.Math.max.name) (by decide +kernel)) (hts (.initialized "java/lang/Math") (by decide +kernel)) (hts _ (by exact by decide +kernel)) (Nat.le_of_ble_eq_true rfl) (Nat.le_of_ble_eq_true rfl) (Nat.zero_le _) (Nat.zero_le _) (by unfold iR; omega) (by unfold iR; omega) dX1_isNear_59 ?_
      refine lv_istore (lv' := [(8, .int (iI (max 0 ((cgap σ p q 0) - 0)))), (7, .int (iI 0)), (6, .int (iI 0)), (5, .int (iI ((((σ 6 p 0) + (σ 6 q 0)) + m0) - 0))), (4, .int (iI 0)), (0, .ref (ad 20 p)), (1, .int (iI m0)), (2, .ref (ad 20 q)), (3, .int (iI 1))]) hx hb dX1_isNear_62 hl (by decide) rfl (fun ls hl => ?_)
      have b22 := sq_bd (x := max 0 ((cgap σ p q 0) - 0)) (B := 1000) (by omega) (by omega)
      refine lv_iload hx hb dX1_isNear_64 (lv_at hl 2 rfl) ?_
      refine lv_iload hx hb dX1_isNear_66 (lv_at hl 0 rfl) ?_
      refine lv_iload hx hb dX1_isNear_68 (lv_at hl 0 rfl) ?_
      refine li_imul hx hb dX1_isNear_70 ?_
      refine li_iadd hx hb dX1_isNear_71 ?_
      refine lv_istore (lv' := [(6, .int (iI (0 + ((max 0 ((cgap σ p q 0) - 0)) * (max 0 ((cgap σ p q 0) - 0)))))), (8, .int (iI (max 0 ((cgap σ p q 0) - 0)))), (7, .int (iI 0)), (5, .int (iI ((((σ 6 p 0) + (σ 6 q 0)) + m0) - 0))), (4, .int (iI 0)), (0, .ref (ad 20 p)), (1, .int (iI m0)), (2, .ref (ad 20 q)), (3, .int (iI 1))]) hx hb dX1_isNear_72 hl (by decide) rfl (fun ls hl => ?_)
      refine li_iinc (k0 := 2) (lv' := [(7, .int (iI (0 + 1))), (6, .int (iI (0 + ((max 0 ((cgap σ p q 0) - 0)) * (max 0 ((cgap σ p q 0) - 0)))))), (8, .int (iI (max 0 ((cgap σ p q 0) - 0)))), (5, .int (iI ((((σ 6 p 0) + (σ 6 q 0)) + m0) - 0))), (4, .int (iI 0)), (0, .ref (ad 20 p)), (1, .int (iI m0)), (2, .ref (ad 20 q)), (3, .int (iI 1))]) hx hb dX1_isNear_74 hl rfl (by decide) rfl (fun ls hl => ?_)
      have hl : lv_has ls 9 [(7, .int (iI 1)), (6, .int (iI (0 + ((max 0 ((cgap σ p q 0) - 0)) * (max 0 ((cgap σ p q 0) - 0)))))), (8, .int (iI (max 0 ((cgap σ p q 0) - 0)))), (5, .int (iI ((((σ 6 p 0) + (σ 6 q 0)) + m0) - 0))), (4, .int (iI 0)), (0, .ref (ad 20 p)), (1, .int (iI m0)), (2, .ref (ad 20 q)), (3, .int (iI 1))] := hl
      refine lv_goto (tgt := 36) hx hb dX1_isNear_77 (by decide) ?_
      refine lv_iload hx hb dX1_isNear_36 (lv_at hl 0 rfl) ?_
      refine li_iconst hx hb dX1_isNear_38 ?_
      refine li_icmp_ge (tgt := 80) hx hb (by unfold iR; omega) (by unfold iR; omega) dX1_isNear_39 (by decide) (fun h => absurd h (by decide)) (fun _ => ?_)
      refine lv_iload hx hb dX1_isNear_42 (lv_at hl 0 rfl) ?_
      refine lv_iload_n hx hb dX1_isNear_44 rfl (lv_at hl 8 rfl) ?_
      refine li_icmp_eq (tgt := 74) hx hb (by unfold iR; omega) (by unfold iR; omega) dX1_isNear_45 (by decide) (fun _ => ?_) (fun h => absurd (by decide) h)
      refine li_iinc (k0 := 0) (lv' := [(7, .int (iI (1 + 1))), (6, .int (iI (0 + ((max 0 ((cgap σ p q 0) - 0)) * (max 0 ((cgap σ p q 0) - 0)))))), (8, .int (iI (max 0 ((cgap σ p q 0) - 0)))), (5, .int (iI ((((σ 6 p 0) + (σ 6 q 0)) + m0) - 0))), (4, .int (iI 0)), (0, .ref (ad 20 p)), (1, .int (iI m0)), (2, .ref (ad 20 q)), (3, .int (iI 1))]) hx hb dX1_isNear_74 hl rfl (by decide) rfl (fun ls hl => ?_)
      have hl : lv_has ls 9 [(7, .int (iI 2)), (6, .int (iI (0 + ((max 0 ((cgap σ p q 0) - 0)) * (max 0 ((cgap σ p q 0) - 0)))))), (8, .int (iI (max 0 ((cgap σ p q 0) - 0)))), (5, .int (iI ((((σ 6 p 0) + (σ 6 q 0)) + m0) - 0))), (4, .int (iI 0)), (0, .ref (ad 20 p)), (1, .int (iI m0)), (2, .ref (ad 20 q)), (3, .int (iI 1))] := hl
      refine lv_goto (tgt := 36) hx hb dX1_isNear_77 (by decide) ?_
      refine lv_iload hx hb dX1_isNear_36 (lv_at hl 0 rfl) ?_
      refine li_iconst hx hb dX1_isNear_38 ?_
      refine li_icmp_ge (tgt := 80) hx hb (by unfold iR; omega) (by unfold iR; omega) dX1_isNear_39 (by decide) (fun h => absurd h (by decide)) (fun _ => ?_)
      refine lv_iload hx hb dX1_isNear_42 (lv_at hl 0 rfl) ?_
      refine lv_iload_n hx hb dX1_isNear_44 rfl (lv_at hl 8 rfl) ?_
      refine li_icmp_eq (tgt := 74) hx hb (by unfold iR; omega) (by unfold iR; omega) dX1_isNear_45 (by decide) (fun h => absurd h (by decide)) (fun _ => ?_)
      refine li_iconst hx hb dX1_isNear_48 ?_
      refine lv_aload_n hx hb dX1_isNear_49 rfl (lv_at hl 5 rfl) ?_
      refine lv_aload_n hx hb dX1_isNear_50 rfl (lv_at hl 7 rfl) ?_
      refine lv_iload hx hb dX1_isNear_51 (lv_at hl 0 rfl) ?_
      refine bc_S (As := [.ref (ad 20 p), .ref (ad 20 q), .int (iI 2)]) (rest := [.int (iI 0)]) ⟨hx, hb, hml, hown, hts⟩ (c_X1_coreGap l g ad σ τ w p q 2 hpp hpq hB (by omega)) (va_cwS 3 hts gX1_isNear_X1_coreGap rfl rfl rfl (by decide +kernel) ⟨Nat.le_of_ble_eq_true rfl, Nat.le_of_ble_eq_true rfl⟩) hK hU  rfl hl.1 rfl (Nat.le_of_ble_eq_true rfl) dX1_isNear_53 ⟨Nat.zero_le _, Nat.zero_le _⟩ ?_
      have h23 := cgap_bd hB hpp hpq (a := 2) (by omega) (by omega)
      refine lv_iload hx hb dX1_isNear_56 (lv_at hl 4 rfl) ?_
      refine li_isub hx hb dX1_isNear_58 ?_
      refine li_mmax hx hb (hml.trans hl.1.symm) hown (hts (.methodLink RX1 112 Lib.Math.max.name) (by decide +kernel)) (hts (.static Lib.Math.max.name) (by decide +kernel)) (hts (.initialized "java/lang/Math") (by decide +kernel)) (hts _ (by exact by decide +kernel)) (Nat.le_of_ble_eq_true rfl) (Nat.le_of_ble_eq_true rfl) (Nat.zero_le _) (Nat.zero_le _) (by unfold iR; omega) (by unfold iR; omega) dX1_isNear_59 ?_
      refine lv_istore (lv' := [(8, .int (iI (max 0 ((cgap σ p q 2) - 0)))), (7, .int (iI 2)), (6, .int (iI (0 + ((max 0 ((cgap σ p q 0) - 0)) * (max 0 ((cgap σ p q 0) - 0)))))), (5, .int (iI ((((σ 6 p 0) + (σ 6 q 0)) + m0) - 0))), (4, .int (iI 0)), (0, .ref (ad 20 p)), (1, .int (iI m0)), (2, .ref (ad 20 q)), (3, .int (iI 1))]) hx hb dX1_isNear_62 hl (by decide) rfl (fun ls hl => ?_)
      have b24 := sq_bd (x := max 0 ((cgap σ p q 2) - 0)) (B := 1000) (by omega) (by omega)
      refine lv_iload hx hb dX1_isNear_64 (lv_at hl 2 rfl) ?_
      refine lv_iload hx hb dX1_isNear_66 (lv_at hl 0 rfl) ?_
      refine lv_iload hx hb dX1_isNear_68 (lv_at hl 0 rfl) ?_
      refine li_imul hx hb dX1_isNear_70 ?_
      refine li_iadd hx hb dX1_isNear_71 ?_
      refine lv_istore (lv' := [(6, .int (iI ((0 + ((max 0 ((cgap σ p q 0) - 0)) * (max 0 ((cgap σ p q 0) - 0)))) + ((max 0 ((cgap σ p q 2) - 0)) * (max 0 ((cgap σ p q 2) - 0)))))), (8, .int (iI (max 0 ((cgap σ p q 2) - 0)))), (7, .int (iI 2)), (5, .int (iI ((((σ 6 p 0) + (σ 6 q 0)) + m0) - 0))), (4, .int (iI 0)), (0, .ref (ad 20 p)), (1, .int (iI m0)), (2, .ref (ad 20 q)), (3, .int (iI 1))]) hx hb dX1_isNear_72 hl (by decide) rfl (fun ls hl => ?_)
      refine li_iinc (k0 := 2) (lv' := [(7, .int (iI (2 + 1))), (6, .int (iI ((0 + ((max 0 ((cgap σ p q 0) - 0)) * (max 0 ((cgap σ p q 0) - 0)))) + ((max 0 ((cgap σ p q 2) - 0)) * (max 0 ((cgap σ p q 2) - 0)))))), (8, .int (iI (max 0 ((cgap σ p q 2) - 0)))), (5, .int (iI ((((σ 6 p 0) + (σ 6 q 0)) + m0) - 0))), (4, .int (iI 0)), (0, .ref (ad 20 p)), (1, .int (iI m0)), (2, .ref (ad 20 q)), (3, .int (iI 1))]) hx hb dX1_isNear_74 hl rfl (by decide) rfl (fun ls hl => ?_)
      have hl : lv_has ls 9 [(7, .int (iI 3)), (6, .int (iI ((0 + ((max 0 ((cgap σ p q 0) - 0)) * (max 0 ((cgap σ p q 0) - 0)))) + ((max 0 ((cgap σ p q 2) - 0)) * (max 0 ((cgap σ p q 2) - 0)))))), (8, .int (iI (max 0 ((cgap σ p q 2) - 0)))), (5, .int (iI ((((σ 6 p 0) + (σ 6 q 0)) + m0) - 0))), (4, .int (iI 0)), (0, .ref (ad 20 p)), (1, .int (iI m0)), (2, .ref (ad 20 q)), (3, .int (iI 1))] := hl
      refine lv_goto (tgt := 36) hx hb dX1_isNear_77 (by decide) ?_
      refine lv_iload hx hb dX1_isNear_36 (lv_at hl 0 rfl) ?_
      refine li_iconst hx hb dX1_isNear_38 ?_
      refine li_icmp_ge (tgt := 80) hx hb (by unfold iR; omega) (by unfold iR; omega) dX1_isNear_39 (by decide) (fun _ => ?_) (fun h => absurd (by decide) h)
      have b25 := sq_bd (x := (((σ 6 p 0) + (σ 6 q 0)) + m0) - 0) (B := 450) (by omega) (by omega)
      refine lv_iload hx hb dX1_isNear_80 (lv_at hl 1 rfl) ?_
      refine lv_iload hx hb dX1_isNear_82 (lv_at hl 3 rfl) ?_
      refine lv_iload hx hb dX1_isNear_84 (lv_at hl 3 rfl) ?_
      refine li_imul hx hb dX1_isNear_86 ?_
      refine li_icmp_ge (tgt := 94) hx hb (by unfold iR; omega) (by unfold iR; omega) dX1_isNear_87 (by decide) (fun h26 => ?_) (fun h26 => ?_)
      · refine li_iconst hx hb dX1_isNear_94 ?_
        refine be_f hx hb hr hlocks ?_ dX1_isNear_95
        (have hcg : cgr σ p m0 = 0 := by unfold cgr; first | (rw [if_pos (by omega)]) | (rw [if_neg (by omega)])); (unfold near rch; rw [hcg]; unfold nsum gapc; rw [if_neg (by decide), if_pos rfl, if_neg (by decide)]; omega)
      · refine li_iconst hx hb dX1_isNear_90 ?_
        refine lv_goto (tgt := 95) hx hb dX1_isNear_91 (by decide) ?_
        refine be_t hx hb hr hlocks ?_ dX1_isNear_95
        (have hcg : cgr σ p m0 = 0 := by unfold cgr; first | (rw [if_pos (by omega)]) | (rw [if_neg (by omega)])); (unfold near rch; rw [hcg]; unfold nsum gapc; rw [if_neg (by decide), if_pos rfl, if_neg (by decide)]; omega)
    · refine li_if_eq (tgt := 11) hx hb (by unfold iR; omega) dX1_isNear_4 (by decide) (fun _ => ?_) (fun h => absurd (by decide) h)
      refine lv_iload_n hx hb dX1_isNear_11 rfl (lv_at hl 1 rfl) ?_
      refine lv_istore (lv' := [(4, .int (iI m0)), (0, .ref (ad 20 p)), (1, .int (iI m0)), (2, .ref (ad 20 q)), (3, .int (iI 1))]) hx hb dX1_isNear_12 hl (by decide) rfl (fun ls hl => ?_)
      refine lv_aload_n hx hb dX1_isNear_14 rfl (lv_at hl 1 rfl) ?_
      refine bg_X0_radius hx hb hts hinX0 hown hK hU hpp (hts (.fieldLink RX1 176 "ClashBoxes$Part" "radius" "I") (by decide +kernel)) dX1_isNear_15 ?_
      have b27 := bB6 hB hpp
      refine lv_aload_n hx hb dX1_isNear_18 rfl (lv_at hl 3 rfl) ?_
      refine bg_X0_radius hx hb hts hinX0 hown hK hU hpq (hts (.fieldLink RX1 176 "ClashBoxes$Part" "radius" "I") (by decide +kernel)) dX1_isNear_19 ?_
      have b28 := bB6 hB hpq
      refine li_iadd hx hb dX1_isNear_22 ?_
      refine lv_iload_n hx hb dX1_isNear_23 rfl (lv_at hl 2 rfl) ?_
      refine li_iadd hx hb dX1_isNear_24 ?_
      refine lv_iload hx hb dX1_isNear_25 (lv_at hl 0 rfl) ?_
      refine li_isub hx hb dX1_isNear_27 ?_
      refine lv_istore (lv' := [(5, .int (iI ((((σ 6 p 0) + (σ 6 q 0)) + m0) - m0))), (4, .int (iI m0)), (0, .ref (ad 20 p)), (1, .int (iI m0)), (2, .ref (ad 20 q)), (3, .int (iI 1))]) hx hb dX1_isNear_28 hl (by decide) rfl (fun ls hl => ?_)
      refine li_iconst hx hb dX1_isNear_30 ?_
      refine lv_istore (lv' := [(6, .int (iI 0)), (5, .int (iI ((((σ 6 p 0) + (σ 6 q 0)) + m0) - m0))), (4, .int (iI m0)), (0, .ref (ad 20 p)), (1, .int (iI m0)), (2, .ref (ad 20 q)), (3, .int (iI 1))]) hx hb dX1_isNear_31 hl (by decide) rfl (fun ls hl => ?_)
      refine li_iconst hx hb dX1_isNear_33 ?_
      refine lv_istore (lv' := [(7, .int (iI 0)), (6, .int (iI 0)), (5, .int (iI ((((σ 6 p 0) + (σ 6 q 0)) + m0) - m0))), (4, .int (iI m0)), (0, .ref (ad 20 p)), (1, .int (iI m0)), (2, .ref (ad 20 q)), (3, .int (iI 1))]) hx hb dX1_isNear_34 hl (by decide) rfl (fun ls hl => ?_)
      refine lv_iload hx hb dX1_isNear_36 (lv_at hl 0 rfl) ?_
      refine li_iconst hx hb dX1_isNear_38 ?_
      refine li_icmp_ge (tgt := 80) hx hb (by unfold iR; omega) (by unfold iR; omega) dX1_isNear_39 (by decide) (fun h => absurd h (by decide)) (fun _ => ?_)
      refine lv_iload hx hb dX1_isNear_42 (lv_at hl 0 rfl) ?_
      refine lv_iload_n hx hb dX1_isNear_44 rfl (lv_at hl 7 rfl) ?_
      refine li_icmp_eq (tgt := 74) hx hb (by unfold iR; omega) (by unfold iR; omega) dX1_isNear_45 (by decide) (fun h => absurd h (by decide)) (fun _ => ?_)
      refine li_iconst hx hb dX1_isNear_48 ?_
      refine lv_aload_n hx hb dX1_isNear_49 rfl (lv_at hl 4 rfl) ?_
      refine lv_aload_n hx hb dX1_isNear_50 rfl (lv_at hl 6 rfl) ?_
      refine lv_iload hx hb dX1_isNear_51 (lv_at hl 0 rfl) ?_
      refine bc_S (As := [.ref (ad 20 p), .ref (ad 20 q), .int (iI 0)]) (rest := [.int (iI 0)]) ⟨hx, hb, hml, hown, hts⟩ (c_X1_coreGap l g ad σ τ w p q 0 hpp hpq hB (by omega)) (va_cwS 3 hts gX1_isNear_X1_coreGap rfl rfl rfl (by decide +kernel) ⟨Nat.le_of_ble_eq_true rfl, Nat.le_of_ble_eq_true rfl⟩) hK hU  rfl hl.1 rfl (Nat.le_of_ble_eq_true rfl) dX1_isNear_53 ⟨Nat.zero_le _, Nat.zero_le _⟩ ?_
      have h29 := cgap_bd hB hpp hpq (a := 0) (by omega) (by omega)
      refine lv_iload hx hb dX1_isNear_56 (lv_at hl 3 rfl) ?_
      refine li_isub hx hb dX1_isNear_58 ?_
      refine li_mmax hx hb (hml.trans hl.1.symm) hown (hts (.methodLink RX1 112 Lib.Math.max.name) (by decide +kernel)) (hts (.static Lib.Math.max.name) (by decide +kernel)) (hts (.initialized "java/lang/Math") (by decide +kernel)) (hts _ (by exact by decide +kernel)) (Nat.le_of_ble_eq_true rfl) (Nat.le_of_ble_eq_true rfl) (Nat.zero_le _) (Nat.zero_le _) (by unfold iR; omega) (by unfold iR; omega) dX1_isNear_59 ?_
      refine lv_istore (lv' := [(8, .int (iI (max 0 ((cgap σ p q 0) - m0)))), (7, .int (iI 0)), (6, .int (iI 0)), (5, .int (iI ((((σ 6 p 0) + (σ 6 q 0)) + m0) - m0))), (4, .int (iI m0)), (0, .ref (ad 20 p)), (1, .int (iI m0)), (2, .ref (ad 20 q)), (3, .int (iI 1))]) hx hb dX1_isNear_62 hl (by decide) rfl (fun ls hl => ?_)
      have b30 := sq_bd (x := max 0 ((cgap σ p q 0) - m0)) (B := 1000) (by omega) (by omega)
      refine lv_iload hx hb dX1_isNear_64 (lv_at hl 2 rfl) ?_
      refine lv_iload hx hb dX1_isNear_66 (lv_at hl 0 rfl) ?_
      refine lv_iload hx hb dX1_isNear_68 (lv_at hl 0 rfl) ?_
      refine li_imul hx hb dX1_isNear_70 ?_
      refine li_iadd hx hb dX1_isNear_71 ?_
      refine lv_istore (lv' := [(6, .int (iI (0 + ((max 0 ((cgap σ p q 0) - m0)) * (max 0 ((cgap σ p q 0) - m0)))))), (8, .int (iI (max 0 ((cgap σ p q 0) - m0)))), (7, .int (iI 0)), (5, .int (iI ((((σ 6 p 0) + (σ 6 q 0)) + m0) - m0))), (4, .int (iI m0)), (0, .ref (ad 20 p)), (1, .int (iI m0)), (2, .ref (ad 20 q)), (3, .int (iI 1))]) hx hb dX1_isNear_72 hl (by decide) rfl (fun ls hl => ?_)
      refine li_iinc (k0 := 2) (lv' := [(7, .int (iI (0 + 1))), (6, .int (iI (0 + ((max 0 ((cgap σ p q 0) - m0)) * (max 0 ((cgap σ p q 0) - m0)))))), (8, .int (iI (max 0 ((cgap σ p q 0) - m0)))), (5, .int (iI ((((σ 6 p 0) + (σ 6 q 0)) + m0) - m0))), (4, .int (iI m0)), (0, .ref (ad 20 p)), (1, .int (iI m0)), (2, .ref (ad 20 q)), (3, .int (iI 1))]) hx hb dX1_isNear_74 hl rfl (by decide) rfl (fun ls hl => ?_)
      have hl : lv_has ls 9 [(7, .int (iI 1)), (6, .int (iI (0 + ((max 0 ((cgap σ p q 0) - m0)) * (max 0 ((cgap σ p q 0) - m0)))))), (8, .int (iI (max 0 ((cgap σ p q 0) - m0)))), (5, .int (iI ((((σ 6 p 0) + (σ 6 q 0)) + m0) - m0))), (4, .int (iI m0)), (0, .ref (ad 20 p)), (1, .int (iI m0)), (2, .ref (ad 20 q)), (3, .int (iI 1))] := hl
      refine lv_goto (tgt := 36) hx hb dX1_isNear_77 (by decide) ?_
      refine lv_iload hx hb dX1_isNear_36 (lv_at hl 0 rfl) ?_
      refine li_iconst hx hb dX1_isNear_38 ?_
      refine li_icmp_ge (tgt := 80) hx hb (by unfold iR; omega) (by unfold iR; omega) dX1_isNear_39 (by decide) (fun h => absurd h (by decide)) (fun _ => ?_)
      refine lv_iload hx hb dX1_isNear_42 (lv_at hl 0 rfl) ?_
      refine lv_iload_n hx hb dX1_isNear_44 rfl (lv_at hl 8 rfl) ?_
      refine li_icmp_eq (tgt := 74) hx hb (by unfold iR; omega) (by unfold iR; omega) dX1_isNear_45 (by decide) (fun _ => ?_) (fun h => absurd (by decide) h)
      refine li_iinc (k0 := 0) (lv' := [(7, .int (iI (1 + 1))), (6, .int (iI (0 + ((max 0 ((cgap σ p q 0) - m0)) * (max 0 ((cgap σ p q 0) - m0)))))), (8, .int (iI (max 0 ((cgap σ p q 0) - m0)))), (5, .int (iI ((((σ 6 p 0) + (σ 6 q 0)) + m0) - m0))), (4, .int (iI m0)), (0, .ref (ad 20 p)), (1, .int (iI m0)), (2, .ref (ad 20 q)), (3, .int (iI 1))]) hx hb dX1_isNear_74 hl rfl (by decide) rfl (fun ls hl => ?_)
      have hl : lv_has ls 9 [(7, .int (iI 2)), (6, .int (iI (0 + ((max 0 ((cgap σ p q 0) - m0)) * (max 0 ((cgap σ p q 0) - m0)))))), (8, .int (iI (max 0 ((cgap σ p q 0) - m0)))), (5, .int (iI ((((σ 6 p 0) + (σ 6 q 0)) + m0) - m0))), (4, .int (iI m0)), (0, .ref (ad 20 p)), (1, .int (iI m0)), (2, .ref (ad 20 q)), (3, .int (iI 1))] := hl
      refine lv_goto (tgt := 36) hx hb dX1_isNear_77 (by decide) ?_
      refine lv_iload hx hb dX1_isNear_36 (lv_at hl 0 rfl) ?_
      refine li_iconst hx hb dX1_isNear_38 ?_
      refine li_icmp_ge (tgt := 80) hx hb (by unfold iR; omega) (by unfold iR; omega) dX1_isNear_39 (by decide) (fun h => absurd h (by decide)) (fun _ => ?_)
      refine lv_iload hx hb dX1_isNear_42 (lv_at hl 0 rfl) ?_
      refine lv_iload_n hx hb dX1_isNear_44 rfl (lv_at hl 8 rfl) ?_
      refine li_icmp_eq (tgt := 74) hx hb (by unfold iR; omega) (by unfold iR; omega) dX1_isNear_45 (by decide) (fun h => absurd h (by decide)) (fun _ => ?_)
      refine li_iconst hx hb dX1_isNear_48 ?_
      refine lv_aload_n hx hb dX1_isNear_49 rfl (lv_at hl 5 rfl) ?_
      refine lv_aload_n hx hb dX1_isNear_50 rfl (lv_at hl 7 rfl) ?_
      refine lv_iload hx hb dX1_isNear_51 (lv_at hl 0 rfl) ?_
      refine bc_S (As := [.ref (ad 20 p), .ref (ad 20 q), .int (iI 2)]) (rest := [.int (iI 0)]) ⟨hx, hb, hml, hown, hts⟩ (c_X1_coreGap l g ad σ τ w p q 2 hpp hpq hB (by omega)) (va_cwS 3 hts gX1_isNear_X1_coreGap rfl rfl rfl (by decide +kernel) ⟨Nat.le_of_ble_eq_true rfl, Nat.le_of_ble_eq_true rfl⟩) hK hU  rfl hl.1 rfl (Nat.le_of_ble_eq_true rfl) dX1_isNear_53 ⟨Nat.zero_le _, Nat.zero_le _⟩ ?_
      have h31 := cgap_bd hB hpp hpq (a := 2) (by omega) (by omega)
      refine lv_iload hx hb dX1_isNear_56 (lv_at hl 4 rfl) ?_
      refine li_isub hx hb dX1_isNear_58 ?_
      refine li_mmax hx hb (hml.trans hl.1.symm) hown (hts (.methodLink RX1 112 Lib.Math.max.name) (by decide +kernel)) (hts (.static Lib.Math.max.name) (by decide +kernel)) (hts (.initialized "java/lang/Math") (by decide +kernel)) (hts _ (by exact by decide +kernel)) (Nat.le_of_ble_eq_true rfl) (Nat.le_of_ble_eq_true rfl) (Nat.zero_le _) (Nat.zero_le _) (by unfold iR; omega) (by unfold iR; omega) dX1_isNear_59 ?_
      refine lv_istore (lv' := [(8, .int (iI (max 0 ((cgap σ p q 2) - m0)))), (7, .int (iI 2)), (6, .int (iI (0 + ((max 0 ((cgap σ p q 0) - m0)) * (max 0 ((cgap σ p q 0) - m0)))))), (5, .int (iI ((((σ 6 p 0) + (σ 6 q 0)) + m0) - m0))), (4, .int (iI m0)), (0, .ref (ad 20 p)), (1, .int (iI m0)), (2, .ref (ad 20 q)), (3, .int (iI 1))]) hx hb dX1_isNear_62 hl (by decide) rfl (fun ls hl => ?_)
      have b32 := sq_bd (x := max 0 ((cgap σ p q 2) - m0)) (B := 1000) (by omega) (by omega)
      refine lv_iload hx hb dX1_isNear_64 (lv_at hl 2 rfl) ?_
      refine lv_iload hx hb dX1_isNear_66 (lv_at hl 0 rfl) ?_
      refine lv_iload hx hb dX1_isNear_68 (lv_at hl 0 rfl) ?_
      refine li_imul hx hb dX1_isNear_70 ?_
      refine li_iadd hx hb dX1_isNear_71 ?_
      refine lv_istore (lv' := [(6, .int (iI ((0 + ((max 0 ((cgap σ p q 0) - m0)) * (max 0 ((cgap σ p q 0) - m0)))) + ((max 0 ((cgap σ p q 2) - m0)) * (max 0 ((cgap σ p q 2) - m0)))))), (8, .int (iI (max 0 ((cgap σ p q 2) - m0)))), (7, .int (iI 2)), (5, .int (iI ((((σ 6 p 0) + (σ 6 q 0)) + m0) - m0))), (4, .int (iI m0)), (0, .ref (ad 20 p)), (1, .int (iI m0)), (2, .ref (ad 20 q)), (3, .int (iI 1))]) hx hb dX1_isNear_72 hl (by decide) rfl (fun ls hl => ?_)
      refine li_iinc (k0 := 2) (lv' := [(7, .int (iI (2 + 1))), (6, .int (iI ((0 + ((max 0 ((cgap σ p q 0) - m0)) * (max 0 ((cgap σ p q 0) - m0)))) + ((max 0 ((cgap σ p q 2) - m0)) * (max 0 ((cgap σ p q 2) - m0)))))), (8, .int (iI (max 0 ((cgap σ p q 2) - m0)))), (5, .int (iI ((((σ 6 p 0) + (σ 6 q 0)) + m0) - m0))), (4, .int (iI m0)), (0, .ref (ad 20 p)), (1, .int (iI m0)), (2, .ref (ad 20 q)), (3, .int (iI 1))]) hx hb dX1_isNear_74 hl rfl (by decide) rfl (fun ls hl => ?_)
      have hl : lv_has ls 9 [(7, .int (iI 3)), (6, .int (iI ((0 + ((max 0 ((cgap σ p q 0) - m0)) * (max 0 ((cgap σ p q 0) - m0)))) + ((max 0 ((cgap σ p q 2) - m0)) * (max 0 ((cgap σ p q 2) - m0)))))), (8, .int (iI (max 0 ((cgap σ p q 2) - m0)))), (5, .int (iI ((((σ 6 p 0) + (σ 6 q 0)) + m0) - m0))), (4, .int (iI m0)), (0, .ref (ad 20 p)), (1, .int (iI m0)), (2, .ref (ad 20 q)), (3, .int (iI 1))] := hl
      refine lv_goto (tgt := 36) hx hb dX1_isNear_77 (by decide) ?_
      refine lv_iload hx hb dX1_isNear_36 (lv_at hl 0 rfl) ?_
      refine li_iconst hx hb dX1_isNear_38 ?_
      refine li_icmp_ge (tgt := 80) hx hb (by unfold iR; omega) (by unfold iR; omega) dX1_isNear_39 (by decide) (fun _ => ?_) (fun h => absurd (by decide) h)
      have b33 := sq_bd (x := (((σ 6 p 0) + (σ 6 q 0)) + m0) - m0) (B := 450) (by omega) (by omega)
      refine lv_iload hx hb dX1_isNear_80 (lv_at hl 1 rfl) ?_
      refine lv_iload hx hb dX1_isNear_82 (lv_at hl 3 rfl) ?_
      refine lv_iload hx hb dX1_isNear_84 (lv_at hl 3 rfl) ?_
      refine li_imul hx hb dX1_isNear_86 ?_
      refine li_icmp_ge (tgt := 94) hx hb (by unfold iR; omega) (by unfold iR; omega) dX1_isNear_87 (by decide) (fun h34 => ?_) (fun h34 => ?_)
      · refine li_iconst hx hb dX1_isNear_94 ?_
        refine be_f hx hb hr hlocks ?_ dX1_isNear_95
        (have hcg : cgr σ p m0 = m0 := by unfold cgr; first | (rw [if_pos (by omega)]) | (rw [if_neg (by omega)])); (unfold near rch; rw [hcg]; unfold nsum gapc; rw [if_neg (by decide), if_pos rfl, if_neg (by decide)]; omega)
      · refine li_iconst hx hb dX1_isNear_90 ?_
        refine lv_goto (tgt := 95) hx hb dX1_isNear_91 (by decide) ?_
        refine be_t hx hb hr hlocks ?_ dX1_isNear_95
        (have hcg : cgr σ p m0 = m0 := by unfold cgr; first | (rw [if_pos (by omega)]) | (rw [if_neg (by omega)])); (unfold near rch; rw [hcg]; unfold nsum gapc; rw [if_neg (by decide), if_pos rfl, if_neg (by decide)]; omega)
  · refine lv_aload_n hx hb dX1_isNear_0 rfl (lv_at hl 0 rfl) ?_
    refine bc_VB (As := []) (rest := []) (kd := 20) (k := p) (ci := 0) ⟨hx, hb, hml, hown, hts⟩ (c_X0_isTube l g ad σ τ w p hpp hB) (cwV 0 hts gX1_isNear_X0_isTube rfl rfl rfl (by decide +kernel) ⟨Nat.le_of_ble_eq_true rfl, Nat.le_of_ble_eq_true rfl⟩) hK hU (bx_Lp (by omega) (by omega) hpp) rfl rfl rfl hl.1 rfl (Nat.le_of_ble_eq_true rfl) dX1_isNear_1 ⟨Nat.zero_le _, Nat.zero_le _⟩ (fun h35 => ?_) (fun h35 => ?_)
    · refine li_if_eq (tgt := 11) hx hb (by unfold iR; omega) dX1_isNear_4 (by decide) (fun h => absurd h (by decide)) (fun _ => ?_)
      refine li_iconst hx hb dX1_isNear_7 ?_
      refine lv_goto (tgt := 12) hx hb dX1_isNear_8 (by decide) ?_
      refine lv_istore (lv' := [(4, .int (iI 0)), (0, .ref (ad 20 p)), (1, .int (iI m0)), (2, .ref (ad 20 q)), (3, .int (iI 2))]) hx hb dX1_isNear_12 hl (by decide) rfl (fun ls hl => ?_)
      refine lv_aload_n hx hb dX1_isNear_14 rfl (lv_at hl 1 rfl) ?_
      refine bg_X0_radius hx hb hts hinX0 hown hK hU hpp (hts (.fieldLink RX1 176 "ClashBoxes$Part" "radius" "I") (by decide +kernel)) dX1_isNear_15 ?_
      have b36 := bB6 hB hpp
      refine lv_aload_n hx hb dX1_isNear_18 rfl (lv_at hl 3 rfl) ?_
      refine bg_X0_radius hx hb hts hinX0 hown hK hU hpq (hts (.fieldLink RX1 176 "ClashBoxes$Part" "radius" "I") (by decide +kernel)) dX1_isNear_19 ?_
      have b37 := bB6 hB hpq
      refine li_iadd hx hb dX1_isNear_22 ?_
      refine lv_iload_n hx hb dX1_isNear_23 rfl (lv_at hl 2 rfl) ?_
      refine li_iadd hx hb dX1_isNear_24 ?_
      refine lv_iload hx hb dX1_isNear_25 (lv_at hl 0 rfl) ?_
      refine li_isub hx hb dX1_isNear_27 ?_
      refine lv_istore (lv' := [(5, .int (iI ((((σ 6 p 0) + (σ 6 q 0)) + m0) - 0))), (4, .int (iI 0)), (0, .ref (ad 20 p)), (1, .int (iI m0)), (2, .ref (ad 20 q)), (3, .int (iI 2))]) hx hb dX1_isNear_28 hl (by decide) rfl (fun ls hl => ?_)
      refine li_iconst hx hb dX1_isNear_30 ?_
      refine lv_istore (lv' := [(6, .int (iI 0)), (5, .int (iI ((((σ 6 p 0) + (σ 6 q 0)) + m0) - 0))), (4, .int (iI 0)), (0, .ref (ad 20 p)), (1, .int (iI m0)), (2, .ref (ad 20 q)), (3, .int (iI 2))]) hx hb dX1_isNear_31 hl (by decide) rfl (fun ls hl => ?_)
      refine li_iconst hx hb dX1_isNear_33 ?_
      refine lv_istore (lv' := [(7, .int (iI 0)), (6, .int (iI 0)), (5, .int (iI ((((σ 6 p 0) + (σ 6 q 0)) + m0) - 0))), (4, .int (iI 0)), (0, .ref (ad 20 p)), (1, .int (iI m0)), (2, .ref (ad 20 q)), (3, .int (iI 2))]) hx hb dX1_isNear_34 hl (by decide) rfl (fun ls hl => ?_)
      refine lv_iload hx hb dX1_isNear_36 (lv_at hl 0 rfl) ?_
      refine li_iconst hx hb dX1_isNear_38 ?_
      refine li_icmp_ge (tgt := 80) hx hb (by unfold iR; omega) (by unfold iR; omega) dX1_isNear_39 (by decide) (fun h => absurd h (by decide)) (fun _ => ?_)
      refine lv_iload hx hb dX1_isNear_42 (lv_at hl 0 rfl) ?_
      refine lv_iload_n hx hb dX1_isNear_44 rfl (lv_at hl 7 rfl) ?_
      refine li_icmp_eq (tgt := 74) hx hb (by unfold iR; omega) (by unfold iR; omega) dX1_isNear_45 (by decide) (fun h => absurd h (by decide)) (fun _ => ?_)
      refine li_iconst hx hb dX1_isNear_48 ?_
      refine lv_aload_n hx hb dX1_isNear_49 rfl (lv_at hl 4 rfl) ?_
      refine lv_aload_n hx hb dX1_isNear_50 rfl (lv_at hl 6 rfl) ?_
      refine lv_iload hx hb dX1_isNear_51 (lv_at hl 0 rfl) ?_
      refine bc_S (As := [.ref (ad 20 p), .ref (ad 20 q), .int (iI 0)]) (rest := [.int (iI 0)]) ⟨hx, hb, hml, hown, hts⟩ (c_X1_coreGap l g ad σ τ w p q 0 hpp hpq hB (by omega)) (va_cwS 3 hts gX1_isNear_X1_coreGap rfl rfl rfl (by decide +kernel) ⟨Nat.le_of_ble_eq_true rfl, Nat.le_of_ble_eq_true rfl⟩) hK hU  rfl hl.1 rfl (Nat.le_of_ble_eq_true rfl) dX1_isNear_53 ⟨Nat.zero_le _, Nat.zero_le _⟩ ?_
      have h38 := cgap_bd hB hpp hpq (a := 0) (by omega) (by omega)
      refine lv_iload hx hb dX1_isNear_56 (lv_at hl 3 rfl) ?_
      refine li_isub hx hb dX1_isNear_58 ?_
      refine li_mmax hx hb (hml.trans hl.1.symm) hown (hts (.methodLink RX1 112 Lib.Math.max.name) (by decide +kernel)) (hts (.static Lib.Math.max.name) (by decide +kernel)) (hts (.initialized "java/lang/Math") (by decide +kernel)) (hts _ (by exact by decide +kernel)) (Nat.le_of_ble_eq_true rfl) (Nat.le_of_ble_eq_true rfl) (Nat.zero_le _) (Nat.zero_le _) (by unfold iR; omega) (by unfold iR; omega) dX1_isNear_59 ?_
      refine lv_istore (lv' := [(8, .int (iI (max 0 ((cgap σ p q 0) - 0)))), (7, .int (iI 0)), (6, .int (iI 0)), (5, .int (iI ((((σ 6 p 0) + (σ 6 q 0)) + m0) - 0))), (4, .int (iI 0)), (0, .ref (ad 20 p)), (1, .int (iI m0)), (2, .ref (ad 20 q)), (3, .int (iI 2))]) hx hb dX1_isNear_62 hl (by decide) rfl (fun ls hl => ?_)
      have b39 := sq_bd (x := max 0 ((cgap σ p q 0) - 0)) (B := 1000) (by omega) (by omega)
      refine lv_iload hx hb dX1_isNear_64 (lv_at hl 2 rfl) ?_
      refine lv_iload hx hb dX1_isNear_66 (lv_at hl 0 rfl) ?_
      refine lv_iload hx hb dX1_isNear_68 (lv_at hl 0 rfl) ?_
      refine li_imul hx hb dX1_isNear_70 ?_
      refine li_iadd hx hb dX1_isNear_71 ?_
      refine lv_istore (lv' := [(6, .int (iI (0 + ((max 0 ((cgap σ p q 0) - 0)) * (max 0 ((cgap σ p q 0) - 0)))))), (8, .int (iI (max 0 ((cgap σ p q 0) - 0)))), (7, .int (iI 0)), (5, .int (iI ((((σ 6 p 0) + (σ 6 q 0)) + m0) - 0))), (4, .int (iI 0)), (0, .ref (ad 20 p)), (1, .int (iI m0)), (2, .ref (ad 20 q)), (3, .int (iI 2))]) hx hb dX1_isNear_72 hl (by decide) rfl (fun ls hl => ?_)
      refine li_iinc (k0 := 2) (lv' := [(7, .int (iI (0 + 1))), (6, .int (iI (0 + ((max 0 ((cgap σ p q 0) - 0)) * (max 0 ((cgap σ p q 0) - 0)))))), (8, .int (iI (max 0 ((cgap σ p q 0) - 0)))), (5, .int (iI ((((σ 6 p 0) + (σ 6 q 0)) + m0) - 0))), (4, .int (iI 0)), (0, .ref (ad 20 p)), (1, .int (iI m0)), (2, .ref (ad 20 q)), (3, .int (iI 2))]) hx hb dX1_isNear_74 hl rfl (by decide) rfl (fun ls hl => ?_)
      have hl : lv_has ls 9 [(7, .int (iI 1)), (6, .int (iI (0 + ((max 0 ((cgap σ p q 0) - 0)) * (max 0 ((cgap σ p q 0) - 0)))))), (8, .int (iI (max 0 ((cgap σ p q 0) - 0)))), (5, .int (iI ((((σ 6 p 0) + (σ 6 q 0)) + m0) - 0))), (4, .int (iI 0)), (0, .ref (ad 20 p)), (1, .int (iI m0)), (2, .ref (ad 20 q)), (3, .int (iI 2))] := hl
      refine lv_goto (tgt := 36) hx hb dX1_isNear_77 (by decide) ?_
      refine lv_iload hx hb dX1_isNear_36 (lv_at hl 0 rfl) ?_
      refine li_iconst hx hb dX1_isNear_38 ?_
      refine li_icmp_ge (tgt := 80) hx hb (by unfold iR; omega) (by unfold iR; omega) dX1_isNear_39 (by decide) (fun h => absurd h (by decide)) (fun _ => ?_)
      refine lv_iload hx hb dX1_isNear_42 (lv_at hl 0 rfl) ?_
      refine lv_iload_n hx hb dX1_isNear_44 rfl (lv_at hl 8 rfl) ?_
      refine li_icmp_eq (tgt := 74) hx hb (by unfold iR; omega) (by unfold iR; omega) dX1_isNear_45 (by decide) (fun h => absurd h (by decide)) (fun _ => ?_)
      refine li_iconst hx hb dX1_isNear_48 ?_
      refine lv_aload_n hx hb dX1_isNear_49 rfl (lv_at hl 5 rfl) ?_
      refine lv_aload_n hx hb dX1_isNear_50 rfl (lv_at hl 7 rfl) ?_
      refine lv_iload hx hb dX1_isNear_51 (lv_at hl 0 rfl) ?_
      refine bc_S (As := [.ref (ad 20 p), .ref (ad 20 q), .int (iI 1)]) (rest := [.int (iI 0)]) ⟨hx, hb, hml, hown, hts⟩ (c_X1_coreGap l g ad σ τ w p q 1 hpp hpq hB (by omega)) (va_cwS 3 hts gX1_isNear_X1_coreGap rfl rfl rfl (by decide +kernel) ⟨Nat.le_of_ble_eq_true rfl, Nat.le_of_ble_eq_true rfl⟩) hK hU  rfl hl.1 rfl (Nat.le_of_ble_eq_true rfl) dX1_isNear_53 ⟨Nat.zero_le _, Nat.zero_le _⟩ ?_
      have h40 := cgap_bd hB hpp hpq (a := 1) (by omega) (by omega)
      refine lv_iload hx hb dX1_isNear_56 (lv_at hl 4 rfl) ?_
      refine li_isub hx hb dX1_isNear_58 ?_
      refine li_mmax hx hb (hml.trans hl.1.symm) hown (hts (.methodLink RX1 112 Lib.Math.max.name) (by decide +kernel)) (hts (.static Lib.Math.max.name) (by decide +kernel)) (hts (.initialized "java/lang/Math") (by decide +kernel)) (hts _ (by exact by decide +kernel)) (Nat.le_of_ble_eq_true rfl) (Nat.le_of_ble_eq_true rfl) (Nat.zero_le _) (Nat.zero_le _) (by unfold iR; omega) (by unfold iR; omega) dX1_isNear_59 ?_
      refine lv_istore (lv' := [(8, .int (iI (max 0 ((cgap σ p q 1) - 0)))), (7, .int (iI 1)), (6, .int (iI (0 + ((max 0 ((cgap σ p q 0) - 0)) * (max 0 ((cgap σ p q 0) - 0)))))), (5, .int (iI ((((σ 6 p 0) + (σ 6 q 0)) + m0) - 0))), (4, .int (iI 0)), (0, .ref (ad 20 p)), (1, .int (iI m0)), (2, .ref (ad 20 q)), (3, .int (iI 2))]) hx hb dX1_isNear_62 hl (by decide) rfl (fun ls hl => ?_)
      have b41 := sq_bd (x := max 0 ((cgap σ p q 1) - 0)) (B := 1000) (by omega) (by omega)
      refine lv_iload hx hb dX1_isNear_64 (lv_at hl 2 rfl) ?_
      refine lv_iload hx hb dX1_isNear_66 (lv_at hl 0 rfl) ?_
      refine lv_iload hx hb dX1_isNear_68 (lv_at hl 0 rfl) ?_
      refine li_imul hx hb dX1_isNear_70 ?_
      refine li_iadd hx hb dX1_isNear_71 ?_
      refine lv_istore (lv' := [(6, .int (iI ((0 + ((max 0 ((cgap σ p q 0) - 0)) * (max 0 ((cgap σ p q 0) - 0)))) + ((max 0 ((cgap σ p q 1) - 0)) * (max 0 ((cgap σ p q 1) - 0)))))), (8, .int (iI (max 0 ((cgap σ p q 1) - 0)))), (7, .int (iI 1)), (5, .int (iI ((((σ 6 p 0) + (σ 6 q 0)) + m0) - 0))), (4, .int (iI 0)), (0, .ref (ad 20 p)), (1, .int (iI m0)), (2, .ref (ad 20 q)), (3, .int (iI 2))]) hx hb dX1_isNear_72 hl (by decide) rfl (fun ls hl => ?_)
      refine li_iinc (k0 := 2) (lv' := [(7, .int (iI (1 + 1))), (6, .int (iI ((0 + ((max 0 ((cgap σ p q 0) - 0)) * (max 0 ((cgap σ p q 0) - 0)))) + ((max 0 ((cgap σ p q 1) - 0)) * (max 0 ((cgap σ p q 1) - 0)))))), (8, .int (iI (max 0 ((cgap σ p q 1) - 0)))), (5, .int (iI ((((σ 6 p 0) + (σ 6 q 0)) + m0) - 0))), (4, .int (iI 0)), (0, .ref (ad 20 p)), (1, .int (iI m0)), (2, .ref (ad 20 q)), (3, .int (iI 2))]) hx hb dX1_isNear_74 hl rfl (by decide) rfl (fun ls hl => ?_)
      have hl : lv_has ls 9 [(7, .int (iI 2)), (6, .int (iI ((0 + ((max 0 ((cgap σ p q 0) - 0)) * (max 0 ((cgap σ p q 0) - 0)))) + ((max 0 ((cgap σ p q 1) - 0)) * (max 0 ((cgap σ p q 1) - 0)))))), (8, .int (iI (max 0 ((cgap σ p q 1) - 0)))), (5, .int (iI ((((σ 6 p 0) + (σ 6 q 0)) + m0) - 0))), (4, .int (iI 0)), (0, .ref (ad 20 p)), (1, .int (iI m0)), (2, .ref (ad 20 q)), (3, .int (iI 2))] := hl
      refine lv_goto (tgt := 36) hx hb dX1_isNear_77 (by decide) ?_
      refine lv_iload hx hb dX1_isNear_36 (lv_at hl 0 rfl) ?_
      refine li_iconst hx hb dX1_isNear_38 ?_
      refine li_icmp_ge (tgt := 80) hx hb (by unfold iR; omega) (by unfold iR; omega) dX1_isNear_39 (by decide) (fun h => absurd h (by decide)) (fun _ => ?_)
      refine lv_iload hx hb dX1_isNear_42 (lv_at hl 0 rfl) ?_
      refine lv_iload_n hx hb dX1_isNear_44 rfl (lv_at hl 8 rfl) ?_
      refine li_icmp_eq (tgt := 74) hx hb (by unfold iR; omega) (by unfold iR; omega) dX1_isNear_45 (by decide) (fun _ => ?_) (fun h => absurd (by decide) h)
      refine li_iinc (k0 := 0) (lv' := [(7, .int (iI (2 + 1))), (6, .int (iI ((0 + ((max 0 ((cgap σ p q 0) - 0)) * (max 0 ((cgap σ p q 0) - 0)))) + ((max 0 ((cgap σ p q 1) - 0)) * (max 0 ((cgap σ p q 1) - 0)))))), (8, .int (iI (max 0 ((cgap σ p q 1) - 0)))), (5, .int (iI ((((σ 6 p 0) + (σ 6 q 0)) + m0) - 0))), (4, .int (iI 0)), (0, .ref (ad 20 p)), (1, .int (iI m0)), (2, .ref (ad 20 q)), (3, .int (iI 2))]) hx hb dX1_isNear_74 hl rfl (by decide) rfl (fun ls hl => ?_)
      have hl : lv_has ls 9 [(7, .int (iI 3)), (6, .int (iI ((0 + ((max 0 ((cgap σ p q 0) - 0)) * (max 0 ((cgap σ p q 0) - 0)))) + ((max 0 ((cgap σ p q 1) - 0)) * (max 0 ((cgap σ p q 1) - 0)))))), (8, .int (iI (max 0 ((cgap σ p q 1) - 0)))), (5, .int (iI ((((σ 6 p 0) + (σ 6 q 0)) + m0) - 0))), (4, .int (iI 0)), (0, .ref (ad 20 p)), (1, .int (iI m0)), (2, .ref (ad 20 q)), (3, .int (iI 2))] := hl
      refine lv_goto (tgt := 36) hx hb dX1_isNear_77 (by decide) ?_
      refine lv_iload hx hb dX1_isNear_36 (lv_at hl 0 rfl) ?_
      refine li_iconst hx hb dX1_isNear_38 ?_
      refine li_icmp_ge (tgt := 80) hx hb (by unfold iR; omega) (by unfold iR; omega) dX1_isNear_39 (by decide) (fun _ => ?_) (fun h => absurd (by decide) h)
      have b42 := sq_bd (x := (((σ 6 p 0) + (σ 6 q 0)) + m0) - 0) (B := 450) (by omega) (by omega)
      refine lv_iload hx hb dX1_isNear_80 (lv_at hl 1 rfl) ?_
      refine lv_iload hx hb dX1_isNear_82 (lv_at hl 3 rfl) ?_
      refine lv_iload hx hb dX1_isNear_84 (lv_at hl 3 rfl) ?_
      refine li_imul hx hb dX1_isNear_86 ?_
      refine li_icmp_ge (tgt := 94) hx hb (by unfold iR; omega) (by unfold iR; omega) dX1_isNear_87 (by decide) (fun h43 => ?_) (fun h43 => ?_)
      · refine li_iconst hx hb dX1_isNear_94 ?_
        refine be_f hx hb hr hlocks ?_ dX1_isNear_95
        (have hcg : cgr σ p m0 = 0 := by unfold cgr; first | (rw [if_pos (by omega)]) | (rw [if_neg (by omega)])); (unfold near rch; rw [hcg]; unfold nsum gapc; rw [if_neg (by decide), if_neg (by decide), if_pos rfl]; omega)
      · refine li_iconst hx hb dX1_isNear_90 ?_
        refine lv_goto (tgt := 95) hx hb dX1_isNear_91 (by decide) ?_
        refine be_t hx hb hr hlocks ?_ dX1_isNear_95
        (have hcg : cgr σ p m0 = 0 := by unfold cgr; first | (rw [if_pos (by omega)]) | (rw [if_neg (by omega)])); (unfold near rch; rw [hcg]; unfold nsum gapc; rw [if_neg (by decide), if_neg (by decide), if_pos rfl]; omega)
    · refine li_if_eq (tgt := 11) hx hb (by unfold iR; omega) dX1_isNear_4 (by decide) (fun _ => ?_) (fun h => absurd (by decide) h)
      refine lv_iload_n hx hb dX1_isNear_11 rfl (lv_at hl 1 rfl) ?_
      refine lv_istore (lv' := [(4, .int (iI m0)), (0, .ref (ad 20 p)), (1, .int (iI m0)), (2, .ref (ad 20 q)), (3, .int (iI 2))]) hx hb dX1_isNear_12 hl (by decide) rfl (fun ls hl => ?_)
      refine lv_aload_n hx hb dX1_isNear_14 rfl (lv_at hl 1 rfl) ?_
      refine bg_X0_radius hx hb hts hinX0 hown hK hU hpp (hts (.fieldLink RX1 176 "ClashBoxes$Part" "radius" "I") (by decide +kernel)) dX1_isNear_15 ?_
      have b44 := bB6 hB hpp
      refine lv_aload_n hx hb dX1_isNear_18 rfl (lv_at hl 3 rfl) ?_
      refine bg_X0_radius hx hb hts hinX0 hown hK hU hpq (hts (.fieldLink RX1 176 "ClashBoxes$Part" "radius" "I") (by decide +kernel)) dX1_isNear_19 ?_
      have b45 := bB6 hB hpq
      refine li_iadd hx hb dX1_isNear_22 ?_
      refine lv_iload_n hx hb dX1_isNear_23 rfl (lv_at hl 2 rfl) ?_
      refine li_iadd hx hb dX1_isNear_24 ?_
      refine lv_iload hx hb dX1_isNear_25 (lv_at hl 0 rfl) ?_
      refine li_isub hx hb dX1_isNear_27 ?_
      refine lv_istore (lv' := [(5, .int (iI ((((σ 6 p 0) + (σ 6 q 0)) + m0) - m0))), (4, .int (iI m0)), (0, .ref (ad 20 p)), (1, .int (iI m0)), (2, .ref (ad 20 q)), (3, .int (iI 2))]) hx hb dX1_isNear_28 hl (by decide) rfl (fun ls hl => ?_)
      refine li_iconst hx hb dX1_isNear_30 ?_
      refine lv_istore (lv' := [(6, .int (iI 0)), (5, .int (iI ((((σ 6 p 0) + (σ 6 q 0)) + m0) - m0))), (4, .int (iI m0)), (0, .ref (ad 20 p)), (1, .int (iI m0)), (2, .ref (ad 20 q)), (3, .int (iI 2))]) hx hb dX1_isNear_31 hl (by decide) rfl (fun ls hl => ?_)
      refine li_iconst hx hb dX1_isNear_33 ?_
      refine lv_istore (lv' := [(7, .int (iI 0)), (6, .int (iI 0)), (5, .int (iI ((((σ 6 p 0) + (σ 6 q 0)) + m0) - m0))), (4, .int (iI m0)), (0, .ref (ad 20 p)), (1, .int (iI m0)), (2, .ref (ad 20 q)), (3, .int (iI 2))]) hx hb dX1_isNear_34 hl (by decide) rfl (fun ls hl => ?_)
      refine lv_iload hx hb dX1_isNear_36 (lv_at hl 0 rfl) ?_
      refine li_iconst hx hb dX1_isNear_38 ?_
      refine li_icmp_ge (tgt := 80) hx hb (by unfold iR; omega) (by unfold iR; omega) dX1_isNear_39 (by decide) (fun h => absurd h (by decide)) (fun _ => ?_)
      refine lv_iload hx hb dX1_isNear_42 (lv_at hl 0 rfl) ?_
      refine lv_iload_n hx hb dX1_isNear_44 rfl (lv_at hl 7 rfl) ?_
      refine li_icmp_eq (tgt := 74) hx hb (by unfold iR; omega) (by unfold iR; omega) dX1_isNear_45 (by decide) (fun h => absurd h (by decide)) (fun _ => ?_)
      refine li_iconst hx hb dX1_isNear_48 ?_
      refine lv_aload_n hx hb dX1_isNear_49 rfl (lv_at hl 4 rfl) ?_
      refine lv_aload_n hx hb dX1_isNear_50 rfl (lv_at hl 6 rfl) ?_
      refine lv_iload hx hb dX1_isNear_51 (lv_at hl 0 rfl) ?_
      refine bc_S (As := [.ref (ad 20 p), .ref (ad 20 q), .int (iI 0)]) (rest := [.int (iI 0)]) ⟨hx, hb, hml, hown, hts⟩ (c_X1_coreGap l g ad σ τ w p q 0 hpp hpq hB (by omega)) (va_cwS 3 hts gX1_isNear_X1_coreGap rfl rfl rfl (by decide +kernel) ⟨Nat.le_of_ble_eq_true rfl, Nat.le_of_ble_eq_true rfl⟩) hK hU  rfl hl.1 rfl (Nat.le_of_ble_eq_true rfl) dX1_isNear_53 ⟨Nat.zero_le _, Nat.zero_le _⟩ ?_
      have h46 := cgap_bd hB hpp hpq (a := 0) (by omega) (by omega)
      refine lv_iload hx hb dX1_isNear_56 (lv_at hl 3 rfl) ?_
      refine li_isub hx hb dX1_isNear_58 ?_
      refine li_mmax hx hb (hml.trans hl.1.symm) hown (hts (.methodLink RX1 112 Lib.Math.max.name) (by decide +kernel)) (hts (.static Lib.Math.max.name) (by decide +kernel)) (hts (.initialized "java/lang/Math") (by decide +kernel)) (hts _ (by exact by decide +kernel)) (Nat.le_of_ble_eq_true rfl) (Nat.le_of_ble_eq_true rfl) (Nat.zero_le _) (Nat.zero_le _) (by unfold iR; omega) (by unfold iR; omega) dX1_isNear_59 ?_
      refine lv_istore (lv' := [(8, .int (iI (max 0 ((cgap σ p q 0) - m0)))), (7, .int (iI 0)), (6, .int (iI 0)), (5, .int (iI ((((σ 6 p 0) + (σ 6 q 0)) + m0) - m0))), (4, .int (iI m0)), (0, .ref (ad 20 p)), (1, .int (iI m0)), (2, .ref (ad 20 q)), (3, .int (iI 2))]) hx hb dX1_isNear_62 hl (by decide) rfl (fun ls hl => ?_)
      have b47 := sq_bd (x := max 0 ((cgap σ p q 0) - m0)) (B := 1000) (by omega) (by omega)
      refine lv_iload hx hb dX1_isNear_64 (lv_at hl 2 rfl) ?_
      refine lv_iload hx hb dX1_isNear_66 (lv_at hl 0 rfl) ?_
      refine lv_iload hx hb dX1_isNear_68 (lv_at hl 0 rfl) ?_
      refine li_imul hx hb dX1_isNear_70 ?_
      refine li_iadd hx hb dX1_isNear_71 ?_
      refine lv_istore (lv' := [(6, .int (iI (0 + ((max 0 ((cgap σ p q 0) - m0)) * (max 0 ((cgap σ p q 0) - m0)))))), (8, .int (iI (max 0 ((cgap σ p q 0) - m0)))), (7, .int (iI 0)), (5, .int (iI ((((σ 6 p 0) + (σ 6 q 0)) + m0) - m0))), (4, .int (iI m0)), (0, .ref (ad 20 p)), (1, .int (iI m0)), (2, .ref (ad 20 q)), (3, .int (iI 2))]) hx hb dX1_isNear_72 hl (by decide) rfl (fun ls hl => ?_)
      refine li_iinc (k0 := 2) (lv' := [(7, .int (iI (0 + 1))), (6, .int (iI (0 + ((max 0 ((cgap σ p q 0) - m0)) * (max 0 ((cgap σ p q 0) - m0)))))), (8, .int (iI (max 0 ((cgap σ p q 0) - m0)))), (5, .int (iI ((((σ 6 p 0) + (σ 6 q 0)) + m0) - m0))), (4, .int (iI m0)), (0, .ref (ad 20 p)), (1, .int (iI m0)), (2, .ref (ad 20 q)), (3, .int (iI 2))]) hx hb dX1_isNear_74 hl rfl (by decide) rfl (fun ls hl => ?_)
      have hl : lv_has ls 9 [(7, .int (iI 1)), (6, .int (iI (0 + ((max 0 ((cgap σ p q 0) - m0)) * (max 0 ((cgap σ p q 0) - m0)))))), (8, .int (iI (max 0 ((cgap σ p q 0) - m0)))), (5, .int (iI ((((σ 6 p 0) + (σ 6 q 0)) + m0) - m0))), (4, .int (iI m0)), (0, .ref (ad 20 p)), (1, .int (iI m0)), (2, .ref (ad 20 q)), (3, .int (iI 2))] := hl
      refine lv_goto (tgt := 36) hx hb dX1_isNear_77 (by decide) ?_
      refine lv_iload hx hb dX1_isNear_36 (lv_at hl 0 rfl) ?_
      refine li_iconst hx hb dX1_isNear_38 ?_
      refine li_icmp_ge (tgt := 80) hx hb (by unfold iR; omega) (by unfold iR; omega) dX1_isNear_39 (by decide) (fun h => absurd h (by decide)) (fun _ => ?_)
      refine lv_iload hx hb dX1_isNear_42 (lv_at hl 0 rfl) ?_
      refine lv_iload_n hx hb dX1_isNear_44 rfl (lv_at hl 8 rfl) ?_
      refine li_icmp_eq (tgt := 74) hx hb (by unfold iR; omega) (by unfold iR; omega) dX1_isNear_45 (by decide) (fun h => absurd h (by decide)) (fun _ => ?_)
      refine li_iconst hx hb dX1_isNear_48 ?_
      refine lv_aload_n hx hb dX1_isNear_49 rfl (lv_at hl 5 rfl) ?_
      refine lv_aload_n hx hb dX1_isNear_50 rfl (lv_at hl 7 rfl) ?_
      refine lv_iload hx hb dX1_isNear_51 (lv_at hl 0 rfl) ?_
      refine bc_S (As := [.ref (ad 20 p), .ref (ad 20 q), .int (iI 1)]) (rest := [.int (iI 0)]) ⟨hx, hb, hml, hown, hts⟩ (c_X1_coreGap l g ad σ τ w p q 1 hpp hpq hB (by omega)) (va_cwS 3 hts gX1_isNear_X1_coreGap rfl rfl rfl (by decide +kernel) ⟨Nat.le_of_ble_eq_true rfl, Nat.le_of_ble_eq_true rfl⟩) hK hU  rfl hl.1 rfl (Nat.le_of_ble_eq_true rfl) dX1_isNear_53 ⟨Nat.zero_le _, Nat.zero_le _⟩ ?_
      have h48 := cgap_bd hB hpp hpq (a := 1) (by omega) (by omega)
      refine lv_iload hx hb dX1_isNear_56 (lv_at hl 4 rfl) ?_
      refine li_isub hx hb dX1_isNear_58 ?_
      refine li_mmax hx hb (hml.trans hl.1.symm) hown (hts (.methodLink RX1 112 Lib.Math.max.name) (by decide +kernel)) (hts (.static Lib.Math.max.name) (by decide +kernel)) (hts (.initialized "java/lang/Math") (by decide +kernel)) (hts _ (by exact by decide +kernel)) (Nat.le_of_ble_eq_true rfl) (Nat.le_of_ble_eq_true rfl) (Nat.zero_le _) (Nat.zero_le _) (by unfold iR; omega) (by unfold iR; omega) dX1_isNear_59 ?_
      refine lv_istore (lv' := [(8, .int (iI (max 0 ((cgap σ p q 1) - m0)))), (7, .int (iI 1)), (6, .int (iI (0 + ((max 0 ((cgap σ p q 0) - m0)) * (max 0 ((cgap σ p q 0) - m0)))))), (5, .int (iI ((((σ 6 p 0) + (σ 6 q 0)) + m0) - m0))), (4, .int (iI m0)), (0, .ref (ad 20 p)), (1, .int (iI m0)), (2, .ref (ad 20 q)), (3, .int (iI 2))]) hx hb dX1_isNear_62 hl (by decide) rfl (fun ls hl => ?_)
      have b49 := sq_bd (x := max 0 ((cgap σ p q 1) - m0)) (B := 1000) (by omega) (by omega)
      refine lv_iload hx hb dX1_isNear_64 (lv_at hl 2 rfl) ?_
      refine lv_iload hx hb dX1_isNear_66 (lv_at hl 0 rfl) ?_
      refine lv_iload hx hb dX1_isNear_68 (lv_at hl 0 rfl) ?_
      refine li_imul hx hb dX1_isNear_70 ?_
      refine li_iadd hx hb dX1_isNear_71 ?_
      refine lv_istore (lv' := [(6, .int (iI ((0 + ((max 0 ((cgap σ p q 0) - m0)) * (max 0 ((cgap σ p q 0) - m0)))) + ((max 0 ((cgap σ p q 1) - m0)) * (max 0 ((cgap σ p q 1) - m0)))))), (8, .int (iI (max 0 ((cgap σ p q 1) - m0)))), (7, .int (iI 1)), (5, .int (iI ((((σ 6 p 0) + (σ 6 q 0)) + m0) - m0))), (4, .int (iI m0)), (0, .ref (ad 20 p)), (1, .int (iI m0)), (2, .ref (ad 20 q)), (3, .int (iI 2))]) hx hb dX1_isNear_72 hl (by decide) rfl (fun ls hl => ?_)
      refine li_iinc (k0 := 2) (lv' := [(7, .int (iI (1 + 1))), (6, .int (iI ((0 + ((max 0 ((cgap σ p q 0) - m0)) * (max 0 ((cgap σ p q 0) - m0)))) + ((max 0 ((cgap σ p q 1) - m0)) * (max 0 ((cgap σ p q 1) - m0)))))), (8, .int (iI (max 0 ((cgap σ p q 1) - m0)))), (5, .int (iI ((((σ 6 p 0) + (σ 6 q 0)) + m0) - m0))), (4, .int (iI m0)), (0, .ref (ad 20 p)), (1, .int (iI m0)), (2, .ref (ad 20 q)), (3, .int (iI 2))]) hx hb dX1_isNear_74 hl rfl (by decide) rfl (fun ls hl => ?_)
      have hl : lv_has ls 9 [(7, .int (iI 2)), (6, .int (iI ((0 + ((max 0 ((cgap σ p q 0) - m0)) * (max 0 ((cgap σ p q 0) - m0)))) + ((max 0 ((cgap σ p q 1) - m0)) * (max 0 ((cgap σ p q 1) - m0)))))), (8, .int (iI (max 0 ((cgap σ p q 1) - m0)))), (5, .int (iI ((((σ 6 p 0) + (σ 6 q 0)) + m0) - m0))), (4, .int (iI m0)), (0, .ref (ad 20 p)), (1, .int (iI m0)), (2, .ref (ad 20 q)), (3, .int (iI 2))] := hl
      refine lv_goto (tgt := 36) hx hb dX1_isNear_77 (by decide) ?_
      refine lv_iload hx hb dX1_isNear_36 (lv_at hl 0 rfl) ?_
      refine li_iconst hx hb dX1_isNear_38 ?_
      refine li_icmp_ge (tgt := 80) hx hb (by unfold iR; omega) (by unfold iR; omega) dX1_isNear_39 (by decide) (fun h => absurd h (by decide)) (fun _ => ?_)
      refine lv_iload hx hb dX1_isNear_42 (lv_at hl 0 rfl) ?_
      refine lv_iload_n hx hb dX1_isNear_44 rfl (lv_at hl 8 rfl) ?_
      refine li_icmp_eq (tgt := 74) hx hb (by unfold iR; omega) (by unfold iR; omega) dX1_isNear_45 (by decide) (fun _ => ?_) (fun h => absurd (by decide) h)
      refine li_iinc (k0 := 0) (lv' := [(7, .int (iI (2 + 1))), (6, .int (iI ((0 + ((max 0 ((cgap σ p q 0) - m0)) * (max 0 ((cgap σ p q 0) - m0)))) + ((max 0 ((cgap σ p q 1) - m0)) * (max 0 ((cgap σ p q 1) - m0)))))), (8, .int (iI (max 0 ((cgap σ p q 1) - m0)))), (5, .int (iI ((((σ 6 p 0) + (σ 6 q 0)) + m0) - m0))), (4, .int (iI m0)), (0, .ref (ad 20 p)), (1, .int (iI m0)), (2, .ref (ad 20 q)), (3, .int (iI 2))]) hx hb dX1_isNear_74 hl rfl (by decide) rfl (fun ls hl => ?_)
      have hl : lv_has ls 9 [(7, .int (iI 3)), (6, .int (iI ((0 + ((max 0 ((cgap σ p q 0) - m0)) * (max 0 ((cgap σ p q 0) - m0)))) + ((max 0 ((cgap σ p q 1) - m0)) * (max 0 ((cgap σ p q 1) - m0)))))), (8, .int (iI (max 0 ((cgap σ p q 1) - m0)))), (5, .int (iI ((((σ 6 p 0) + (σ 6 q 0)) + m0) - m0))), (4, .int (iI m0)), (0, .ref (ad 20 p)), (1, .int (iI m0)), (2, .ref (ad 20 q)), (3, .int (iI 2))] := hl
      refine lv_goto (tgt := 36) hx hb dX1_isNear_77 (by decide) ?_
      refine lv_iload hx hb dX1_isNear_36 (lv_at hl 0 rfl) ?_
      refine li_iconst hx hb dX1_isNear_38 ?_
      refine li_icmp_ge (tgt := 80) hx hb (by unfold iR; omega) (by unfold iR; omega) dX1_isNear_39 (by decide) (fun _ => ?_) (fun h => absurd (by decide) h)
      have b50 := sq_bd (x := (((σ 6 p 0) + (σ 6 q 0)) + m0) - m0) (B := 450) (by omega) (by omega)
      refine lv_iload hx hb dX1_isNear_80 (lv_at hl 1 rfl) ?_
      refine lv_iload hx hb dX1_isNear_82 (lv_at hl 3 rfl) ?_
      refine lv_iload hx hb dX1_isNear_84 (lv_at hl 3 rfl) ?_
      refine li_imul hx hb dX1_isNear_86 ?_
      refine li_icmp_ge (tgt := 94) hx hb (by unfold iR; omega) (by unfold iR; omega) dX1_isNear_87 (by decide) (fun h51 => ?_) (fun h51 => ?_)
      · refine li_iconst hx hb dX1_isNear_94 ?_
        refine be_f hx hb hr hlocks ?_ dX1_isNear_95
        (have hcg : cgr σ p m0 = m0 := by unfold cgr; first | (rw [if_pos (by omega)]) | (rw [if_neg (by omega)])); (unfold near rch; rw [hcg]; unfold nsum gapc; rw [if_neg (by decide), if_neg (by decide), if_pos rfl]; omega)
      · refine li_iconst hx hb dX1_isNear_90 ?_
        refine lv_goto (tgt := 95) hx hb dX1_isNear_91 (by decide) ?_
        refine be_t hx hb hr hlocks ?_ dX1_isNear_95
        (have hcg : cgr σ p m0 = m0 := by unfold cgr; first | (rw [if_pos (by omega)]) | (rw [if_neg (by omega)])); (unfold near rch; rw [hcg]; unfold nsum gapc; rw [if_neg (by decide), if_neg (by decide), if_pos rfl]; omega)

set_option maxHeartbeats 4000000 in
set_option maxRecDepth 100000 in
theorem c_X1_meet (l : Launch) (g : bxG) (ad : bxA) (σ τ : bxS) (w : bxW) (p m0 q : Int) (hpp : 0 ≤ p ∧ p < 60 ∧ σ 2 p 0 ≠ 0) (hpq : 0 ≤ q ∧ q < 60 ∧ σ 2 q 0 ≠ 0) (hB : bx_B σ) (hm : 0 ≤ m0 ∧ m0 ≤ 50) : Met l yX1_meet wsX1_meet ({ frames := 3, cells := 0, slots := 0, locals := 73 }) (va_Pc [.ref (ad 20 p), .int (iI m0), .ref (ad 20 q)] (fun U => bx_I g ad σ τ w U)) (k2_QcV (.int (iI (zB (mt σ p m0 q))))) 0 0 (fun _ => False) := by
  refine Met.ofW (cc := cX1_meet) (maxL := 4) (ret := (some .boolean)) (by decide) rfl ?_
  intro Pg Ev s mI args below meth cd s₁ B hml hv
  obtain ⟨rfl, hU, hK⟩ := hv
  have hx := B.exec
  have hb := B.bytes
  have hr := B.returns
  have hts := atoms_spec (ws := wsX1_meet) B.pre
  have hown : s.vm.findClass RX1 = some mI.cls := findClass_of_methodNamed B.named
  have hlocks := B.notSynchronized
  have hl := lv_entry ([.ref (ad 20 p), .int (iI m0), .ref (ad 20 q)]) (n := 4) (Nat.le_of_ble_eq_true rfl)
  rw [lg_entry_eq]
  generalize (lg_sl ([.ref (ad 20 p), .int (iI m0), .ref (ad 20 q)]) ++ List.replicate (4 - (lg_sl ([.ref (ad 20 p), .int (iI m0), .ref (ad 20 q)])).length) Slot.unset).toArray = ls at hl ⊢
  have hl : lv_has ls 4 [(0, .ref (ad 20 p)), (1, .int (iI m0)), (2, .ref (ad 20 q))] := hl
  refine lv_aload_n hx hb dX1_meet_0 rfl (lv_at hl 0 rfl) ?_
  refine lv_aload_n hx hb dX1_meet_1 rfl (lv_at hl 2 rfl) ?_
  refine bc_S (As := [.ref (ad 20 p), .ref (ad 20 q)]) (rest := []) ⟨hx, hb, hml, hown, hts⟩ (c_X1_roundAxis l g ad σ τ w p q hpp hpq hB) (va_cwS 2 hts gX1_meet_X1_roundAxis rfl rfl rfl (by decide +kernel) ⟨Nat.le_of_ble_eq_true rfl, Nat.le_of_ble_eq_true rfl⟩) hK hU  rfl hl.1 rfl (Nat.le_of_ble_eq_true rfl) dX1_meet_2 ⟨Nat.zero_le _, Nat.zero_le _⟩ ?_
  have h1 := rAx_bd hB hpp hpq
  refine lv_istore_n (lv' := [(3, .int (iI (rAx σ p q))), (0, .ref (ad 20 p)), (1, .int (iI m0)), (2, .ref (ad 20 q))]) hx hb dX1_meet_5 rfl hl (by decide) rfl (fun ls hl => ?_)
  refine lv_iload_n hx hb dX1_meet_6 rfl (lv_at hl 0 rfl) ?_
  refine li_iconst hx hb dX1_meet_7 ?_
  refine li_icmp_ne (tgt := 47) hx hb (by unfold iR; omega) (by unfold iR; omega) dX1_meet_8 (by decide) (fun h2 => ?_) (fun h2 => ?_)
  · refine lv_aload_n hx hb dX1_meet_47 rfl (lv_at hl 1 rfl) ?_
    refine lv_iload_n hx hb dX1_meet_48 rfl (lv_at hl 2 rfl) ?_
    refine lv_aload_n hx hb dX1_meet_49 rfl (lv_at hl 3 rfl) ?_
    refine lv_iload_n hx hb dX1_meet_50 rfl (lv_at hl 0 rfl) ?_
    refine bc_SB (As := [.ref (ad 20 p), .int (iI m0), .ref (ad 20 q), .int (iI (rAx σ p q))]) (rest := []) ⟨hx, hb, hml, hown, hts⟩ (c_X1_overlap l g ad σ τ w p m0 q (rAx σ p q) hpp hpq hB (by omega) (by omega)) (va_cwS 4 hts gX1_meet_X1_overlap rfl rfl rfl (by decide +kernel) ⟨Nat.le_of_ble_eq_true rfl, Nat.le_of_ble_eq_true rfl⟩) hK hU  rfl hl.1 rfl (Nat.le_of_ble_eq_true rfl) dX1_meet_51 ⟨Nat.zero_le _, Nat.zero_le _⟩ (fun h3 => ?_) (fun h3 => ?_)
    · refine li_if_eq (tgt := 71) hx hb (by unfold iR; omega) dX1_meet_54 (by decide) (fun h => absurd h (by decide)) (fun _ => ?_)
      refine lv_aload_n hx hb dX1_meet_57 rfl (lv_at hl 1 rfl) ?_
      refine lv_iload_n hx hb dX1_meet_58 rfl (lv_at hl 2 rfl) ?_
      refine lv_aload_n hx hb dX1_meet_59 rfl (lv_at hl 3 rfl) ?_
      refine lv_iload_n hx hb dX1_meet_60 rfl (lv_at hl 0 rfl) ?_
      refine bc_SB (As := [.ref (ad 20 p), .int (iI m0), .ref (ad 20 q), .int (iI (rAx σ p q))]) (rest := []) ⟨hx, hb, hml, hown, hts⟩ (c_X1_isNear l g ad σ τ w p m0 q (rAx σ p q) hpp hpq hB (by omega) (by omega)) (va_cwS 4 hts gX1_meet_X1_isNear rfl rfl rfl (by decide +kernel) ⟨Nat.le_of_ble_eq_true rfl, Nat.le_of_ble_eq_true rfl⟩) hK hU  rfl hl.1 rfl (Nat.le_of_ble_eq_true rfl) dX1_meet_61 ⟨Nat.zero_le _, Nat.zero_le _⟩ (fun h4 => ?_) (fun h4 => ?_)
      · refine li_if_eq (tgt := 71) hx hb (by unfold iR; omega) dX1_meet_64 (by decide) (fun h => absurd h (by decide)) (fun _ => ?_)
        refine li_iconst hx hb dX1_meet_67 ?_
        refine lv_goto (tgt := 72) hx hb dX1_meet_68 (by decide) ?_
        refine be_t hx hb hr hlocks ?_ dX1_meet_72
        unfold mt; first | (exact Or.inl ⟨by omega, by assumption, by assumption, by assumption⟩) | (exact Or.inr ⟨by omega, by assumption, by assumption⟩) | (rintro (⟨q0, q1, q2, q3⟩ | ⟨q0, q1, q2⟩) <;> first | omega | (exact absurd q1 (by assumption)) | (exact absurd q2 (by assumption)) | (exact absurd q3 (by assumption)))
      · refine li_if_eq (tgt := 71) hx hb (by unfold iR; omega) dX1_meet_64 (by decide) (fun _ => ?_) (fun h => absurd (by decide) h)
        refine li_iconst hx hb dX1_meet_71 ?_
        refine be_f hx hb hr hlocks ?_ dX1_meet_72
        unfold mt; first | (exact Or.inl ⟨by omega, by assumption, by assumption, by assumption⟩) | (exact Or.inr ⟨by omega, by assumption, by assumption⟩) | (rintro (⟨q0, q1, q2, q3⟩ | ⟨q0, q1, q2⟩) <;> first | omega | (exact absurd q1 (by assumption)) | (exact absurd q2 (by assumption)) | (exact absurd q3 (by assumption)))
    · refine li_if_eq (tgt := 71) hx hb (by unfold iR; omega) dX1_meet_54 (by decide) (fun _ => ?_) (fun h => absurd (by decide) h)
      refine li_iconst hx hb dX1_meet_71 ?_
      refine be_f hx hb hr hlocks ?_ dX1_meet_72
      unfold mt; first | (exact Or.inl ⟨by omega, by assumption, by assumption, by assumption⟩) | (exact Or.inr ⟨by omega, by assumption, by assumption⟩) | (rintro (⟨q0, q1, q2, q3⟩ | ⟨q0, q1, q2⟩) <;> first | omega | (exact absurd q1 (by assumption)) | (exact absurd q2 (by assumption)) | (exact absurd q3 (by assumption)))
  · refine lv_aload_n hx hb dX1_meet_11 rfl (lv_at hl 1 rfl) ?_
    refine lv_iload_n hx hb dX1_meet_12 rfl (lv_at hl 2 rfl) ?_
    refine lv_aload_n hx hb dX1_meet_13 rfl (lv_at hl 3 rfl) ?_
    refine li_iconst hx hb dX1_meet_14 ?_
    refine bc_SB (As := [.ref (ad 20 p), .int (iI m0), .ref (ad 20 q), .int (iI 0)]) (rest := []) ⟨hx, hb, hml, hown, hts⟩ (c_X1_overlap l g ad σ τ w p m0 q 0 hpp hpq hB (by omega) (by omega)) (va_cwS 4 hts gX1_meet_X1_overlap rfl rfl rfl (by decide +kernel) ⟨Nat.le_of_ble_eq_true rfl, Nat.le_of_ble_eq_true rfl⟩) hK hU  rfl hl.1 rfl (Nat.le_of_ble_eq_true rfl) dX1_meet_15 ⟨Nat.zero_le _, Nat.zero_le _⟩ (fun h5 => ?_) (fun h5 => ?_)
    · refine li_if_eq (tgt := 45) hx hb (by unfold iR; omega) dX1_meet_18 (by decide) (fun h => absurd h (by decide)) (fun _ => ?_)
      refine lv_aload_n hx hb dX1_meet_21 rfl (lv_at hl 1 rfl) ?_
      refine lv_iload_n hx hb dX1_meet_22 rfl (lv_at hl 2 rfl) ?_
      refine lv_aload_n hx hb dX1_meet_23 rfl (lv_at hl 3 rfl) ?_
      refine li_iconst hx hb dX1_meet_24 ?_
      refine bc_SB (As := [.ref (ad 20 p), .int (iI m0), .ref (ad 20 q), .int (iI 1)]) (rest := []) ⟨hx, hb, hml, hown, hts⟩ (c_X1_overlap l g ad σ τ w p m0 q 1 hpp hpq hB (by omega) (by omega)) (va_cwS 4 hts gX1_meet_X1_overlap rfl rfl rfl (by decide +kernel) ⟨Nat.le_of_ble_eq_true rfl, Nat.le_of_ble_eq_true rfl⟩) hK hU  rfl hl.1 rfl (Nat.le_of_ble_eq_true rfl) dX1_meet_25 ⟨Nat.zero_le _, Nat.zero_le _⟩ (fun h6 => ?_) (fun h6 => ?_)
      · refine li_if_eq (tgt := 45) hx hb (by unfold iR; omega) dX1_meet_28 (by decide) (fun h => absurd h (by decide)) (fun _ => ?_)
        refine lv_aload_n hx hb dX1_meet_31 rfl (lv_at hl 1 rfl) ?_
        refine lv_iload_n hx hb dX1_meet_32 rfl (lv_at hl 2 rfl) ?_
        refine lv_aload_n hx hb dX1_meet_33 rfl (lv_at hl 3 rfl) ?_
        refine li_iconst hx hb dX1_meet_34 ?_
        refine bc_SB (As := [.ref (ad 20 p), .int (iI m0), .ref (ad 20 q), .int (iI 2)]) (rest := []) ⟨hx, hb, hml, hown, hts⟩ (c_X1_overlap l g ad σ τ w p m0 q 2 hpp hpq hB (by omega) (by omega)) (va_cwS 4 hts gX1_meet_X1_overlap rfl rfl rfl (by decide +kernel) ⟨Nat.le_of_ble_eq_true rfl, Nat.le_of_ble_eq_true rfl⟩) hK hU  rfl hl.1 rfl (Nat.le_of_ble_eq_true rfl) dX1_meet_35 ⟨Nat.zero_le _, Nat.zero_le _⟩ (fun h7 => ?_) (fun h7 => ?_)
        · refine li_if_eq (tgt := 45) hx hb (by unfold iR; omega) dX1_meet_38 (by decide) (fun h => absurd h (by decide)) (fun _ => ?_)
          refine li_iconst hx hb dX1_meet_41 ?_
          refine lv_goto (tgt := 46) hx hb dX1_meet_42 (by decide) ?_
          refine be_t hx hb hr hlocks ?_ dX1_meet_46
          unfold mt; first | (exact Or.inl ⟨by omega, by assumption, by assumption, by assumption⟩) | (exact Or.inr ⟨by omega, by assumption, by assumption⟩) | (rintro (⟨q0, q1, q2, q3⟩ | ⟨q0, q1, q2⟩) <;> first | omega | (exact absurd q1 (by assumption)) | (exact absurd q2 (by assumption)) | (exact absurd q3 (by assumption)))
        · refine li_if_eq (tgt := 45) hx hb (by unfold iR; omega) dX1_meet_38 (by decide) (fun _ => ?_) (fun h => absurd (by decide) h)
          refine li_iconst hx hb dX1_meet_45 ?_
          refine be_f hx hb hr hlocks ?_ dX1_meet_46
          unfold mt; first | (exact Or.inl ⟨by omega, by assumption, by assumption, by assumption⟩) | (exact Or.inr ⟨by omega, by assumption, by assumption⟩) | (rintro (⟨q0, q1, q2, q3⟩ | ⟨q0, q1, q2⟩) <;> first | omega | (exact absurd q1 (by assumption)) | (exact absurd q2 (by assumption)) | (exact absurd q3 (by assumption)))
      · refine li_if_eq (tgt := 45) hx hb (by unfold iR; omega) dX1_meet_28 (by decide) (fun _ => ?_) (fun h => absurd (by decide) h)
        refine li_iconst hx hb dX1_meet_45 ?_
        refine be_f hx hb hr hlocks ?_ dX1_meet_46
        unfold mt; first | (exact Or.inl ⟨by omega, by assumption, by assumption, by assumption⟩) | (exact Or.inr ⟨by omega, by assumption, by assumption⟩) | (rintro (⟨q0, q1, q2, q3⟩ | ⟨q0, q1, q2⟩) <;> first | omega | (exact absurd q1 (by assumption)) | (exact absurd q2 (by assumption)) | (exact absurd q3 (by assumption)))
    · refine li_if_eq (tgt := 45) hx hb (by unfold iR; omega) dX1_meet_18 (by decide) (fun _ => ?_) (fun h => absurd (by decide) h)
      refine li_iconst hx hb dX1_meet_45 ?_
      refine be_f hx hb hr hlocks ?_ dX1_meet_46
      unfold mt; first | (exact Or.inl ⟨by omega, by assumption, by assumption, by assumption⟩) | (exact Or.inr ⟨by omega, by assumption, by assumption⟩) | (rintro (⟨q0, q1, q2, q3⟩ | ⟨q0, q1, q2⟩) <;> first | omega | (exact absurd q1 (by assumption)) | (exact absurd q2 (by assumption)) | (exact absurd q3 (by assumption)))

set_option maxHeartbeats 4000000 in
set_option maxRecDepth 100000 in
theorem c_X1_areFree (l : Launch) (g : bxG) (ad : bxA) (σ τ : bxS) (w : bxW) (a b : Int) (ha : 0 ≤ a ∧ a ≤ 7) (hb0 : 0 ≤ b ∧ b ≤ 7) (hB : bx_B σ) : Met l yX1_areFree wsX1_areFree ({ frames := 0, cells := 0, slots := 0, locals := 0 }) (va_Pc [.ref (ad 0 0), .int (iI a), .int (iI b)] (fun U => bx_I g ad σ τ w U)) (k2_QcV (.int (iI (zB (σ 9 (a * 8 + b) 0 ≠ 0))))) 0 0 (fun _ => False) := by
  refine Met.ofW (cc := cX1_areFree) (maxL := 3) (ret := (some .boolean)) (by decide) rfl ?_
  intro Pg Ev s mI args below meth cd s₁ B hml hv
  obtain ⟨rfl, hU, hK⟩ := hv
  have hx := B.exec
  have hb := B.bytes
  have hr := B.returns
  have hts := atoms_spec (ws := wsX1_areFree) B.pre
  have hown : s.vm.findClass RX1 = some mI.cls := findClass_of_methodNamed B.named
  have hlocks := B.notSynchronized
  have hl := lv_entry ([.ref (ad 0 0), .int (iI a), .int (iI b)]) (n := 3) (Nat.le_of_ble_eq_true rfl)
  rw [lg_entry_eq]
  generalize (lg_sl ([.ref (ad 0 0), .int (iI a), .int (iI b)]) ++ List.replicate (3 - (lg_sl ([.ref (ad 0 0), .int (iI a), .int (iI b)])).length) Slot.unset).toArray = ls at hl ⊢
  have hl : lv_has ls 3 [(0, .ref (ad 0 0)), (1, .int (iI a)), (2, .int (iI b))] := hl
  have hinX1 : ∀ w ∈ wsX10, w ∈ wsX1_areFree := by decide +kernel
  refine lv_aload_n hx hb dX1_areFree_0 rfl (lv_at hl 0 rfl) ?_
  refine bg_X1_freeKinds hx hb hts hinX1 hown hK hU (hts (.fieldLink RX1 15 "ClashBoxes" "freeKinds" "[Z") (by decide +kernel)) dX1_areFree_1 ?_
  refine lv_iload_n hx hb dX1_areFree_4 rfl (lv_at hl 1 rfl) ?_
  refine li_bipush hx hb dX1_areFree_5 (by decide) ?_
  refine li_imul hx hb dX1_areFree_7 ?_
  refine lv_iload_n hx hb dX1_areFree_8 rfl (lv_at hl 2 rfl) ?_
  refine li_iadd hx hb dX1_areFree_9 ?_
  refine bl_2 hx hb hK hU (by omega) (by omega) dX1_areFree_10 ?_
  have b1 := bB9 hB (k := (a * 8) + b) (by omega) (by omega)
  refine be_zz hx hb hr hlocks ?_ dX1_areFree_11
  omega
