set_option maxHeartbeats 4000000 in
set_option maxRecDepth 100000 in
theorem c_X1_overlapAcross (l : Launch) (g : bxG) (ad : bxA) (σ τ : bxS) (w : bxW) (p q a : Int) (hpp : 0 ≤ p ∧ p < 60 ∧ σ 2 p 0 ≠ 0) (hpq : 0 ≤ q ∧ q < 60 ∧ σ 2 q 0 ≠ 0) (hB : bx_B σ) (hxa : 0 ≤ a ∧ a < 3) : Met l yX1_overlapAcross wsX1_overlapAcross ({ frames := 2, cells := 0, slots := 0, locals := 44 }) (va_Pc [.ref (ad 20 p), .ref (ad 20 q), .int (iI a)] (fun U => bx_I g ad σ τ w U)) (k2_QcV (.int (iI (zB (ovA σ p q a))))) 0 0 (fun _ => False) := by
  refine Met.ofW (cc := cX1_overlapAcross) (maxL := 4) (ret := (some .boolean)) (by decide) rfl ?_
  intro Pg Ev s mI args below meth cd s₁ B hml hv
  obtain ⟨rfl, hU, hK⟩ := hv
  have hx := B.exec
  have hb := B.bytes
  have hr := B.returns
  have hts := atoms_spec (ws := wsX1_overlapAcross) B.pre
  have hown : s.vm.findClass RX1 = some mI.cls := findClass_of_methodNamed B.named
  have hlocks := B.notSynchronized
  have hl := lv_entry ([.ref (ad 20 p), .ref (ad 20 q), .int (iI a)]) (n := 4) (Nat.le_of_ble_eq_true rfl)
  rw [lg_entry_eq]
  generalize (lg_sl ([.ref (ad 20 p), .ref (ad 20 q), .int (iI a)]) ++ List.replicate (4 - (lg_sl ([.ref (ad 20 p), .ref (ad 20 q), .int (iI a)])).length) Slot.unset).toArray = ls at hl ⊢
  have hl : lv_has ls 4 [(0, .ref (ad 20 p)), (1, .ref (ad 20 q)), (2, .int (iI a))] := hl
  rcases (by omega : a = 0 ∨ a = 1 ∨ a = 2) with rfl | rfl | rfl
  · refine li_iconst hx hb dX1_overlapAcross_0 ?_
    refine lv_istore_n (lv' := [(3, .int (iI 0)), (0, .ref (ad 20 p)), (1, .ref (ad 20 q)), (2, .int (iI 0))]) hx hb dX1_overlapAcross_1 rfl hl (by decide) rfl (fun ls hl => ?_)
    refine lv_iload_n hx hb dX1_overlapAcross_2 rfl (lv_at hl 0 rfl) ?_
    refine li_iconst hx hb dX1_overlapAcross_3 ?_
    refine li_icmp_ge (tgt := 30) hx hb (by unfold iR; omega) (by unfold iR; omega) dX1_overlapAcross_4 (by decide) (fun h => absurd h (by decide)) (fun _ => ?_)
    refine lv_iload_n hx hb dX1_overlapAcross_7 rfl (lv_at hl 0 rfl) ?_
    refine lv_iload_n hx hb dX1_overlapAcross_8 rfl (lv_at hl 3 rfl) ?_
    refine li_icmp_eq (tgt := 24) hx hb (by unfold iR; omega) (by unfold iR; omega) dX1_overlapAcross_9 (by decide) (fun _ => ?_) (fun h => absurd (by decide) h)
    refine li_iinc (k0 := 0) (lv' := [(3, .int (iI (0 + 1))), (0, .ref (ad 20 p)), (1, .ref (ad 20 q)), (2, .int (iI 0))]) hx hb dX1_overlapAcross_24 hl rfl (by decide) rfl (fun ls hl => ?_)
    have hl : lv_has ls 4 [(3, .int (iI 1)), (0, .ref (ad 20 p)), (1, .ref (ad 20 q)), (2, .int (iI 0))] := hl
    refine lv_goto (tgt := 2) hx hb dX1_overlapAcross_27 (by decide) ?_
    refine lv_iload_n hx hb dX1_overlapAcross_2 rfl (lv_at hl 0 rfl) ?_
    refine li_iconst hx hb dX1_overlapAcross_3 ?_
    refine li_icmp_ge (tgt := 30) hx hb (by unfold iR; omega) (by unfold iR; omega) dX1_overlapAcross_4 (by decide) (fun h => absurd h (by decide)) (fun _ => ?_)
    refine lv_iload_n hx hb dX1_overlapAcross_7 rfl (lv_at hl 0 rfl) ?_
    refine lv_iload_n hx hb dX1_overlapAcross_8 rfl (lv_at hl 3 rfl) ?_
    refine li_icmp_eq (tgt := 24) hx hb (by unfold iR; omega) (by unfold iR; omega) dX1_overlapAcross_9 (by decide) (fun h => absurd h (by decide)) (fun _ => ?_)
    refine lv_aload_n hx hb dX1_overlapAcross_12 rfl (lv_at hl 1 rfl) ?_
    refine li_iconst hx hb dX1_overlapAcross_13 ?_
    refine lv_aload_n hx hb dX1_overlapAcross_14 rfl (lv_at hl 2 rfl) ?_
    refine lv_iload_n hx hb dX1_overlapAcross_15 rfl (lv_at hl 0 rfl) ?_
    refine bc_SB (As := [.ref (ad 20 p), .int (iI 0), .ref (ad 20 q), .int (iI 1)]) (rest := []) ⟨hx, hb, hml, hown, hts⟩ (c_X1_overlap l g ad σ τ w p 0 q 1 hpp hpq hB (by omega) (by omega)) (va_cwS 4 hts gX1_overlapAcross_X1_overlap rfl rfl rfl (by decide +kernel) ⟨Nat.le_of_ble_eq_true rfl, Nat.le_of_ble_eq_true rfl⟩) hK hU  rfl hl.1 rfl (Nat.le_of_ble_eq_true rfl) dX1_overlapAcross_16 ⟨Nat.zero_le _, Nat.zero_le _⟩ (fun h1 => ?_) (fun h1 => ?_)
    · refine li_if_ne (tgt := 24) hx hb (by unfold iR; omega) dX1_overlapAcross_19 (by decide) (fun _ => ?_) (fun h => absurd h (by decide))
      refine li_iinc (k0 := 0) (lv' := [(3, .int (iI (1 + 1))), (0, .ref (ad 20 p)), (1, .ref (ad 20 q)), (2, .int (iI 0))]) hx hb dX1_overlapAcross_24 hl rfl (by decide) rfl (fun ls hl => ?_)
      have hl : lv_has ls 4 [(3, .int (iI 2)), (0, .ref (ad 20 p)), (1, .ref (ad 20 q)), (2, .int (iI 0))] := hl
      refine lv_goto (tgt := 2) hx hb dX1_overlapAcross_27 (by decide) ?_
      refine lv_iload_n hx hb dX1_overlapAcross_2 rfl (lv_at hl 0 rfl) ?_
      refine li_iconst hx hb dX1_overlapAcross_3 ?_
      refine li_icmp_ge (tgt := 30) hx hb (by unfold iR; omega) (by unfold iR; omega) dX1_overlapAcross_4 (by decide) (fun h => absurd h (by decide)) (fun _ => ?_)
      refine lv_iload_n hx hb dX1_overlapAcross_7 rfl (lv_at hl 0 rfl) ?_
      refine lv_iload_n hx hb dX1_overlapAcross_8 rfl (lv_at hl 3 rfl) ?_
      refine li_icmp_eq (tgt := 24) hx hb (by unfold iR; omega) (by unfold iR; omega) dX1_overlapAcross_9 (by decide) (fun h => absurd h (by decide)) (fun _ => ?_)
      refine lv_aload_n hx hb dX1_overlapAcross_12 rfl (lv_at hl 1 rfl) ?_
      refine li_iconst hx hb dX1_overlapAcross_13 ?_
      refine lv_aload_n hx hb dX1_overlapAcross_14 rfl (lv_at hl 2 rfl) ?_
      refine lv_iload_n hx hb dX1_overlapAcross_15 rfl (lv_at hl 0 rfl) ?_
      refine bc_SB (As := [.ref (ad 20 p), .int (iI 0), .ref (ad 20 q), .int (iI 2)]) (rest := []) ⟨hx, hb, hml, hown, hts⟩ (c_X1_overlap l g ad σ τ w p 0 q 2 hpp hpq hB (by omega) (by omega)) (va_cwS 4 hts gX1_overlapAcross_X1_overlap rfl rfl rfl (by decide +kernel) ⟨Nat.le_of_ble_eq_true rfl, Nat.le_of_ble_eq_true rfl⟩) hK hU  rfl hl.1 rfl (Nat.le_of_ble_eq_true rfl) dX1_overlapAcross_16 ⟨Nat.zero_le _, Nat.zero_le _⟩ (fun h2 => ?_) (fun h2 => ?_)
      · refine li_if_ne (tgt := 24) hx hb (by unfold iR; omega) dX1_overlapAcross_19 (by decide) (fun _ => ?_) (fun h => absurd h (by decide))
        refine li_iinc (k0 := 0) (lv' := [(3, .int (iI (2 + 1))), (0, .ref (ad 20 p)), (1, .ref (ad 20 q)), (2, .int (iI 0))]) hx hb dX1_overlapAcross_24 hl rfl (by decide) rfl (fun ls hl => ?_)
        have hl : lv_has ls 4 [(3, .int (iI 3)), (0, .ref (ad 20 p)), (1, .ref (ad 20 q)), (2, .int (iI 0))] := hl
        refine lv_goto (tgt := 2) hx hb dX1_overlapAcross_27 (by decide) ?_
        refine lv_iload_n hx hb dX1_overlapAcross_2 rfl (lv_at hl 0 rfl) ?_
        refine li_iconst hx hb dX1_overlapAcross_3 ?_
        refine li_icmp_ge (tgt := 30) hx hb (by unfold iR; omega) (by unfold iR; omega) dX1_overlapAcross_4 (by decide) (fun _ => ?_) (fun h => absurd (by decide) h)
        refine li_iconst hx hb dX1_overlapAcross_30 ?_
        refine be_t hx hb hr hlocks ?_ dX1_overlapAcross_31
        exact ⟨Or.inl rfl, Or.inr h1, Or.inr h2⟩
      · refine li_if_ne (tgt := 24) hx hb (by unfold iR; omega) dX1_overlapAcross_19 (by decide) (fun h => absurd (by decide) h) (fun _ => ?_)
        refine li_iconst hx hb dX1_overlapAcross_22 ?_
        refine be_f hx hb hr hlocks ?_ dX1_overlapAcross_23
        exact fun q => q.2.2.elim (fun z => absurd z (by decide)) h2
    · refine li_if_ne (tgt := 24) hx hb (by unfold iR; omega) dX1_overlapAcross_19 (by decide) (fun h => absurd (by decide) h) (fun _ => ?_)
      refine li_iconst hx hb dX1_overlapAcross_22 ?_
      refine be_f hx hb hr hlocks ?_ dX1_overlapAcross_23
      exact fun q => q.2.1.elim (fun z => absurd z (by decide)) h1
  · refine li_iconst hx hb dX1_overlapAcross_0 ?_
    refine lv_istore_n (lv' := [(3, .int (iI 0)), (0, .ref (ad 20 p)), (1, .ref (ad 20 q)), (2, .int (iI 1))]) hx hb dX1_overlapAcross_1 rfl hl (by decide) rfl (fun ls hl => ?_)
    refine lv_iload_n hx hb dX1_overlapAcross_2 rfl (lv_at hl 0 rfl) ?_
    refine li_iconst hx hb dX1_overlapAcross_3 ?_
    refine li_icmp_ge (tgt := 30) hx hb (by unfold iR; omega) (by unfold iR; omega) dX1_overlapAcross_4 (by decide) (fun h => absurd h (by decide)) (fun _ => ?_)
    refine lv_iload_n hx hb dX1_overlapAcross_7 rfl (lv_at hl 0 rfl) ?_
    refine lv_iload_n hx hb dX1_overlapAcross_8 rfl (lv_at hl 3 rfl) ?_
    refine li_icmp_eq (tgt := 24) hx hb (by unfold iR; omega) (by unfold iR; omega) dX1_overlapAcross_9 (by decide) (fun h => absurd h (by decide)) (fun _ => ?_)
    refine lv_aload_n hx hb dX1_overlapAcross_12 rfl (lv_at hl 1 rfl) ?_
    refine li_iconst hx hb dX1_overlapAcross_13 ?_
    refine lv_aload_n hx hb dX1_overlapAcross_14 rfl (lv_at hl 2 rfl) ?_
    refine lv_iload_n hx hb dX1_overlapAcross_15 rfl (lv_at hl 0 rfl) ?_
    refine bc_SB (As := [.ref (ad 20 p), .int (iI 0), .ref (ad 20 q), .int (iI 0)]) (rest := []) ⟨hx, hb, hml, hown, hts⟩ (c_X1_overlap l g ad σ τ w p 0 q 0 hpp hpq hB (by omega) (by omega)) (va_cwS 4 hts gX1_overlapAcross_X1_overlap rfl rfl rfl (by decide +kernel) ⟨Nat.le_of_ble_eq_true rfl, Nat.le_of_ble_eq_true rfl⟩) hK hU  rfl hl.1 rfl (Nat.le_of_ble_eq_true rfl) dX1_overlapAcross_16 ⟨Nat.zero_le _, Nat.zero_le _⟩ (fun h3 => ?_) (fun h3 => ?_)
    · refine li_if_ne (tgt := 24) hx hb (by unfold iR; omega) dX1_overlapAcross_19 (by decide) (fun _ => ?_) (fun h => absurd h (by decide))
      refine li_iinc (k0 := 0) (lv' := [(3, .int (iI (0 + 1))), (0, .ref (ad 20 p)), (1, .ref (ad 20 q)), (2, .int (iI 1))]) hx hb dX1_overlapAcross_24 hl rfl (by decide) rfl (fun ls hl => ?_)
      have hl : lv_has ls 4 [(3, .int (iI 1)), (0, .ref (ad 20 p)), (1, .ref (ad 20 q)), (2, .int (iI 1))] := hl
      refine lv_goto (tgt := 2) hx hb dX1_overlapAcross_27 (by decide) ?_
      refine lv_iload_n hx hb dX1_overlapAcross_2 rfl (lv_at hl 0 rfl) ?_
      refine li_iconst hx hb dX1_overlapAcross_3 ?_
      refine li_icmp_ge (tgt := 30) hx hb (by unfold iR; omega) (by unfold iR; omega) dX1_overlapAcross_4 (by decide) (fun h => absurd h (by decide)) (fun _ => ?_)
      refine lv_iload_n hx hb dX1_overlapAcross_7 rfl (lv_at hl 0 rfl) ?_
      refine lv_iload_n hx hb dX1_overlapAcross_8 rfl (lv_at hl 3 rfl) ?_
      refine li_icmp_eq (tgt := 24) hx hb (by unfold iR; omega) (by unfold iR; omega) dX1_overlapAcross_9 (by decide) (fun _ => ?_) (fun h => absurd (by decide) h)
      refine li_iinc (k0 := 0) (lv' := [(3, .int (iI (1 + 1))), (0, .ref (ad 20 p)), (1, .ref (ad 20 q)), (2, .int (iI 1))]) hx hb dX1_overlapAcross_24 hl rfl (by decide) rfl (fun ls hl => ?_)
      have hl : lv_has ls 4 [(3, .int (iI 2)), (0, .ref (ad 20 p)), (1, .ref (ad 20 q)), (2, .int (iI 1))] := hl
      refine lv_goto (tgt := 2) hx hb dX1_overlapAcross_27 (by decide) ?_
      refine lv_iload_n hx hb dX1_overlapAcross_2 rfl (lv_at hl 0 rfl) ?_
      refine li_iconst hx hb dX1_overlapAcross_3 ?_
      refine li_icmp_ge (tgt := 30) hx hb (by unfold iR; omega) (by unfold iR; omega) dX1_overlapAcross_4 (by decide) (fun h => absurd h (by decide)) (fun _ => ?_)
      refine lv_iload_n hx hb dX1_overlapAcross_7 rfl (lv_at hl 0 rfl) ?_
      refine lv_iload_n hx hb dX1_overlapAcross_8 rfl (lv_at hl 3 rfl) ?_
      refine li_icmp_eq (tgt := 24) hx hb (by unfold iR; omega) (by unfold iR; omega) dX1_overlapAcross_9 (by decide) (fun h => absurd h (by decide)) (fun _ => ?_)
      refine lv_aload_n hx hb dX1_overlapAcross_12 rfl (lv_at hl 1 rfl) ?_
      refine li_iconst hx hb dX1_overlapAcross_13 ?_
      refine lv_aload_n hx hb dX1_overlapAcross_14 rfl (lv_at hl 2 rfl) ?_
      refine lv_iload_n hx hb dX1_overlapAcross_15 rfl (lv_at hl 0 rfl) ?_
      refine bc_SB (As := [.ref (ad 20 p), .int (iI 0), .ref (ad 20 q), .int (iI 2)]) (rest := []) ⟨hx, hb, hml, hown, hts⟩ (c_X1_overlap l g ad σ τ w p 0 q 2 hpp hpq hB (by omega) (by omega)) (va_cwS 4 hts gX1_overlapAcross_X1_overlap rfl rfl rfl (by decide +kernel) ⟨Nat.le_of_ble_eq_true rfl, Nat.le_of_ble_eq_true rfl⟩) hK hU  rfl hl.1 rfl (Nat.le_of_ble_eq_true rfl) dX1_overlapAcross_16 ⟨Nat.zero_le _, Nat.zero_le _⟩ (fun h4 => ?_) (fun h4 => ?_)
      · refine li_if_ne (tgt := 24) hx hb (by unfold iR; omega) dX1_overlapAcross_19 (by decide) (fun _ => ?_) (fun h => absurd h (by decide))
        refine li_iinc (k0 := 0) (lv' := [(3, .int (iI (2 + 1))), (0, .ref (ad 20 p)), (1, .ref (ad 20 q)), (2, .int (iI 1))]) hx hb dX1_overlapAcross_24 hl rfl (by decide) rfl (fun ls hl => ?_)
        have hl : lv_has ls 4 [(3, .int (iI 3)), (0, .ref (ad 20 p)), (1, .ref (ad 20 q)), (2, .int (iI 1))] := hl
        refine lv_goto (tgt := 2) hx hb dX1_overlapAcross_27 (by decide) ?_
        refine lv_iload_n hx hb dX1_overlapAcross_2 rfl (lv_at hl 0 rfl) ?_
        refine li_iconst hx hb dX1_overlapAcross_3 ?_
        refine li_icmp_ge (tgt := 30) hx hb (by unfold iR; omega) (by unfold iR; omega) dX1_overlapAcross_4 (by decide) (fun _ => ?_) (fun h => absurd (by decide) h)
        refine li_iconst hx hb dX1_overlapAcross_30 ?_
        refine be_t hx hb hr hlocks ?_ dX1_overlapAcross_31
        exact ⟨Or.inr h3, Or.inl rfl, Or.inr h4⟩
      · refine li_if_ne (tgt := 24) hx hb (by unfold iR; omega) dX1_overlapAcross_19 (by decide) (fun h => absurd (by decide) h) (fun _ => ?_)
        refine li_iconst hx hb dX1_overlapAcross_22 ?_
        refine be_f hx hb hr hlocks ?_ dX1_overlapAcross_23
        exact fun q => q.2.2.elim (fun z => absurd z (by decide)) h4
    · refine li_if_ne (tgt := 24) hx hb (by unfold iR; omega) dX1_overlapAcross_19 (by decide) (fun h => absurd (by decide) h) (fun _ => ?_)
      refine li_iconst hx hb dX1_overlapAcross_22 ?_
      refine be_f hx hb hr hlocks ?_ dX1_overlapAcross_23
      exact fun q => q.1.elim (fun z => absurd z (by decide)) h3
  · refine li_iconst hx hb dX1_overlapAcross_0 ?_
    refine lv_istore_n (lv' := [(3, .int (iI 0)), (0, .ref (ad 20 p)), (1, .ref (ad 20 q)), (2, .int (iI 2))]) hx hb dX1_overlapAcross_1 rfl hl (by decide) rfl (fun ls hl => ?_)
    refine lv_iload_n hx hb dX1_overlapAcross_2 rfl (lv_at hl 0 rfl) ?_
    refine li_iconst hx hb dX1_overlapAcross_3 ?_
    refine li_icmp_ge (tgt := 30) hx hb (by unfold iR; omega) (by unfold iR; omega) dX1_overlapAcross_4 (by decide) (fun h => absurd h (by decide)) (fun _ => ?_)
    refine lv_iload_n hx hb dX1_overlapAcross_7 rfl (lv_at hl 0 rfl) ?_
    refine lv_iload_n hx hb dX1_overlapAcross_8 rfl (lv_at hl 3 rfl) ?_
    refine li_icmp_eq (tgt := 24) hx hb (by unfold iR; omega) (by unfold iR; omega) dX1_overlapAcross_9 (by decide) (fun h => absurd h (by decide)) (fun _ => ?_)
    refine lv_aload_n hx hb dX1_overlapAcross_12 rfl (lv_at hl 1 rfl) ?_
    refine li_iconst hx hb dX1_overlapAcross_13 ?_
    refine lv_aload_n hx hb dX1_overlapAcross_14 rfl (lv_at hl 2 rfl) ?_
    refine lv_iload_n hx hb dX1_overlapAcross_15 rfl (lv_at hl 0 rfl) ?_
    refine bc_SB (As := [.ref (ad 20 p), .int (iI 0), .ref (ad 20 q), .int (iI 0)]) (rest := []) ⟨hx, hb, hml, hown, hts⟩ (c_X1_overlap l g ad σ τ w p 0 q 0 hpp hpq hB (by omega) (by omega)) (va_cwS 4 hts gX1_overlapAcross_X1_overlap rfl rfl rfl (by decide +kernel) ⟨Nat.le_of_ble_eq_true rfl, Nat.le_of_ble_eq_true rfl⟩) hK hU  rfl hl.1 rfl (Nat.le_of_ble_eq_true rfl) dX1_overlapAcross_16 ⟨Nat.zero_le _, Nat.zero_le _⟩ (fun h5 => ?_) (fun h5 => ?_)
    · refine li_if_ne (tgt := 24) hx hb (by unfold iR; omega) dX1_overlapAcross_19 (by decide) (fun _ => ?_) (fun h => absurd h (by decide))
      refine li_iinc (k0 := 0) (lv' := [(3, .int (iI (0 + 1))), (0, .ref (ad 20 p)), (1, .ref (ad 20 q)), (2, .int (iI 2))]) hx hb dX1_overlapAcross_24 hl rfl (by decide) rfl (fun ls hl => ?_)
      have hl : lv_has ls 4 [(3, .int (iI 1)), (0, .ref (ad 20 p)), (1, .ref (ad 20 q)), (2, .int (iI 2))] := hl
      refine lv_goto (tgt := 2) hx hb dX1_overlapAcross_27 (by decide) ?_
      refine lv_iload_n hx hb dX1_overlapAcross_2 rfl (lv_at hl 0 rfl) ?_
      refine li_iconst hx hb dX1_overlapAcross_3 ?_
      refine li_icmp_ge (tgt := 30) hx hb (by unfold iR; omega) (by unfold iR; omega) dX1_overlapAcross_4 (by decide) (fun h => absurd h (by decide)) (fun _ => ?_)
      refine lv_iload_n hx hb dX1_overlapAcross_7 rfl (lv_at hl 0 rfl) ?_
      refine lv_iload_n hx hb dX1_overlapAcross_8 rfl (lv_at hl 3 rfl) ?_
      refine li_icmp_eq (tgt := 24) hx hb (by unfold iR; omega) (by unfold iR; omega) dX1_overlapAcross_9 (by decide) (fun h => absurd h (by decide)) (fun _ => ?_)
      refine lv_aload_n hx hb dX1_overlapAcross_12 rfl (lv_at hl 1 rfl) ?_
      refine li_iconst hx hb dX1_overlapAcross_13 ?_
      refine lv_aload_n hx hb dX1_overlapAcross_14 rfl (lv_at hl 2 rfl) ?_
      refine lv_iload_n hx hb dX1_overlapAcross_15 rfl (lv_at hl 0 rfl) ?_
      refine bc_SB (As := [.ref (ad 20 p), .int (iI 0), .ref (ad 20 q), .int (iI 1)]) (rest := []) ⟨hx, hb, hml, hown, hts⟩ (c_X1_overlap l g ad σ τ w p 0 q 1 hpp hpq hB (by omega) (by omega)) (va_cwS 4 hts gX1_overlapAcross_X1_overlap rfl rfl rfl (by decide +kernel) ⟨Nat.le_of_ble_eq_true rfl, Nat.le_of_ble_eq_true rfl⟩) hK hU  rfl hl.1 rfl (Nat.le_of_ble_eq_true rfl) dX1_overlapAcross_16 ⟨Nat.zero_le _, Nat.zero_le _⟩ (fun h6 => ?_) (fun h6 => ?_)
      · refine li_if_ne (tgt := 24) hx hb (by unfold iR; omega) dX1_overlapAcross_19 (by decide) (fun _ => ?_) (fun h => absurd h (by decide))
        refine li_iinc (k0 := 0) (lv' := [(3, .int (iI (1 + 1))), (0, .ref (ad 20 p)), (1, .ref (ad 20 q)), (2, .int (iI 2))]) hx hb dX1_overlapAcross_24 hl rfl (by decide) rfl (fun ls hl => ?_)
        have hl : lv_has ls 4 [(3, .int (iI 2)), (0, .ref (ad 20 p)), (1, .ref (ad 20 q)), (2, .int (iI 2))] := hl
        refine lv_goto (tgt := 2) hx hb dX1_overlapAcross_27 (by decide) ?_
        refine lv_iload_n hx hb dX1_overlapAcross_2 rfl (lv_at hl 0 rfl) ?_
        refine li_iconst hx hb dX1_overlapAcross_3 ?_
        refine li_icmp_ge (tgt := 30) hx hb (by unfold iR; omega) (by unfold iR; omega) dX1_overlapAcross_4 (by decide) (fun h => absurd h (by decide)) (fun _ => ?_)
        refine lv_iload_n hx hb dX1_overlapAcross_7 rfl (lv_at hl 0 rfl) ?_
        refine lv_iload_n hx hb dX1_overlapAcross_8 rfl (lv_at hl 3 rfl) ?_
        refine li_icmp_eq (tgt := 24) hx hb (by unfold iR; omega) (by unfold iR; omega) dX1_overlapAcross_9 (by decide) (fun _ => ?_) (fun h => absurd (by decide) h)
        refine li_iinc (k0 := 0) (lv' := [(3, .int (iI (2 + 1))), (0, .ref (ad 20 p)), (1, .ref (ad 20 q)), (2, .int (iI 2))]) hx hb dX1_overlapAcross_24 hl rfl (by decide) rfl (fun ls hl => ?_)
        have hl : lv_has ls 4 [(3, .int (iI 3)), (0, .ref (ad 20 p)), (1, .ref (ad 20 q)), (2, .int (iI 2))] := hl
        refine lv_goto (tgt := 2) hx hb dX1_overlapAcross_27 (by decide) ?_
        refine lv_iload_n hx hb dX1_overlapAcross_2 rfl (lv_at hl 0 rfl) ?_
        refine li_iconst hx hb dX1_overlapAcross_3 ?_
        refine li_icmp_ge (tgt := 30) hx hb (by unfold iR; omega) (by unfold iR; omega) dX1_overlapAcross_4 (by decide) (fun _ => ?_) (fun h => absurd (by decide) h)
        refine li_iconst hx hb dX1_overlapAcross_30 ?_
        refine be_t hx hb hr hlocks ?_ dX1_overlapAcross_31
        exact ⟨Or.inr h5, Or.inr h6, Or.inl rfl⟩
      · refine li_if_ne (tgt := 24) hx hb (by unfold iR; omega) dX1_overlapAcross_19 (by decide) (fun h => absurd (by decide) h) (fun _ => ?_)
        refine li_iconst hx hb dX1_overlapAcross_22 ?_
        refine be_f hx hb hr hlocks ?_ dX1_overlapAcross_23
        exact fun q => q.2.1.elim (fun z => absurd z (by decide)) h6
    · refine li_if_ne (tgt := 24) hx hb (by unfold iR; omega) dX1_overlapAcross_19 (by decide) (fun h => absurd (by decide) h) (fun _ => ?_)
      refine li_iconst hx hb dX1_overlapAcross_22 ?_
      refine be_f hx hb hr hlocks ?_ dX1_overlapAcross_23
      exact fun q => q.1.elim (fun z => absurd z (by decide)) h5

set_option maxHeartbeats 4000000 in
set_option maxRecDepth 100000 in
theorem c_X1_roundWidth (l : Launch) (g : bxG) (ad : bxA) (σ τ : bxS) (w : bxW) (p q x : Int) (hpp : 0 ≤ p ∧ p < 60 ∧ σ 2 p 0 ≠ 0) (hpq : 0 ≤ q ∧ q < 60 ∧ σ 2 q 0 ≠ 0) (hB : bx_B σ) (hxx : 0 ≤ x ∧ x < 3) : Met l yX1_roundWidth wsX1_roundWidth ({ frames := 2, cells := 0, slots := 0, locals := 45 }) (va_Pc [.ref (ad 20 p), .ref (ad 20 q), .int (iI x)] (fun U => bx_I g ad σ τ w U)) (k2_QcV (.int (iI (rwd σ p q x)))) 0 0 (fun _ => False) := by
  refine Met.ofW (cc := cX1_roundWidth) (maxL := 7) (ret := (some .int)) (by decide) rfl ?_
  intro Pg Ev s mI args below meth cd s₁ B hml hv
  obtain ⟨rfl, hU, hK⟩ := hv
  have hx := B.exec
  have hb := B.bytes
  have hr := B.returns
  have hts := atoms_spec (ws := wsX1_roundWidth) B.pre
  have hown : s.vm.findClass RX1 = some mI.cls := findClass_of_methodNamed B.named
  have hlocks := B.notSynchronized
  have hl := lv_entry ([.ref (ad 20 p), .ref (ad 20 q), .int (iI x)]) (n := 7) (Nat.le_of_ble_eq_true rfl)
  rw [lg_entry_eq]
  generalize (lg_sl ([.ref (ad 20 p), .ref (ad 20 q), .int (iI x)]) ++ List.replicate (7 - (lg_sl ([.ref (ad 20 p), .ref (ad 20 q), .int (iI x)])).length) Slot.unset).toArray = ls at hl ⊢
  have hl : lv_has ls 7 [(0, .ref (ad 20 p)), (1, .ref (ad 20 q)), (2, .int (iI x))] := hl
  have hinX0 : ∀ w ∈ wsX00, w ∈ wsX1_roundWidth := by decide +kernel
  refine lv_aload_n hx hb dX1_roundWidth_0 rfl (lv_at hl 0 rfl) ?_
  refine bg_X0_radius hx hb hts hinX0 hown hK hU hpp (hts (.fieldLink RX1 176 "ClashBoxes$Part" "radius" "I") (by decide +kernel)) dX1_roundWidth_1 ?_
  have b1 := bB6 hB hpp
  refine lv_aload_n hx hb dX1_roundWidth_4 rfl (lv_at hl 1 rfl) ?_
  refine bg_X0_radius hx hb hts hinX0 hown hK hU hpq (hts (.fieldLink RX1 176 "ClashBoxes$Part" "radius" "I") (by decide +kernel)) dX1_roundWidth_5 ?_
  have b2 := bB6 hB hpq
  refine li_iadd hx hb dX1_roundWidth_8 ?_
  refine lv_istore_n (lv' := [(3, .int (iI ((σ 6 p 0) + (σ 6 q 0)))), (0, .ref (ad 20 p)), (1, .ref (ad 20 q)), (2, .int (iI x))]) hx hb dX1_roundWidth_9 rfl hl (by decide) rfl (fun ls hl => ?_)
  refine lv_aload_n hx hb dX1_roundWidth_10 rfl (lv_at hl 1 rfl) ?_
  refine lv_aload_n hx hb dX1_roundWidth_11 rfl (lv_at hl 2 rfl) ?_
  refine lv_iload_n hx hb dX1_roundWidth_12 rfl (lv_at hl 3 rfl) ?_
  refine bc_S (As := [.ref (ad 20 p), .ref (ad 20 q), .int (iI x)]) (rest := []) ⟨hx, hb, hml, hown, hts⟩ (c_X1_coreGap l g ad σ τ w p q x hpp hpq hB (by omega)) (va_cwS 3 hts gX1_roundWidth_X1_coreGap rfl rfl rfl (by decide +kernel) ⟨Nat.le_of_ble_eq_true rfl, Nat.le_of_ble_eq_true rfl⟩) hK hU  rfl hl.1 rfl (Nat.le_of_ble_eq_true rfl) dX1_roundWidth_13 ⟨Nat.zero_le _, Nat.zero_le _⟩ ?_
  have h3 := cgap_bd hB hpp hpq (a := x) (by omega) (by omega)
  refine lv_istore (lv' := [(4, .int (iI (cgap σ p q x))), (3, .int (iI ((σ 6 p 0) + (σ 6 q 0)))), (0, .ref (ad 20 p)), (1, .ref (ad 20 q)), (2, .int (iI x))]) hx hb dX1_roundWidth_16 hl (by decide) rfl (fun ls hl => ?_)
  refine lv_iload_n hx hb dX1_roundWidth_18 rfl (lv_at hl 1 rfl) ?_
  refine lv_iload_n hx hb dX1_roundWidth_19 rfl (lv_at hl 1 rfl) ?_
  refine li_imul hx hb dX1_roundWidth_20 ?_
  refine lv_iload hx hb dX1_roundWidth_21 (lv_at hl 0 rfl) ?_
  refine lv_iload hx hb dX1_roundWidth_23 (lv_at hl 0 rfl) ?_
  refine li_imul hx hb dX1_roundWidth_25 ?_
  refine li_isub hx hb dX1_roundWidth_26 ?_
  refine lv_istore (lv' := [(5, .int (iI ((((σ 6 p 0) + (σ 6 q 0)) * ((σ 6 p 0) + (σ 6 q 0))) - ((cgap σ p q x) * (cgap σ p q x))))), (4, .int (iI (cgap σ p q x))), (3, .int (iI ((σ 6 p 0) + (σ 6 q 0)))), (0, .ref (ad 20 p)), (1, .ref (ad 20 q)), (2, .int (iI x))]) hx hb dX1_roundWidth_27 hl (by decide) rfl (fun ls hl => ?_)
  have hs1 := sq_bd (x := σ 6 p 0 + σ 6 q 0) (B := 400) (by omega) (by omega)
  have hs2 := sq_bd (x := cgap σ p q x) (B := 1000) (by omega) (by omega)
  refine lv_iload_n hx hb dX1_roundWidth_29 rfl (lv_at hl 2 rfl) ?_
  refine lv_istore (lv' := [(6, .int (iI ((σ 6 p 0) + (σ 6 q 0)))), (5, .int (iI ((((σ 6 p 0) + (σ 6 q 0)) * ((σ 6 p 0) + (σ 6 q 0))) - ((cgap σ p q x) * (cgap σ p q x))))), (4, .int (iI (cgap σ p q x))), (3, .int (iI ((σ 6 p 0) + (σ 6 q 0)))), (0, .ref (ad 20 p)), (1, .ref (ad 20 q)), (2, .int (iI x))]) hx hb dX1_roundWidth_30 hl (by decide) rfl (fun ls hl => ?_)
  refine bl_loop (V := Int) (nL := 7) (I := fun v => [(6, .int (iI v)), (0, .ref (ad 20 p)), (1, .ref (ad 20 q)), (2, .int (iI x)), (3, .int (iI ((σ 6 p 0) + (σ 6 q 0)))), (4, .int (iI (cgap σ p q x))), (5, .int (iI ((((σ 6 p 0) + (σ 6 q 0)) * ((σ 6 p 0) + (σ 6 q 0))) - ((cgap σ p q x) * (cgap σ p q x)))))]) (Inv := fun v => (-1 ≤ v ∧ v ≤ 400) ∧ (wd ((σ 6 p 0 + σ 6 q 0) * (σ 6 p 0 + σ 6 q 0) - cgap σ p q x * cgap σ p q x) v = rwd σ p q x)) (μ := fun v => v + 1) ?_ ((σ 6 p 0) + (σ 6 q 0)) (show (-1 ≤ ((σ 6 p 0) + (σ 6 q 0)) ∧ ((σ 6 p 0) + (σ 6 q 0)) ≤ 400) ∧ (wd ((σ 6 p 0 + σ 6 q 0) * (σ 6 p 0 + σ 6 q 0) - cgap σ p q x * cgap σ p q x) ((σ 6 p 0) + (σ 6 q 0)) = rwd σ p q x) from ⟨by omega, rfl⟩) ls (lv_sub hl [0, 4, 5, 6, 3, 2, 1] rfl)
  intro v4 hI ih4 ls hl
  have hI : (-1 ≤ v4 ∧ v4 ≤ 400) ∧ (wd ((σ 6 p 0 + σ 6 q 0) * (σ 6 p 0 + σ 6 q 0) - cgap σ p q x * cgap σ p q x) v4 = rwd σ p q x) := hI
  obtain ⟨ha4, hc4⟩ := hI
  have hl : lv_has ls 7 [(6, .int (iI v4)), (0, .ref (ad 20 p)), (1, .ref (ad 20 q)), (2, .int (iI x)), (3, .int (iI ((σ 6 p 0) + (σ 6 q 0)))), (4, .int (iI (cgap σ p q x))), (5, .int (iI ((((σ 6 p 0) + (σ 6 q 0)) * ((σ 6 p 0) + (σ 6 q 0))) - ((cgap σ p q x) * (cgap σ p q x)))))] := hl
  refine lv_iload hx hb dX1_roundWidth_32 (lv_at hl 0 rfl) ?_
  refine li_if_lt (tgt := 56) hx hb (by unfold iR; omega) dX1_roundWidth_34 (by decide) (fun h5 => ?_) (fun h5 => ?_)
  · refine li_iconst hx hb dX1_roundWidth_56 ?_
    refine be_i hx hb hr hlocks ?_ dX1_roundWidth_57
    rw [← hc4, wd_end _ (by omega)]
  · have hs3 := sq_bd (x := v4) (B := 400) (by omega) (by omega)
    refine lv_iload hx hb dX1_roundWidth_37 (lv_at hl 0 rfl) ?_
    refine lv_iload hx hb dX1_roundWidth_39 (lv_at hl 0 rfl) ?_
    refine li_imul hx hb dX1_roundWidth_41 ?_
    refine lv_iload hx hb dX1_roundWidth_42 (lv_at hl 6 rfl) ?_
    refine li_icmp_ge (tgt := 50) hx hb (by unfold iR; omega) (by unfold iR; omega) dX1_roundWidth_44 (by decide) (fun h6 => ?_) (fun h6 => ?_)
    · refine li_iinc (k0 := 0) (lv' := [(6, .int (iI (v4 + (-1)))), (0, .ref (ad 20 p)), (1, .ref (ad 20 q)), (2, .int (iI x)), (3, .int (iI ((σ 6 p 0) + (σ 6 q 0)))), (4, .int (iI (cgap σ p q x))), (5, .int (iI ((((σ 6 p 0) + (σ 6 q 0)) * ((σ 6 p 0) + (σ 6 q 0))) - ((cgap σ p q x) * (cgap σ p q x)))))]) hx hb dX1_roundWidth_50 hl rfl (by decide) rfl (fun ls hl => ?_)
      refine lv_goto (tgt := 32) hx hb dX1_roundWidth_53 (by decide) ?_
      exact ih4 (v4 + (-1)) (show (-1 ≤ (v4 + (-1)) ∧ (v4 + (-1)) ≤ 400) ∧ (wd ((σ 6 p 0 + σ 6 q 0) * (σ 6 p 0 + σ 6 q 0) - cgap σ p q x * cgap σ p q x) (v4 + (-1)) = rwd σ p q x) from ⟨by omega, by rw [← hc4, wd_s ((σ 6 p 0 + σ 6 q 0) * (σ 6 p 0 + σ 6 q 0) - cgap σ p q x * cgap σ p q x) (w := v4) (by omega), if_neg (by omega)]; rfl⟩) (show 0 ≤ (v4 + (-1)) + 1 by omega) (show (v4 + (-1)) + 1 < v4 + 1 by omega) ls (lv_sub hl [0, 1, 2, 3, 4, 5, 6] rfl)
    · refine lv_iload hx hb dX1_roundWidth_47 (lv_at hl 0 rfl) ?_
      refine be_i hx hb hr hlocks ?_ dX1_roundWidth_49
      rw [← hc4, wd_s ((σ 6 p 0 + σ 6 q 0) * (σ 6 p 0 + σ 6 q 0) - cgap σ p q x * cgap σ p q x) (w := v4) (by omega), if_pos (by omega)]

theorem c_X1_roundAxis_B (l : Launch) (g : bxG) (ad : bxA) (σ τ : bxS) (w : bxW) (L G : Int → Int) (p q : Int) (hpp : 0 ≤ p ∧ p < 60 ∧ σ 2 p 0 ≠ 0) (hpq : 0 ≤ q ∧ q < 60 ∧ σ 2 q 0 ≠ 0) (hB : bx_B σ) : Met l yX1_roundAxis wsX1_roundAxis ({ frames := 1, cells := 0, slots := 0, locals := 20 }) (va_Pc [.ref (ad 20 p), .ref (ad 20 q)] (fun U => bx_I g ad (setF (setF σ 12 L) 13 G) τ w U)) (k2_QcV (.int (iI (rAx σ p q)))) 0 0 (fun _ => False) := by
  have h := c_X1_roundAxis l g ad (setF (setF σ 12 L) 13 G) τ w p q hpp hpq (bx_B.ag (ag_set2 σ L G) hB)
  rw [rAx_ag (ag_set2 σ L G)] at h
  exact h

theorem c_X0_hullLeast_B (l : Launch) (g : bxG) (ad : bxA) (σ τ : bxS) (w : bxW) (L G : Int → Int) (p a : Int) (hpp : 0 ≤ p ∧ p < 60 ∧ σ 2 p 0 ≠ 0) (hB : bx_B σ) (hxa : 0 ≤ a ∧ a < 3) : Met l yX0_hullLeast wsX0_hullLeast ({ frames := 0, cells := 0, slots := 0, locals := 0 }) (va_Pc [.ref (ad 20 p), .int (iI a)] (fun U => bx_I g ad (setF (setF σ 12 L) 13 G) τ w U)) (k2_QcV (.int (iI (hLo σ p a)))) 0 0 (fun _ => False) := by
  have h := c_X0_hullLeast l g ad (setF (setF σ 12 L) 13 G) τ w p a hpp (bx_B.ag (ag_set2 σ L G) hB) hxa
  rw [hLo_ag (ag_set2 σ L G)] at h
  exact h

theorem c_X0_hullGreatest_B (l : Launch) (g : bxG) (ad : bxA) (σ τ : bxS) (w : bxW) (L G : Int → Int) (p a : Int) (hpp : 0 ≤ p ∧ p < 60 ∧ σ 2 p 0 ≠ 0) (hB : bx_B σ) (hxa : 0 ≤ a ∧ a < 3) : Met l yX0_hullGreatest wsX0_hullGreatest ({ frames := 0, cells := 0, slots := 0, locals := 0 }) (va_Pc [.ref (ad 20 p), .int (iI a)] (fun U => bx_I g ad (setF (setF σ 12 L) 13 G) τ w U)) (k2_QcV (.int (iI (hHi σ p a)))) 0 0 (fun _ => False) := by
  have h := c_X0_hullGreatest l g ad (setF (setF σ 12 L) 13 G) τ w p a hpp (bx_B.ag (ag_set2 σ L G) hB) hxa
  rw [hHi_ag (ag_set2 σ L G)] at h
  exact h

theorem c_X1_overlap_B (l : Launch) (g : bxG) (ad : bxA) (σ τ : bxS) (w : bxW) (L G : Int → Int) (p m0 q a : Int) (hpp : 0 ≤ p ∧ p < 60 ∧ σ 2 p 0 ≠ 0) (hpq : 0 ≤ q ∧ q < 60 ∧ σ 2 q 0 ≠ 0) (hB : bx_B σ) (hxa : 0 ≤ a ∧ a < 3) (hm : 0 ≤ m0 ∧ m0 ≤ 50) : Met l yX1_overlap wsX1_overlap ({ frames := 1, cells := 0, slots := 0, locals := 21 }) (va_Pc [.ref (ad 20 p), .int (iI m0), .ref (ad 20 q), .int (iI a)] (fun U => bx_I g ad (setF (setF σ 12 L) 13 G) τ w U)) (k2_QcV (.int (iI (zB (ovl σ p m0 q a))))) 0 0 (fun _ => False) := by
  have h := c_X1_overlap l g ad (setF (setF σ 12 L) 13 G) τ w p m0 q a hpp hpq (bx_B.ag (ag_set2 σ L G) hB) hxa hm
  rw [ovl_ag (ag_set2 σ L G)] at h
  exact h

theorem c_X1_isNear_B (l : Launch) (g : bxG) (ad : bxA) (σ τ : bxS) (w : bxW) (L G : Int → Int) (p m0 q ax : Int) (hpp : 0 ≤ p ∧ p < 60 ∧ σ 2 p 0 ≠ 0) (hpq : 0 ≤ q ∧ q < 60 ∧ σ 2 q 0 ≠ 0) (hB : bx_B σ) (hxax : 0 ≤ ax ∧ ax < 3) (hm : 0 ≤ m0 ∧ m0 ≤ 50) : Met l yX1_isNear wsX1_isNear ({ frames := 2, cells := 0, slots := 0, locals := 45 }) (va_Pc [.ref (ad 20 p), .int (iI m0), .ref (ad 20 q), .int (iI ax)] (fun U => bx_I g ad (setF (setF σ 12 L) 13 G) τ w U)) (k2_QcV (.int (iI (zB (near σ p m0 q ax))))) 0 0 (fun _ => False) := by
  have h := c_X1_isNear l g ad (setF (setF σ 12 L) 13 G) τ w p m0 q ax hpp hpq (bx_B.ag (ag_set2 σ L G) hB) hxax hm
  rw [near_ag (ag_set2 σ L G)] at h
  exact h

theorem c_X1_overlapAcross_B (l : Launch) (g : bxG) (ad : bxA) (σ τ : bxS) (w : bxW) (L G : Int → Int) (p q a : Int) (hpp : 0 ≤ p ∧ p < 60 ∧ σ 2 p 0 ≠ 0) (hpq : 0 ≤ q ∧ q < 60 ∧ σ 2 q 0 ≠ 0) (hB : bx_B σ) (hxa : 0 ≤ a ∧ a < 3) : Met l yX1_overlapAcross wsX1_overlapAcross ({ frames := 2, cells := 0, slots := 0, locals := 44 }) (va_Pc [.ref (ad 20 p), .ref (ad 20 q), .int (iI a)] (fun U => bx_I g ad (setF (setF σ 12 L) 13 G) τ w U)) (k2_QcV (.int (iI (zB (ovA σ p q a))))) 0 0 (fun _ => False) := by
  have h := c_X1_overlapAcross l g ad (setF (setF σ 12 L) 13 G) τ w p q a hpp hpq (bx_B.ag (ag_set2 σ L G) hB) hxa
  rw [ovA_ag (ag_set2 σ L G)] at h
  exact h

theorem c_X1_roundWidth_B (l : Launch) (g : bxG) (ad : bxA) (σ τ : bxS) (w : bxW) (L G : Int → Int) (p q x : Int) (hpp : 0 ≤ p ∧ p < 60 ∧ σ 2 p 0 ≠ 0) (hpq : 0 ≤ q ∧ q < 60 ∧ σ 2 q 0 ≠ 0) (hB : bx_B σ) (hxx : 0 ≤ x ∧ x < 3) : Met l yX1_roundWidth wsX1_roundWidth ({ frames := 2, cells := 0, slots := 0, locals := 45 }) (va_Pc [.ref (ad 20 p), .ref (ad 20 q), .int (iI x)] (fun U => bx_I g ad (setF (setF σ 12 L) 13 G) τ w U)) (k2_QcV (.int (iI (rwd σ p q x)))) 0 0 (fun _ => False) := by
  have h := c_X1_roundWidth l g ad (setF (setF σ 12 L) 13 G) τ w p q x hpp hpq (bx_B.ag (ag_set2 σ L G) hB) hxx
  rw [rwd_ag (ag_set2 σ L G)] at h
  exact h

theorem c_X1_areFree_B (l : Launch) (g : bxG) (ad : bxA) (σ τ : bxS) (w : bxW) (L G : Int → Int) (a b : Int) (ha : 0 ≤ a ∧ a ≤ 7) (hb0 : 0 ≤ b ∧ b ≤ 7) (hB : bx_B σ) : Met l yX1_areFree wsX1_areFree ({ frames := 0, cells := 0, slots := 0, locals := 0 }) (va_Pc [.ref (ad 0 0), .int (iI a), .int (iI b)] (fun U => bx_I g ad (setF (setF σ 12 L) 13 G) τ w U)) (k2_QcV (.int (iI (zB (σ 9 (a * 8 + b) 0 ≠ 0))))) 0 0 (fun _ => False) := by
  have h := c_X1_areFree l g ad (setF (setF σ 12 L) 13 G) τ w a b ha hb0 (bx_B.ag (ag_set2 σ L G) hB)
  skip
  exact h

theorem c_X0_staysInSpace_B (l : Launch) (g : bxG) (ad : bxA) (σ τ : bxS) (w : bxW) (L G : Int → Int) (p a d : Int) (hpp : 0 ≤ p ∧ p < 60 ∧ σ 2 p 0 ≠ 0) (hB : bx_B σ) (hxa : 0 ≤ a ∧ a < 3) (hd : -3000 ≤ d ∧ d ≤ 3000) : Met l yX0_staysInSpace wsX0_staysInSpace ({ frames := 0, cells := 0, slots := 0, locals := 0 }) (va_Pc [.ref (ad 20 p), .int (iI a), .int (iI d)] (fun U => bx_I g ad (setF (setF σ 12 L) 13 G) τ w U)) (k2_QcV (.int (iI (zB (0 ≤ σ 7 p a + d ∧ σ 8 p a + d ≤ 1000))))) 0 0 (fun _ => False) := by
  have h := c_X0_staysInSpace l g ad (setF (setF σ 12 L) 13 G) τ w p a d hpp (bx_B.ag (ag_set2 σ L G) hB) hxa hd
  skip
  exact h
