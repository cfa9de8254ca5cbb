set_option maxHeartbeats 4000000 in
/-- the law's loop: j calls are behind it -/
theorem lw_loop {p : Program} {l : Launch} {e : Env} {s : State} {m : MethodId} {below : List Frame} {meth : Method} {c : Code} {b L : Nat} {xs : Nat → Int32} {g : bxG} {sa : Nat → Nat} (C : LC p l s m meth c b L xs g sa) : ∀ (n j : Nat), L ≤ 8 * (j + n) → j ≤ 512 → ∀ (ad : bxA) (σ τ : bxS) (w : bxW) (H : Heap) (locs : List Loc), inv σ τ → bx_U g ad σ τ w H → bx_F g s.heap H → bx_Lc g locs → ∀ ls : Array Slot, lv_has ls 8 [(4, .int (iI (8 * (j : Int)))), (0, .ref b), (1, .ref (ad 0 0)), (2, .ref (ad 7 0)), (3, .ref (ad 17 0))] → W p l e room_1 s m #[Value.ref b] below meth c H locs (20 + 3 * j) (1200 + 12 * j) (lw_Z below #[Value.ref b] s) (F0 m 23 ls []) := by
  intro n
  induction n with
  | zero =>
    intro j hj hj2 ad σ τ w H locs hI hU hF hlc ls hl
    obtain ⟨⟨hx, hb, hr, hml, hown⟩, hts, hX, hbl, hlocks, hK, hT, hNc, hgs, hst, hL⟩ := id C
    refine lv_iload hx hb dL_law_23 (lv_at hl 0 rfl) ?_
    refine lv_aload_n hx hb dL_law_25 rfl (lv_at hl 1 rfl) ?_
    refine bl_slen hx hb hX hbl hgs hF hlc dL_law_26 ?_
    refine li_bipush hx hb dL_law_27 (by decide) ?_
    refine li_isub hx hb dL_law_29 ?_
    refine li_icmp_gt (tgt := 1349) hx hb (by unfold iR; omega) (by unfold iR; omega) dL_law_30 (by decide) (fun h => ?_) (fun h => absurd h (by omega))
    refine li_iconst hx hb dL_law_1349 ?_
    refine va_forget (fun q hq => by have h9 := hlc q hq; omega) ?_
    refine W.widen (k := 694788) (n := 7011740) (by omega) (by omega) ?_
    exact lw_ret hx hb hr hlocks dL_law_1350
  | succ n ih =>
    intro j hj hj2 ad σ τ w H locs hI hU hF hlc ls hl
    obtain ⟨⟨hx, hb, hr, hml, hown⟩, hts, hX, hbl, hlocks, hK, hT, hNc, hgs, hst, hL⟩ := id C
    refine lv_iload hx hb dL_law_23 (lv_at hl 0 rfl) ?_
    refine lv_aload_n hx hb dL_law_25 rfl (lv_at hl 1 rfl) ?_
    refine bl_slen hx hb hX hbl hgs hF hlc dL_law_26 ?_
    refine li_bipush hx hb dL_law_27 (by decide) ?_
    refine li_isub hx hb dL_law_29 ?_
    refine li_icmp_gt (tgt := 1349) hx hb (by unfold iR; omega) (by unfold iR; omega) dL_law_30 (by decide) (fun h => ?_) (fun h => ?_)
    · refine li_iconst hx hb dL_law_1349 ?_
      refine va_forget (fun q hq => by have h9 := hlc q hq; omega) ?_
      refine W.widen (k := 694788) (n := 7011740) (by omega) (by omega) ?_
      exact lw_ret hx hb hr hlocks dL_law_1350
    · have kk : ∀ (ad : bxA) (σ τ : bxS) (w : bxW) (H : Heap) (locs : List Loc), inv σ τ → bx_U g ad σ τ w H → bx_F g s.heap H → bx_Lc g locs → ∀ ls : Array Slot, lv_has ls 8 [(4, .int (iI (8 * (j : Int)))), (0, .ref b), (1, .ref (ad 0 0)), (2, .ref (ad 7 0)), (3, .ref (ad 17 0))] → W p l e room_1 s m #[Value.ref b] below meth c H locs (20 + 3 * j + 3) (1200 + 12 * j + 12) (lw_Z below #[Value.ref b] s) (F0 m 1343 ls []) := by
        intro ad σ τ w H locs hI hU hF hlc ls hl
        refine li_iinc (k0 := 0) (lv' := [(4, .int (iI (8 * (j : Int) + 8))), (0, .ref b), (1, .ref (ad 0 0)), (2, .ref (ad 7 0)), (3, .ref (ad 17 0))]) hx hb dL_law_1343 hl rfl (by decide) rfl (fun ls hl => ?_)
        refine lv_goto (tgt := 23) hx hb dL_law_1346 (by decide) ?_
        refine W.widen (k := 20 + 3 * (j + 1)) (n := 1200 + 12 * (j + 1)) (by omega) (by omega) ?_
        rw [show (8 * (j : Int) + 8) = 8 * ((j + 1 : Nat) : Int) by omega] at hl
        exact ih (j + 1) (by omega) (by omega) ad σ τ w H locs hI hU hF hlc ls hl
      refine lv_aload_n hx hb dL_law_33 rfl (lv_at hl 1 rfl) ?_
      refine lv_iload hx hb dL_law_34 (lv_at hl 0 rfl) ?_
      refine bl_scr hx hb hX hbl hgs hF hlc hL (by omega) (by omega) rfl dL_law_36 ?_
      refine li_bipush hx hb dL_law_37 (by decide) ?_
      refine lv_iand hx hb dL_law_39 ?_
      obtain ⟨k, hk, ek⟩ := pk_andE (iI (xz xs (8 * (j : Int)))) (m := iI 15) 4 (by decide)
      rw [ek]
      have hi : 0 ≤ 8 * (j : Int) ∧ 8 * (j : Int) + 8 ≤ L := ⟨by omega, by omega⟩
      have hc : 20 + 3 * j + 3 ≤ 694788 ∧ 1200 + 12 * j + 12 ≤ 7011740 := ⟨by omega, by omega⟩
      rcases (by omega : k = 0 ∨ k = 1 ∨ k = 2 ∨ k = 3 ∨ k = 4 ∨ k = 5 ∨ k = 6 ∨ k = 7 ∨ k = 8 ∨ k = 9 ∨ k = 10 ∨ k = 11 ∨ k = 12 ∨ k = 13 ∨ k = 14 ∨ k = 15) with rfl | rfl | rfl | rfl | rfl | rfl | rfl | rfl | rfl | rfl | rfl | rfl | rfl | rfl | rfl | rfl
      · refine lv_tableIn (tgt := 120) hx hb dL_law_40 (by decide) (by decide) (off := 80) (by decide) (by decide) ?_
        exact ls_box C hI hU hF hlc hi hc hl kk
      · refine lv_tableIn (tgt := 252) hx hb dL_law_40 (by decide) (by decide) (off := 212) (by decide) (by decide) ?_
        exact ls_tube C hI hU hF hlc hi hc hl kk
      · refine lv_tableIn (tgt := 384) hx hb dL_law_40 (by decide) (by decide) (off := 344) (by decide) (by decide) ?_
        exact ls_margin C hI hU hF hlc hi hc hl kk
      · refine lv_tableIn (tgt := 452) hx hb dL_law_40 (by decide) (by decide) (off := 412) (by decide) (by decide) ?_
        exact ls_free C hI hU hF hlc hi hc hl kk
      · refine lv_tableIn (tgt := 555) hx hb dL_law_40 (by decide) (by decide) (off := 515) (by decide) (by decide) ?_
        exact ls_move C hI hU hF hlc hi hc hl kk
      · refine lv_tableIn (tgt := 642) hx hb dL_law_40 (by decide) (by decide) (off := 602) (by decide) (by decide) ?_
        exact ls_drop C hI hU hF hlc hi hc hl kk
      · refine lv_tableIn (tgt := 698) hx hb dL_law_40 (by decide) (by decide) (off := 658) (by decide) (by decide) ?_
        exact ls_pair C hI hU hF hlc hi hc hl kk
      · refine lv_tableIn (tgt := 766) hx hb dL_law_40 (by decide) (by decide) (off := 726) (by decide) (by decide) ?_
        exact ls_clashes C hI hU hF hlc hi hc hl kk
      · refine lv_tableIn (tgt := 822) hx hb dL_law_40 (by decide) (by decide) (off := 782) (by decide) (by decide) ?_
        exact ls_clash C hI hU hF hlc hi hc hl kk
      · refine lv_tableIn (tgt := 902) hx hb dL_law_40 (by decide) (by decide) (off := 862) (by decide) (by decide) ?_
        exact ls_groups C hI hU hF hlc hi hc hl kk
      · refine lv_tableIn (tgt := 915) hx hb dL_law_40 (by decide) (by decide) (off := 875) (by decide) (by decide) ?_
        exact ls_group C hI hU hF hlc hi hc hl kk
      · refine lv_tableIn (tgt := 971) hx hb dL_law_40 (by decide) (by decide) (off := 931) (by decide) (by decide) ?_
        exact ls_common C hI hU hF hlc hi hc hl kk
      · refine lv_tableIn (tgt := 1038) hx hb dL_law_40 (by decide) (by decide) (off := 998) (by decide) (by decide) ?_
        exact ls_inside C hI hU hF hlc hi hc hl kk
      · refine lv_tableIn (tgt := 1170) hx hb dL_law_40 (by decide) (by decide) (off := 1130) (by decide) (by decide) ?_
        exact ls_shift C hI hU hF hlc hi hc hl kk
      · refine lv_tableIn (tgt := 1250) hx hb dL_law_40 (by decide) (by decide) (off := 1210) (by decide) (by decide) ?_
        exact ls_hull C hI hU hF hlc hi hc hl kk
      · refine lv_tableIn (tgt := 1330) hx hb dL_law_40 (by decide) (by decide) (off := 1290) (by decide) (by decide) ?_
        exact ls_parts C hI hU hF hlc hi hc hl kk
