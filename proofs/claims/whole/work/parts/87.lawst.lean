set_option maxHeartbeats 4000000 in
set_option maxRecDepth 100000 in
theorem ls_box {p : Program} {l : Launch} {e : Env} {s : State} {m : MethodId} {below : List Frame} {meth : Method} {c : Code} {b L : Nat} {xs : Nat → Int32} {g : bxG} {sa : Nat → Nat} (C : LC p l s m meth c b L xs g sa) {Q : State → Prop} {ad : bxA} {σ τ : bxS} {w : bxW} {H : Heap} {locs : List Loc} {cells slots : Nat} (hI : inv σ τ) (hU : bx_U g ad σ τ w H) (hF : bx_F g s.heap H) (hlc : bx_Lc g locs) {i : Int} (hi : 0 ≤ i ∧ i + 8 ≤ L) (hc : cells + 3 ≤ 694788 ∧ slots + 12 ≤ 7011740) {ls : Array Slot} (hl : lv_has ls 8 [(4, .int (iI i)), (0, .ref b), (1, .ref (ad 0 0)), (2, .ref (ad 7 0)), (3, .ref (ad 17 0))])
    (kk : ∀ (ad : bxA) (σ τ : bxS) (w : bxW) (H : Heap) (locs : List Loc), inv σ τ → bx_U g ad σ τ w H → bx_F g s.heap H → bx_Lc g locs → ∀ ls : Array Slot, lv_has ls 8 [(4, .int (iI i)), (0, .ref b), (1, .ref (ad 0 0)), (2, .ref (ad 7 0)), (3, .ref (ad 17 0))] → W p l e room_1 s m #[Value.ref b] below meth c H locs (cells + 3) (slots + 12) Q (F0 m 1343 ls [])) : W p l e room_1 s m #[Value.ref b] below meth c H locs cells slots Q (F0 m 120 ls []) := by
  obtain ⟨⟨hx, hb, hr, hml, hown⟩, hts, hX, hbl, hlocks, hK, hT, hNc, hgs, hst, hL⟩ := C
  have hB := hI.B
  have hBt := hI.2.1
  have hM := hI.2.2.1
  have h15 := hI.2.2.2
  have hm0 := bB0 hBt
  have hmd := v_made hI
  obtain ⟨z1, hz1⟩ : ∃ z, xz xs (i + 1) = z := ⟨_, rfl⟩
  have hy1 : -2147483648 ≤ z1 ∧ z1 < 2147483648 := by rw [← hz1]; exact iR_self _
  obtain ⟨z2, hz2⟩ : ∃ z, xz xs (i + 2) = z := ⟨_, rfl⟩
  have hy2 : -2147483648 ≤ z2 ∧ z2 < 2147483648 := by rw [← hz2]; exact iR_self _
  obtain ⟨z3, hz3⟩ : ∃ z, xz xs (i + 3) = z := ⟨_, rfl⟩
  have hy3 : -2147483648 ≤ z3 ∧ z3 < 2147483648 := by rw [← hz3]; exact iR_self _
  obtain ⟨z4, hz4⟩ : ∃ z, xz xs (i + 4) = z := ⟨_, rfl⟩
  have hy4 : -2147483648 ≤ z4 ∧ z4 < 2147483648 := by rw [← hz4]; exact iR_self _
  obtain ⟨z5, hz5⟩ : ∃ z, xz xs (i + 5) = z := ⟨_, rfl⟩
  have hy5 : -2147483648 ≤ z5 ∧ z5 < 2147483648 := by rw [← hz5]; exact iR_self _
  obtain ⟨z6, hz6⟩ : ∃ z, xz xs (i + 6) = z := ⟨_, rfl⟩
  have hy6 : -2147483648 ≤ z6 ∧ z6 < 2147483648 := by rw [← hz6]; exact iR_self _
  obtain ⟨z7, hz7⟩ : ∃ z, xz xs (i + 7) = z := ⟨_, rfl⟩
  have hy7 : -2147483648 ≤ z7 ∧ z7 < 2147483648 := by rw [← hz7]; exact iR_self _
  by_cases hg : (0 ≤ z1 ∧ z1 ≤ 7) ∧ (0 ≤ z2 ∧ z2 ≤ 1000 ∧ 1 ≤ z5 ∧ z5 ≤ 1000 ∧ z2 + z5 ≤ 1000) ∧ (0 ≤ z3 ∧ z3 ≤ 1000 ∧ 1 ≤ z6 ∧ z6 ≤ 1000 ∧ z3 + z6 ≤ 1000) ∧ (0 ≤ z4 ∧ z4 ≤ 1000 ∧ 1 ≤ z7 ∧ z7 ≤ 1000 ∧ z4 + z7 ≤ 1000)
  · by_cases hm : τ 0 0 0 < 60
    · refine lv_aload_n hx hb dL_law_120 rfl (lv_at hl 2 rfl) ?_
      refine lv_aload_n hx hb dL_law_121 rfl (lv_at hl 1 rfl) ?_
      refine lv_iload hx hb dL_law_122 (lv_at hl 0 rfl) ?_
      refine li_iconst hx hb dL_law_124 ?_
      refine li_iadd hx hb dL_law_125 ?_
      refine bl_scr hx hb hX hbl hgs hF hlc hL (by omega) (by omega) hz1 dL_law_126 ?_
      refine lv_aload_n hx hb dL_law_127 rfl (lv_at hl 1 rfl) ?_
      refine lv_iload hx hb dL_law_128 (lv_at hl 0 rfl) ?_
      refine li_iconst hx hb dL_law_130 ?_
      refine li_iadd hx hb dL_law_131 ?_
      refine bl_scr hx hb hX hbl hgs hF hlc hL (by omega) (by omega) hz2 dL_law_132 ?_
      refine lv_aload_n hx hb dL_law_133 rfl (lv_at hl 1 rfl) ?_
      refine lv_iload hx hb dL_law_134 (lv_at hl 0 rfl) ?_
      refine li_iconst hx hb dL_law_136 ?_
      refine li_iadd hx hb dL_law_137 ?_
      refine bl_scr hx hb hX hbl hgs hF hlc hL (by omega) (by omega) hz3 dL_law_138 ?_
      refine lv_aload_n hx hb dL_law_139 rfl (lv_at hl 1 rfl) ?_
      refine lv_iload hx hb dL_law_140 (lv_at hl 0 rfl) ?_
      refine li_iconst hx hb dL_law_142 ?_
      refine li_iadd hx hb dL_law_143 ?_
      refine bl_scr hx hb hX hbl hgs hF hlc hL (by omega) (by omega) hz4 dL_law_144 ?_
      refine lv_aload_n hx hb dL_law_145 rfl (lv_at hl 1 rfl) ?_
      refine lv_iload hx hb dL_law_146 (lv_at hl 0 rfl) ?_
      refine li_iconst hx hb dL_law_148 ?_
      refine li_iadd hx hb dL_law_149 ?_
      refine bl_scr hx hb hX hbl hgs hF hlc hL (by omega) (by omega) hz5 dL_law_150 ?_
      refine lv_aload_n hx hb dL_law_151 rfl (lv_at hl 1 rfl) ?_
      refine lv_iload hx hb dL_law_152 (lv_at hl 0 rfl) ?_
      refine li_bipush hx hb dL_law_154 (by decide) ?_
      refine li_iadd hx hb dL_law_156 ?_
      refine bl_scr hx hb hX hbl hgs hF hlc hL (by omega) (by omega) hz6 dL_law_157 ?_
      refine lv_aload_n hx hb dL_law_158 rfl (lv_at hl 1 rfl) ?_
      refine lv_iload hx hb dL_law_159 (lv_at hl 0 rfl) ?_
      refine li_bipush hx hb dL_law_161 (by decide) ?_
      refine li_iadd hx hb dL_law_163 ?_
      refine bl_scr hx hb hX hbl hgs hF hlc hL (by omega) (by omega) hz7 dL_law_164 ?_
      refine lv_aload_n hx hb dL_law_165 rfl (lv_at hl 4 rfl) ?_
      refine bk_S (As := [.ref (ad 0 0), .int (iI z1), .int (iI z2), .int (iI z3), .int (iI z4), .int (iI z5), .int (iI z6), .int (iI z7), .ref (ad 17 0)]) (rest := []) ⟨hx, hb, hml, hown, hts⟩ (lh_box_t l g ad σ τ w sa z1 z2 z3 z4 z5 z6 z7 (by unfold iR; omega) (by unfold iR; omega) (by unfold iR; omega) (by unfold iR; omega) (by unfold iR; omega) (by unfold iR; omega) (by unfold iR; omega) hB (by omega)) (vx_cwSW 9 hts gL_law_L_box rfl rfl rfl (by decide +kernel) ⟨Nat.le_of_ble_eq_true rfl, Nat.le_of_ble_eq_true rfl⟩) (lw_pre hK hU hT hF hNc) hlc rfl hl.1 rfl (Nat.le_of_ble_eq_true rfl) dL_law_166 ⟨by show _ ≤ 694788; omega, by show _ ≤ 7011740; omega⟩ (fun H locs hU hF1 hlc => ?_)
      have hF := hF.tr hF1
      obtain ⟨ad1, e0, hU⟩ := hU
      rw [← e0 0 (by omega), ← e0 7 (by omega), ← e0 17 (by omega)] at hl
      have hU : bx_U g ad1 (boxC σ z1 z2 z3 z4 z5 z6 z7) τ ((iI (σ 0 0 0)).toInt64, w.2) H := hU
      refine lv_istore (lv' := [(5, .int (iI 0)), (4, .int (iI i)), (0, .ref b), (1, .ref (ad1 0 0)), (2, .ref (ad1 7 0)), (3, .ref (ad1 17 0))]) hx hb dL_law_169 hl (by decide) rfl (fun ls hl => ?_)
      refine lv_aload_n hx hb dL_law_171 rfl (lv_at hl 4 rfl) ?_
      refine lv_aload_n hx hb dL_law_172 rfl (lv_at hl 2 rfl) ?_
      refine lv_iload hx hb dL_law_173 (lv_at hl 1 rfl) ?_
      refine li_iconst hx hb dL_law_175 ?_
      refine li_iadd hx hb dL_law_176 ?_
      refine bl_scr hx hb hX hbl hgs hF hlc hL (by omega) (by omega) hz1 dL_law_177 ?_
      refine lv_aload_n hx hb dL_law_178 rfl (lv_at hl 2 rfl) ?_
      refine lv_iload hx hb dL_law_179 (lv_at hl 1 rfl) ?_
      refine li_iconst hx hb dL_law_181 ?_
      refine li_iadd hx hb dL_law_182 ?_
      refine bl_scr hx hb hX hbl hgs hF hlc hL (by omega) (by omega) hz2 dL_law_183 ?_
      refine lv_aload_n hx hb dL_law_184 rfl (lv_at hl 2 rfl) ?_
      refine lv_iload hx hb dL_law_185 (lv_at hl 1 rfl) ?_
      refine li_iconst hx hb dL_law_187 ?_
      refine li_iadd hx hb dL_law_188 ?_
      refine bl_scr hx hb hX hbl hgs hF hlc hL (by omega) (by omega) hz3 dL_law_189 ?_
      refine lv_aload_n hx hb dL_law_190 rfl (lv_at hl 2 rfl) ?_
      refine lv_iload hx hb dL_law_191 (lv_at hl 1 rfl) ?_
      refine li_iconst hx hb dL_law_193 ?_
      refine li_iadd hx hb dL_law_194 ?_
      refine bl_scr hx hb hX hbl hgs hF hlc hL (by omega) (by omega) hz4 dL_law_195 ?_
      refine lv_aload_n hx hb dL_law_196 rfl (lv_at hl 2 rfl) ?_
      refine lv_iload hx hb dL_law_197 (lv_at hl 1 rfl) ?_
      refine li_iconst hx hb dL_law_199 ?_
      refine li_iadd hx hb dL_law_200 ?_
      refine bl_scr hx hb hX hbl hgs hF hlc hL (by omega) (by omega) hz5 dL_law_201 ?_
      refine lv_aload_n hx hb dL_law_202 rfl (lv_at hl 2 rfl) ?_
      refine lv_iload hx hb dL_law_203 (lv_at hl 1 rfl) ?_
      refine li_bipush hx hb dL_law_205 (by decide) ?_
      refine li_iadd hx hb dL_law_207 ?_
      refine bl_scr hx hb hX hbl hgs hF hlc hL (by omega) (by omega) hz6 dL_law_208 ?_
      refine lv_aload_n hx hb dL_law_209 rfl (lv_at hl 2 rfl) ?_
      refine lv_iload hx hb dL_law_210 (lv_at hl 1 rfl) ?_
      refine li_bipush hx hb dL_law_212 (by decide) ?_
      refine li_iadd hx hb dL_law_214 ?_
      refine bl_scr hx hb hX hbl hgs hF hlc hL (by omega) (by omega) hz7 dL_law_215 ?_
      refine bc_VW (As := [.int (iI z1), .int (iI z2), .int (iI z3), .int (iI z4), .int (iI z5), .int (iI z6), .int (iI z7)]) (rest := []) (kd := 7) (k := 0) (ci := 2) ⟨hx, hb, hml, hown, hts⟩ (c_X2_box_t l g ad1 (boxC σ z1 z2 z3 z4 z5 z6 z7) τ ((iI (σ 0 0 0)).toInt64, w.2) z1 z2 z3 z4 z5 z6 z7 (by unfold iR; omega) (by unfold iR; omega) (by unfold iR; omega) (by unfold iR; omega) (by unfold iR; omega) (by unfold iR; omega) (by unfold iR; omega) hBt (by omega)) (cwV 7 hts gL_law_X2_box rfl rfl rfl (by decide +kernel) ⟨Nat.le_of_ble_eq_true rfl, Nat.le_of_ble_eq_true rfl⟩) hK hU hlc (bx_L0 (by omega)) rfl rfl rfl hl.1 rfl (Nat.le_of_ble_eq_true rfl) dL_law_216 ⟨by show _ ≤ 694788; omega, by show _ ≤ 7011740; omega⟩ (fun H locs hU hF1 hlc => ?_)
      have hF := hF.tr hF1
      refine lv_istore (lv' := [(6, .int (iI (τ 0 0 0))), (5, .int (iI 0)), (4, .int (iI i)), (0, .ref b), (1, .ref (ad1 0 0)), (2, .ref (ad1 7 0)), (3, .ref (ad1 17 0))]) hx hb dL_law_219 hl (by decide) rfl (fun ls hl => ?_)
      refine lv_aload_n hx hb dL_law_221 rfl (lv_at hl 5 rfl) ?_
      refine bc_V (As := []) (rest := []) (kd := 7) (k := 0) (ci := 2) ⟨hx, hb, hml, hown, hts⟩ (c_X2_thrown l g ad1 (boxC σ z1 z2 z3 z4 z5 z6 z7) (boxS τ z1 z2 z3 z4 z5 z6 z7) (((iI (σ 0 0 0)).toInt64, w.2).1, 0)) (cwV 0 hts gL_law_X2_thrown rfl rfl rfl (by decide +kernel) ⟨Nat.le_of_ble_eq_true rfl, Nat.le_of_ble_eq_true rfl⟩) hK hU (bx_L0 (by omega)) rfl rfl rfl hl.1 rfl (Nat.le_of_ble_eq_true rfl) dL_law_222 ⟨by show _ ≤ 694788; omega, by show _ ≤ 7011740; omega⟩ ?_
      refine W.eq (g2 := F0 m 225 ls [.int (iI 0)]) rfl ?_
      refine lv_iload hx hb dL_law_225 (lv_at hl 1 rfl) ?_
      refine li_icmp_eq (tgt := 232) hx hb (by unfold iR; omega) (by unfold iR; omega) dL_law_227 (by decide) (fun _ => ?_) (fun h => absurd (by decide) h)
      refine lv_iload hx hb dL_law_232 (lv_at hl 1 rfl) ?_
      refine li_if_ne (tgt := 249) hx hb (by unfold iR; omega) dL_law_234 (by decide) (fun h => absurd (by decide) h) (fun _ => ?_)
      refine lv_aload_n hx hb dL_law_237 rfl (lv_at hl 6 rfl) ?_
      refine li_iconst hx hb dL_law_238 ?_
      refine bl_17 hx hb hK hU dL_law_239 ?_
      refine W.eq (g2 := F0 m 240 ls [.long ((iI (σ 0 0 0)).toInt64)]) rfl ?_
      refine lv_iload hx hb dL_law_240 (lv_at hl 0 rfl) ?_
      refine lv_i2l (v := (iI (τ 0 0 0)).toInt64) hx hb dL_law_242 rfl ?_
      refine bl_lcmp hx hb (congrArg (fun z => (iI z).toInt64) (hmd)) dL_law_243 ?_
      refine li_if_eq (tgt := 249) hx hb (by unfold iR; omega) dL_law_244 (by decide) (fun _ => ?_) (fun h => absurd (by decide) h)
      refine lv_goto (tgt := 1343) hx hb dL_law_249 (by decide) ?_
      refine W.widen (k := cells + 3) (n := slots + 12) (by omega) (by omega) ?_
      exact kk ad1 (boxC σ z1 z2 z3 z4 z5 z6 z7) (boxS τ z1 z2 z3 z4 z5 z6 z7) (((iI (σ 0 0 0)).toInt64, w.2).1, 0) H locs (inv_box hI ⟨hg, hm⟩) hU hF hlc ls (lv_sub hl [2, 3, 4, 5, 6] rfl)
    · refine lv_aload_n hx hb dL_law_120 rfl (lv_at hl 2 rfl) ?_
      refine lv_aload_n hx hb dL_law_121 rfl (lv_at hl 1 rfl) ?_
      refine lv_iload hx hb dL_law_122 (lv_at hl 0 rfl) ?_
      refine li_iconst hx hb dL_law_124 ?_
      refine li_iadd hx hb dL_law_125 ?_
      refine bl_scr hx hb hX hbl hgs hF hlc hL (by omega) (by omega) hz1 dL_law_126 ?_
      refine lv_aload_n hx hb dL_law_127 rfl (lv_at hl 1 rfl) ?_
      refine lv_iload hx hb dL_law_128 (lv_at hl 0 rfl) ?_
      refine li_iconst hx hb dL_law_130 ?_
      refine li_iadd hx hb dL_law_131 ?_
      refine bl_scr hx hb hX hbl hgs hF hlc hL (by omega) (by omega) hz2 dL_law_132 ?_
      refine lv_aload_n hx hb dL_law_133 rfl (lv_at hl 1 rfl) ?_
      refine lv_iload hx hb dL_law_134 (lv_at hl 0 rfl) ?_
      refine li_iconst hx hb dL_law_136 ?_
      refine li_iadd hx hb dL_law_137 ?_
      refine bl_scr hx hb hX hbl hgs hF hlc hL (by omega) (by omega) hz3 dL_law_138 ?_
      refine lv_aload_n hx hb dL_law_139 rfl (lv_at hl 1 rfl) ?_
      refine lv_iload hx hb dL_law_140 (lv_at hl 0 rfl) ?_
      refine li_iconst hx hb dL_law_142 ?_
      refine li_iadd hx hb dL_law_143 ?_
      refine bl_scr hx hb hX hbl hgs hF hlc hL (by omega) (by omega) hz4 dL_law_144 ?_
      refine lv_aload_n hx hb dL_law_145 rfl (lv_at hl 1 rfl) ?_
      refine lv_iload hx hb dL_law_146 (lv_at hl 0 rfl) ?_
      refine li_iconst hx hb dL_law_148 ?_
      refine li_iadd hx hb dL_law_149 ?_
      refine bl_scr hx hb hX hbl hgs hF hlc hL (by omega) (by omega) hz5 dL_law_150 ?_
      refine lv_aload_n hx hb dL_law_151 rfl (lv_at hl 1 rfl) ?_
      refine lv_iload hx hb dL_law_152 (lv_at hl 0 rfl) ?_
      refine li_bipush hx hb dL_law_154 (by decide) ?_
      refine li_iadd hx hb dL_law_156 ?_
      refine bl_scr hx hb hX hbl hgs hF hlc hL (by omega) (by omega) hz6 dL_law_157 ?_
      refine lv_aload_n hx hb dL_law_158 rfl (lv_at hl 1 rfl) ?_
      refine lv_iload hx hb dL_law_159 (lv_at hl 0 rfl) ?_
      refine li_bipush hx hb dL_law_161 (by decide) ?_
      refine li_iadd hx hb dL_law_163 ?_
      refine bl_scr hx hb hX hbl hgs hF hlc hL (by omega) (by omega) hz7 dL_law_164 ?_
      refine lv_aload_n hx hb dL_law_165 rfl (lv_at hl 4 rfl) ?_
      refine bk_S (As := [.ref (ad 0 0), .int (iI z1), .int (iI z2), .int (iI z3), .int (iI z4), .int (iI z5), .int (iI z6), .int (iI z7), .ref (ad 17 0)]) (rest := []) ⟨hx, hb, hml, hown, hts⟩ (lh_box_s l hst g ad σ τ w sa z1 z2 z3 z4 z5 z6 z7 (by unfold iR; omega) (by unfold iR; omega) (by unfold iR; omega) (by unfold iR; omega) (by unfold iR; omega) (by unfold iR; omega) (by unfold iR; omega) hB (by omega)) (vx_cwSW 9 hts gL_law_L_box rfl rfl rfl (by decide +kernel) ⟨Nat.le_of_ble_eq_true rfl, Nat.le_of_ble_eq_true rfl⟩) (lw_pre hK hU hT hF hNc) hlc rfl hl.1 rfl (Nat.le_of_ble_eq_true rfl) dL_law_166 ⟨by show _ ≤ 694788; omega, by show _ ≤ 7011740; omega⟩ (fun H locs hU hF1 hlc => ?_)
      have hF := hF.tr hF1
      have hU : bx_U g ad σ τ w H := hU
      refine lv_istore (lv' := [(5, .int (iI 2)), (4, .int (iI i)), (0, .ref b), (1, .ref (ad 0 0)), (2, .ref (ad 7 0)), (3, .ref (ad 17 0))]) hx hb dL_law_169 hl (by decide) rfl (fun ls hl => ?_)
      refine lv_aload_n hx hb dL_law_171 rfl (lv_at hl 4 rfl) ?_
      refine lv_aload_n hx hb dL_law_172 rfl (lv_at hl 2 rfl) ?_
      refine lv_iload hx hb dL_law_173 (lv_at hl 1 rfl) ?_
      refine li_iconst hx hb dL_law_175 ?_
      refine li_iadd hx hb dL_law_176 ?_
      refine bl_scr hx hb hX hbl hgs hF hlc hL (by omega) (by omega) hz1 dL_law_177 ?_
      refine lv_aload_n hx hb dL_law_178 rfl (lv_at hl 2 rfl) ?_
      refine lv_iload hx hb dL_law_179 (lv_at hl 1 rfl) ?_
      refine li_iconst hx hb dL_law_181 ?_
      refine li_iadd hx hb dL_law_182 ?_
      refine bl_scr hx hb hX hbl hgs hF hlc hL (by omega) (by omega) hz2 dL_law_183 ?_
      refine lv_aload_n hx hb dL_law_184 rfl (lv_at hl 2 rfl) ?_
      refine lv_iload hx hb dL_law_185 (lv_at hl 1 rfl) ?_
      refine li_iconst hx hb dL_law_187 ?_
      refine li_iadd hx hb dL_law_188 ?_
      refine bl_scr hx hb hX hbl hgs hF hlc hL (by omega) (by omega) hz3 dL_law_189 ?_
      refine lv_aload_n hx hb dL_law_190 rfl (lv_at hl 2 rfl) ?_
      refine lv_iload hx hb dL_law_191 (lv_at hl 1 rfl) ?_
      refine li_iconst hx hb dL_law_193 ?_
      refine li_iadd hx hb dL_law_194 ?_
      refine bl_scr hx hb hX hbl hgs hF hlc hL (by omega) (by omega) hz4 dL_law_195 ?_
      refine lv_aload_n hx hb dL_law_196 rfl (lv_at hl 2 rfl) ?_
      refine lv_iload hx hb dL_law_197 (lv_at hl 1 rfl) ?_
      refine li_iconst hx hb dL_law_199 ?_
      refine li_iadd hx hb dL_law_200 ?_
      refine bl_scr hx hb hX hbl hgs hF hlc hL (by omega) (by omega) hz5 dL_law_201 ?_
      refine lv_aload_n hx hb dL_law_202 rfl (lv_at hl 2 rfl) ?_
      refine lv_iload hx hb dL_law_203 (lv_at hl 1 rfl) ?_
      refine li_bipush hx hb dL_law_205 (by decide) ?_
      refine li_iadd hx hb dL_law_207 ?_
      refine bl_scr hx hb hX hbl hgs hF hlc hL (by omega) (by omega) hz6 dL_law_208 ?_
      refine lv_aload_n hx hb dL_law_209 rfl (lv_at hl 2 rfl) ?_
      refine lv_iload hx hb dL_law_210 (lv_at hl 1 rfl) ?_
      refine li_bipush hx hb dL_law_212 (by decide) ?_
      refine li_iadd hx hb dL_law_214 ?_
      refine bl_scr hx hb hX hbl hgs hF hlc hL (by omega) (by omega) hz7 dL_law_215 ?_
      refine bc_VW (As := [.int (iI z1), .int (iI z2), .int (iI z3), .int (iI z4), .int (iI z5), .int (iI z6), .int (iI z7)]) (rest := []) (kd := 7) (k := 0) (ci := 2) ⟨hx, hb, hml, hown, hts⟩ (c_X2_box_s l g ad σ τ w z1 z2 z3 z4 z5 z6 z7 (by unfold iR; omega) (by unfold iR; omega) (by unfold iR; omega) (by unfold iR; omega) (by unfold iR; omega) (by unfold iR; omega) (by unfold iR; omega) hBt (by omega)) (cwV 7 hts gL_law_X2_box rfl rfl rfl (by decide +kernel) ⟨Nat.le_of_ble_eq_true rfl, Nat.le_of_ble_eq_true rfl⟩) hK hU hlc (bx_L0 (by omega)) rfl rfl rfl hl.1 rfl (Nat.le_of_ble_eq_true rfl) dL_law_216 ⟨by show _ ≤ 694788; omega, by show _ ≤ 7011740; omega⟩ (fun H locs hU hF1 hlc => ?_)
      have hF := hF.tr hF1
      refine lv_istore (lv' := [(6, .int (iI 0)), (5, .int (iI 2)), (4, .int (iI i)), (0, .ref b), (1, .ref (ad 0 0)), (2, .ref (ad 7 0)), (3, .ref (ad 17 0))]) hx hb dL_law_219 hl (by decide) rfl (fun ls hl => ?_)
      refine lv_aload_n hx hb dL_law_221 rfl (lv_at hl 5 rfl) ?_
      refine bc_V (As := []) (rest := []) (kd := 7) (k := 0) (ci := 2) ⟨hx, hb, hml, hown, hts⟩ (c_X2_thrown l g ad σ τ (w.1, 2)) (cwV 0 hts gL_law_X2_thrown rfl rfl rfl (by decide +kernel) ⟨Nat.le_of_ble_eq_true rfl, Nat.le_of_ble_eq_true rfl⟩) hK hU (bx_L0 (by omega)) rfl rfl rfl hl.1 rfl (Nat.le_of_ble_eq_true rfl) dL_law_222 ⟨by show _ ≤ 694788; omega, by show _ ≤ 7011740; omega⟩ ?_
      refine W.eq (g2 := F0 m 225 ls [.int (iI 2)]) rfl ?_
      refine lv_iload hx hb dL_law_225 (lv_at hl 1 rfl) ?_
      refine li_icmp_eq (tgt := 232) hx hb (by unfold iR; omega) (by unfold iR; omega) dL_law_227 (by decide) (fun _ => ?_) (fun h => absurd (by decide) h)
      refine lv_iload hx hb dL_law_232 (lv_at hl 1 rfl) ?_
      refine li_if_ne (tgt := 249) hx hb (by unfold iR; omega) dL_law_234 (by decide) (fun _ => ?_) (fun h => absurd h (by decide))
      refine lv_goto (tgt := 1343) hx hb dL_law_249 (by decide) ?_
      refine W.widen (k := cells + 3) (n := slots + 12) (by omega) (by omega) ?_
      exact kk ad σ τ (w.1, 2) H locs (hI) hU hF hlc ls (lv_sub hl [2, 3, 4, 5, 6] rfl)
  · refine lv_aload_n hx hb dL_law_120 rfl (lv_at hl 2 rfl) ?_
    refine lv_aload_n hx hb dL_law_121 rfl (lv_at hl 1 rfl) ?_
    refine lv_iload hx hb dL_law_122 (lv_at hl 0 rfl) ?_
    refine li_iconst hx hb dL_law_124 ?_
    refine li_iadd hx hb dL_law_125 ?_
    refine bl_scr hx hb hX hbl hgs hF hlc hL (by omega) (by omega) hz1 dL_law_126 ?_
    refine lv_aload_n hx hb dL_law_127 rfl (lv_at hl 1 rfl) ?_
    refine lv_iload hx hb dL_law_128 (lv_at hl 0 rfl) ?_
    refine li_iconst hx hb dL_law_130 ?_
    refine li_iadd hx hb dL_law_131 ?_
    refine bl_scr hx hb hX hbl hgs hF hlc hL (by omega) (by omega) hz2 dL_law_132 ?_
    refine lv_aload_n hx hb dL_law_133 rfl (lv_at hl 1 rfl) ?_
    refine lv_iload hx hb dL_law_134 (lv_at hl 0 rfl) ?_
    refine li_iconst hx hb dL_law_136 ?_
    refine li_iadd hx hb dL_law_137 ?_
    refine bl_scr hx hb hX hbl hgs hF hlc hL (by omega) (by omega) hz3 dL_law_138 ?_
    refine lv_aload_n hx hb dL_law_139 rfl (lv_at hl 1 rfl) ?_
    refine lv_iload hx hb dL_law_140 (lv_at hl 0 rfl) ?_
    refine li_iconst hx hb dL_law_142 ?_
    refine li_iadd hx hb dL_law_143 ?_
    refine bl_scr hx hb hX hbl hgs hF hlc hL (by omega) (by omega) hz4 dL_law_144 ?_
    refine lv_aload_n hx hb dL_law_145 rfl (lv_at hl 1 rfl) ?_
    refine lv_iload hx hb dL_law_146 (lv_at hl 0 rfl) ?_
    refine li_iconst hx hb dL_law_148 ?_
    refine li_iadd hx hb dL_law_149 ?_
    refine bl_scr hx hb hX hbl hgs hF hlc hL (by omega) (by omega) hz5 dL_law_150 ?_
    refine lv_aload_n hx hb dL_law_151 rfl (lv_at hl 1 rfl) ?_
    refine lv_iload hx hb dL_law_152 (lv_at hl 0 rfl) ?_
    refine li_bipush hx hb dL_law_154 (by decide) ?_
    refine li_iadd hx hb dL_law_156 ?_
    refine bl_scr hx hb hX hbl hgs hF hlc hL (by omega) (by omega) hz6 dL_law_157 ?_
    refine lv_aload_n hx hb dL_law_158 rfl (lv_at hl 1 rfl) ?_
    refine lv_iload hx hb dL_law_159 (lv_at hl 0 rfl) ?_
    refine li_bipush hx hb dL_law_161 (by decide) ?_
    refine li_iadd hx hb dL_law_163 ?_
    refine bl_scr hx hb hX hbl hgs hF hlc hL (by omega) (by omega) hz7 dL_law_164 ?_
    refine lv_aload_n hx hb dL_law_165 rfl (lv_at hl 4 rfl) ?_
    refine bk_S (As := [.ref (ad 0 0), .int (iI z1), .int (iI z2), .int (iI z3), .int (iI z4), .int (iI z5), .int (iI z6), .int (iI z7), .ref (ad 17 0)]) (rest := []) ⟨hx, hb, hml, hown, hts⟩ (lh_box_f l hst g ad σ τ w sa z1 z2 z3 z4 z5 z6 z7 (by unfold iR; omega) (by unfold iR; omega) (by unfold iR; omega) (by unfold iR; omega) (by unfold iR; omega) (by unfold iR; omega) (by unfold iR; omega) hB (by omega)) (vx_cwSW 9 hts gL_law_L_box rfl rfl rfl (by decide +kernel) ⟨Nat.le_of_ble_eq_true rfl, Nat.le_of_ble_eq_true rfl⟩) (lw_pre hK hU hT hF hNc) hlc rfl hl.1 rfl (Nat.le_of_ble_eq_true rfl) dL_law_166 ⟨by show _ ≤ 694788; omega, by show _ ≤ 7011740; omega⟩ (fun H locs hU hF1 hlc => ?_)
    have hF := hF.tr hF1
    have hU : bx_U g ad σ τ w H := hU
    refine lv_istore (lv' := [(5, .int (iI 1)), (4, .int (iI i)), (0, .ref b), (1, .ref (ad 0 0)), (2, .ref (ad 7 0)), (3, .ref (ad 17 0))]) hx hb dL_law_169 hl (by decide) rfl (fun ls hl => ?_)
    refine lv_aload_n hx hb dL_law_171 rfl (lv_at hl 4 rfl) ?_
    refine lv_aload_n hx hb dL_law_172 rfl (lv_at hl 2 rfl) ?_
    refine lv_iload hx hb dL_law_173 (lv_at hl 1 rfl) ?_
    refine li_iconst hx hb dL_law_175 ?_
    refine li_iadd hx hb dL_law_176 ?_
    refine bl_scr hx hb hX hbl hgs hF hlc hL (by omega) (by omega) hz1 dL_law_177 ?_
    refine lv_aload_n hx hb dL_law_178 rfl (lv_at hl 2 rfl) ?_
    refine lv_iload hx hb dL_law_179 (lv_at hl 1 rfl) ?_
    refine li_iconst hx hb dL_law_181 ?_
    refine li_iadd hx hb dL_law_182 ?_
    refine bl_scr hx hb hX hbl hgs hF hlc hL (by omega) (by omega) hz2 dL_law_183 ?_
    refine lv_aload_n hx hb dL_law_184 rfl (lv_at hl 2 rfl) ?_
    refine lv_iload hx hb dL_law_185 (lv_at hl 1 rfl) ?_
    refine li_iconst hx hb dL_law_187 ?_
    refine li_iadd hx hb dL_law_188 ?_
    refine bl_scr hx hb hX hbl hgs hF hlc hL (by omega) (by omega) hz3 dL_law_189 ?_
    refine lv_aload_n hx hb dL_law_190 rfl (lv_at hl 2 rfl) ?_
    refine lv_iload hx hb dL_law_191 (lv_at hl 1 rfl) ?_
    refine li_iconst hx hb dL_law_193 ?_
    refine li_iadd hx hb dL_law_194 ?_
    refine bl_scr hx hb hX hbl hgs hF hlc hL (by omega) (by omega) hz4 dL_law_195 ?_
    refine lv_aload_n hx hb dL_law_196 rfl (lv_at hl 2 rfl) ?_
    refine lv_iload hx hb dL_law_197 (lv_at hl 1 rfl) ?_
    refine li_iconst hx hb dL_law_199 ?_
    refine li_iadd hx hb dL_law_200 ?_
    refine bl_scr hx hb hX hbl hgs hF hlc hL (by omega) (by omega) hz5 dL_law_201 ?_
    refine lv_aload_n hx hb dL_law_202 rfl (lv_at hl 2 rfl) ?_
    refine lv_iload hx hb dL_law_203 (lv_at hl 1 rfl) ?_
    refine li_bipush hx hb dL_law_205 (by decide) ?_
    refine li_iadd hx hb dL_law_207 ?_
    refine bl_scr hx hb hX hbl hgs hF hlc hL (by omega) (by omega) hz6 dL_law_208 ?_
    refine lv_aload_n hx hb dL_law_209 rfl (lv_at hl 2 rfl) ?_
    refine lv_iload hx hb dL_law_210 (lv_at hl 1 rfl) ?_
    refine li_bipush hx hb dL_law_212 (by decide) ?_
    refine li_iadd hx hb dL_law_214 ?_
    refine bl_scr hx hb hX hbl hgs hF hlc hL (by omega) (by omega) hz7 dL_law_215 ?_
    refine bc_VW (As := [.int (iI z1), .int (iI z2), .int (iI z3), .int (iI z4), .int (iI z5), .int (iI z6), .int (iI z7)]) (rest := []) (kd := 7) (k := 0) (ci := 2) ⟨hx, hb, hml, hown, hts⟩ (c_X2_box_f l g ad σ τ w z1 z2 z3 z4 z5 z6 z7 (by unfold iR; omega) (by unfold iR; omega) (by unfold iR; omega) (by unfold iR; omega) (by unfold iR; omega) (by unfold iR; omega) (by unfold iR; omega) hBt (by omega)) (cwV 7 hts gL_law_X2_box rfl rfl rfl (by decide +kernel) ⟨Nat.le_of_ble_eq_true rfl, Nat.le_of_ble_eq_true rfl⟩) hK hU hlc (bx_L0 (by omega)) rfl rfl rfl hl.1 rfl (Nat.le_of_ble_eq_true rfl) dL_law_216 ⟨by show _ ≤ 694788; omega, by show _ ≤ 7011740; omega⟩ (fun H locs hU hF1 hlc => ?_)
    have hF := hF.tr hF1
    refine lv_istore (lv' := [(6, .int (iI 0)), (5, .int (iI 1)), (4, .int (iI i)), (0, .ref b), (1, .ref (ad 0 0)), (2, .ref (ad 7 0)), (3, .ref (ad 17 0))]) hx hb dL_law_219 hl (by decide) rfl (fun ls hl => ?_)
    refine lv_aload_n hx hb dL_law_221 rfl (lv_at hl 5 rfl) ?_
    refine bc_V (As := []) (rest := []) (kd := 7) (k := 0) (ci := 2) ⟨hx, hb, hml, hown, hts⟩ (c_X2_thrown l g ad σ τ (w.1, 1)) (cwV 0 hts gL_law_X2_thrown rfl rfl rfl (by decide +kernel) ⟨Nat.le_of_ble_eq_true rfl, Nat.le_of_ble_eq_true rfl⟩) hK hU (bx_L0 (by omega)) rfl rfl rfl hl.1 rfl (Nat.le_of_ble_eq_true rfl) dL_law_222 ⟨by show _ ≤ 694788; omega, by show _ ≤ 7011740; omega⟩ ?_
    refine W.eq (g2 := F0 m 225 ls [.int (iI 1)]) rfl ?_
    refine lv_iload hx hb dL_law_225 (lv_at hl 1 rfl) ?_
    refine li_icmp_eq (tgt := 232) hx hb (by unfold iR; omega) (by unfold iR; omega) dL_law_227 (by decide) (fun _ => ?_) (fun h => absurd (by decide) h)
    refine lv_iload hx hb dL_law_232 (lv_at hl 1 rfl) ?_
    refine li_if_ne (tgt := 249) hx hb (by unfold iR; omega) dL_law_234 (by decide) (fun _ => ?_) (fun h => absurd h (by decide))
    refine lv_goto (tgt := 1343) hx hb dL_law_249 (by decide) ?_
    refine W.widen (k := cells + 3) (n := slots + 12) (by omega) (by omega) ?_
    exact kk ad σ τ (w.1, 1) H locs (hI) hU hF hlc ls (lv_sub hl [2, 3, 4, 5, 6] rfl)

set_option maxHeartbeats 4000000 in
set_option maxRecDepth 100000 in
theorem ls_tube {p : Program} {l : Launch} {e : Env} {s : State} {m : MethodId} {below : List Frame} {meth : Method} {c : Code} {b L : Nat} {xs : Nat → Int32} {g : bxG} {sa : Nat → Nat} (C : LC p l s m meth c b L xs g sa) {Q : State → Prop} {ad : bxA} {σ τ : bxS} {w : bxW} {H : Heap} {locs : List Loc} {cells slots : Nat} (hI : inv σ τ) (hU : bx_U g ad σ τ w H) (hF : bx_F g s.heap H) (hlc : bx_Lc g locs) {i : Int} (hi : 0 ≤ i ∧ i + 8 ≤ L) (hc : cells + 3 ≤ 694788 ∧ slots + 12 ≤ 7011740) {ls : Array Slot} (hl : lv_has ls 8 [(4, .int (iI i)), (0, .ref b), (1, .ref (ad 0 0)), (2, .ref (ad 7 0)), (3, .ref (ad 17 0))])
    (kk : ∀ (ad : bxA) (σ τ : bxS) (w : bxW) (H : Heap) (locs : List Loc), inv σ τ → bx_U g ad σ τ w H → bx_F g s.heap H → bx_Lc g locs → ∀ ls : Array Slot, lv_has ls 8 [(4, .int (iI i)), (0, .ref b), (1, .ref (ad 0 0)), (2, .ref (ad 7 0)), (3, .ref (ad 17 0))] → W p l e room_1 s m #[Value.ref b] below meth c H locs (cells + 3) (slots + 12) Q (F0 m 1343 ls [])) : W p l e room_1 s m #[Value.ref b] below meth c H locs cells slots Q (F0 m 252 ls []) := by
  obtain ⟨⟨hx, hb, hr, hml, hown⟩, hts, hX, hbl, hlocks, hK, hT, hNc, hgs, hst, hL⟩ := C
  have hB := hI.B
  have hBt := hI.2.1
  have hM := hI.2.2.1
  have h15 := hI.2.2.2
  have hm0 := bB0 hBt
  have hmd := v_made hI
  obtain ⟨z1, hz1⟩ : ∃ z, xz xs (i + 1) = z := ⟨_, rfl⟩
  have hy1 : -2147483648 ≤ z1 ∧ z1 < 2147483648 := by rw [← hz1]; exact iR_self _
  obtain ⟨z2, hz2⟩ : ∃ z, xz xs (i + 2) = z := ⟨_, rfl⟩
  have hy2 : -2147483648 ≤ z2 ∧ z2 < 2147483648 := by rw [← hz2]; exact iR_self _
  obtain ⟨z3, hz3⟩ : ∃ z, xz xs (i + 3) = z := ⟨_, rfl⟩
  have hy3 : -2147483648 ≤ z3 ∧ z3 < 2147483648 := by rw [← hz3]; exact iR_self _
  obtain ⟨z4, hz4⟩ : ∃ z, xz xs (i + 4) = z := ⟨_, rfl⟩
  have hy4 : -2147483648 ≤ z4 ∧ z4 < 2147483648 := by rw [← hz4]; exact iR_self _
  obtain ⟨z5, hz5⟩ : ∃ z, xz xs (i + 5) = z := ⟨_, rfl⟩
  have hy5 : -2147483648 ≤ z5 ∧ z5 < 2147483648 := by rw [← hz5]; exact iR_self _
  obtain ⟨z6, hz6⟩ : ∃ z, xz xs (i + 6) = z := ⟨_, rfl⟩
  have hy6 : -2147483648 ≤ z6 ∧ z6 < 2147483648 := by rw [← hz6]; exact iR_self _
  obtain ⟨z7, hz7⟩ : ∃ z, xz xs (i + 7) = z := ⟨_, rfl⟩
  have hy7 : -2147483648 ≤ z7 ∧ z7 < 2147483648 := by rw [← hz7]; exact iR_self _
  by_cases hg : (0 ≤ z1 ∧ z1 ≤ 7) ∧ (0 ≤ z2 ∧ z2 ≤ 2) ∧ (0 ≤ z3 ∧ z3 ≤ 1000 ∧ 1 ≤ z4 ∧ z4 ≤ 1000 ∧ z3 + z4 ≤ 1000) ∧ (0 ≤ z5 ∧ z5 ≤ 1000) ∧ (0 ≤ z6 ∧ z6 ≤ 1000) ∧ 1 ≤ z7 ∧ z7 ≤ 200
  · by_cases hm : τ 0 0 0 < 60
    · refine lv_aload_n hx hb dL_law_252 rfl (lv_at hl 2 rfl) ?_
      refine lv_aload_n hx hb dL_law_253 rfl (lv_at hl 1 rfl) ?_
      refine lv_iload hx hb dL_law_254 (lv_at hl 0 rfl) ?_
      refine li_iconst hx hb dL_law_256 ?_
      refine li_iadd hx hb dL_law_257 ?_
      refine bl_scr hx hb hX hbl hgs hF hlc hL (by omega) (by omega) hz1 dL_law_258 ?_
      refine lv_aload_n hx hb dL_law_259 rfl (lv_at hl 1 rfl) ?_
      refine lv_iload hx hb dL_law_260 (lv_at hl 0 rfl) ?_
      refine li_iconst hx hb dL_law_262 ?_
      refine li_iadd hx hb dL_law_263 ?_
      refine bl_scr hx hb hX hbl hgs hF hlc hL (by omega) (by omega) hz2 dL_law_264 ?_
      refine lv_aload_n hx hb dL_law_265 rfl (lv_at hl 1 rfl) ?_
      refine lv_iload hx hb dL_law_266 (lv_at hl 0 rfl) ?_
      refine li_iconst hx hb dL_law_268 ?_
      refine li_iadd hx hb dL_law_269 ?_
      refine bl_scr hx hb hX hbl hgs hF hlc hL (by omega) (by omega) hz3 dL_law_270 ?_
      refine lv_aload_n hx hb dL_law_271 rfl (lv_at hl 1 rfl) ?_
      refine lv_iload hx hb dL_law_272 (lv_at hl 0 rfl) ?_
      refine li_iconst hx hb dL_law_274 ?_
      refine li_iadd hx hb dL_law_275 ?_
      refine bl_scr hx hb hX hbl hgs hF hlc hL (by omega) (by omega) hz4 dL_law_276 ?_
      refine lv_aload_n hx hb dL_law_277 rfl (lv_at hl 1 rfl) ?_
      refine lv_iload hx hb dL_law_278 (lv_at hl 0 rfl) ?_
      refine li_iconst hx hb dL_law_280 ?_
      refine li_iadd hx hb dL_law_281 ?_
      refine bl_scr hx hb hX hbl hgs hF hlc hL (by omega) (by omega) hz5 dL_law_282 ?_
      refine lv_aload_n hx hb dL_law_283 rfl (lv_at hl 1 rfl) ?_
      refine lv_iload hx hb dL_law_284 (lv_at hl 0 rfl) ?_
      refine li_bipush hx hb dL_law_286 (by decide) ?_
      refine li_iadd hx hb dL_law_288 ?_
      refine bl_scr hx hb hX hbl hgs hF hlc hL (by omega) (by omega) hz6 dL_law_289 ?_
      refine lv_aload_n hx hb dL_law_290 rfl (lv_at hl 1 rfl) ?_
      refine lv_iload hx hb dL_law_291 (lv_at hl 0 rfl) ?_
      refine li_bipush hx hb dL_law_293 (by decide) ?_
      refine li_iadd hx hb dL_law_295 ?_
      refine bl_scr hx hb hX hbl hgs hF hlc hL (by omega) (by omega) hz7 dL_law_296 ?_
      refine lv_aload_n hx hb dL_law_297 rfl (lv_at hl 4 rfl) ?_
      refine bk_S (As := [.ref (ad 0 0), .int (iI z1), .int (iI z2), .int (iI z3), .int (iI z4), .int (iI z5), .int (iI z6), .int (iI z7), .ref (ad 17 0)]) (rest := []) ⟨hx, hb, hml, hown, hts⟩ (lh_tube_t l g ad σ τ w sa z1 z2 z3 z4 z5 z6 z7 (by unfold iR; omega) (by unfold iR; omega) (by unfold iR; omega) (by unfold iR; omega) (by unfold iR; omega) (by unfold iR; omega) (by unfold iR; omega) hB (by omega)) (vx_cwSW 9 hts gL_law_L_tube rfl rfl rfl (by decide +kernel) ⟨Nat.le_of_ble_eq_true rfl, Nat.le_of_ble_eq_true rfl⟩) (lw_pre hK hU hT hF hNc) hlc rfl hl.1 rfl (Nat.le_of_ble_eq_true rfl) dL_law_298 ⟨by show _ ≤ 694788; omega, by show _ ≤ 7011740; omega⟩ (fun H locs hU hF1 hlc => ?_)
      have hF := hF.tr hF1
      obtain ⟨ad1, e0, hU⟩ := hU
      rw [← e0 0 (by omega), ← e0 7 (by omega), ← e0 17 (by omega)] at hl
      have hU : bx_U g ad1 (tubC σ z1 z2 z3 z4 z5 z6 z7) τ ((iI (σ 0 0 0)).toInt64, w.2) H := hU
      refine lv_istore (lv' := [(5, .int (iI 0)), (4, .int (iI i)), (0, .ref b), (1, .ref (ad1 0 0)), (2, .ref (ad1 7 0)), (3, .ref (ad1 17 0))]) hx hb dL_law_301 hl (by decide) rfl (fun ls hl => ?_)
      refine lv_aload_n hx hb dL_law_303 rfl (lv_at hl 4 rfl) ?_
      refine lv_aload_n hx hb dL_law_304 rfl (lv_at hl 2 rfl) ?_
      refine lv_iload hx hb dL_law_305 (lv_at hl 1 rfl) ?_
      refine li_iconst hx hb dL_law_307 ?_
      refine li_iadd hx hb dL_law_308 ?_
      refine bl_scr hx hb hX hbl hgs hF hlc hL (by omega) (by omega) hz1 dL_law_309 ?_
      refine lv_aload_n hx hb dL_law_310 rfl (lv_at hl 2 rfl) ?_
      refine lv_iload hx hb dL_law_311 (lv_at hl 1 rfl) ?_
      refine li_iconst hx hb dL_law_313 ?_
      refine li_iadd hx hb dL_law_314 ?_
      refine bl_scr hx hb hX hbl hgs hF hlc hL (by omega) (by omega) hz2 dL_law_315 ?_
      refine lv_aload_n hx hb dL_law_316 rfl (lv_at hl 2 rfl) ?_
      refine lv_iload hx hb dL_law_317 (lv_at hl 1 rfl) ?_
      refine li_iconst hx hb dL_law_319 ?_
      refine li_iadd hx hb dL_law_320 ?_
      refine bl_scr hx hb hX hbl hgs hF hlc hL (by omega) (by omega) hz3 dL_law_321 ?_
      refine lv_aload_n hx hb dL_law_322 rfl (lv_at hl 2 rfl) ?_
      refine lv_iload hx hb dL_law_323 (lv_at hl 1 rfl) ?_
      refine li_iconst hx hb dL_law_325 ?_
      refine li_iadd hx hb dL_law_326 ?_
      refine bl_scr hx hb hX hbl hgs hF hlc hL (by omega) (by omega) hz4 dL_law_327 ?_
      refine lv_aload_n hx hb dL_law_328 rfl (lv_at hl 2 rfl) ?_
      refine lv_iload hx hb dL_law_329 (lv_at hl 1 rfl) ?_
      refine li_iconst hx hb dL_law_331 ?_
      refine li_iadd hx hb dL_law_332 ?_
      refine bl_scr hx hb hX hbl hgs hF hlc hL (by omega) (by omega) hz5 dL_law_333 ?_
      refine lv_aload_n hx hb dL_law_334 rfl (lv_at hl 2 rfl) ?_
      refine lv_iload hx hb dL_law_335 (lv_at hl 1 rfl) ?_
      refine li_bipush hx hb dL_law_337 (by decide) ?_
      refine li_iadd hx hb dL_law_339 ?_
      refine bl_scr hx hb hX hbl hgs hF hlc hL (by omega) (by omega) hz6 dL_law_340 ?_
      refine lv_aload_n hx hb dL_law_341 rfl (lv_at hl 2 rfl) ?_
      refine lv_iload hx hb dL_law_342 (lv_at hl 1 rfl) ?_
      refine li_bipush hx hb dL_law_344 (by decide) ?_
      refine li_iadd hx hb dL_law_346 ?_
      refine bl_scr hx hb hX hbl hgs hF hlc hL (by omega) (by omega) hz7 dL_law_347 ?_
      refine bc_VW (As := [.int (iI z1), .int (iI z2), .int (iI z3), .int (iI z4), .int (iI z5), .int (iI z6), .int (iI z7)]) (rest := []) (kd := 7) (k := 0) (ci := 2) ⟨hx, hb, hml, hown, hts⟩ (c_X2_tube_t l g ad1 (tubC σ z1 z2 z3 z4 z5 z6 z7) τ ((iI (σ 0 0 0)).toInt64, w.2) z1 z2 z3 z4 z5 z6 z7 (by unfold iR; omega) (by unfold iR; omega) (by unfold iR; omega) (by unfold iR; omega) (by unfold iR; omega) (by unfold iR; omega) (by unfold iR; omega) hBt (by omega)) (cwV 7 hts gL_law_X2_tube rfl rfl rfl (by decide +kernel) ⟨Nat.le_of_ble_eq_true rfl, Nat.le_of_ble_eq_true rfl⟩) hK hU hlc (bx_L0 (by omega)) rfl rfl rfl hl.1 rfl (Nat.le_of_ble_eq_true rfl) dL_law_348 ⟨by show _ ≤ 694788; omega, by show _ ≤ 7011740; omega⟩ (fun H locs hU hF1 hlc => ?_)
      have hF := hF.tr hF1
      refine lv_istore (lv' := [(6, .int (iI (τ 0 0 0))), (5, .int (iI 0)), (4, .int (iI i)), (0, .ref b), (1, .ref (ad1 0 0)), (2, .ref (ad1 7 0)), (3, .ref (ad1 17 0))]) hx hb dL_law_351 hl (by decide) rfl (fun ls hl => ?_)
      refine lv_aload_n hx hb dL_law_353 rfl (lv_at hl 5 rfl) ?_
      refine bc_V (As := []) (rest := []) (kd := 7) (k := 0) (ci := 2) ⟨hx, hb, hml, hown, hts⟩ (c_X2_thrown l g ad1 (tubC σ z1 z2 z3 z4 z5 z6 z7) (tubS τ z1 z2 z3 z4 z5 z6 z7) (((iI (σ 0 0 0)).toInt64, w.2).1, 0)) (cwV 0 hts gL_law_X2_thrown rfl rfl rfl (by decide +kernel) ⟨Nat.le_of_ble_eq_true rfl, Nat.le_of_ble_eq_true rfl⟩) hK hU (bx_L0 (by omega)) rfl rfl rfl hl.1 rfl (Nat.le_of_ble_eq_true rfl) dL_law_354 ⟨by show _ ≤ 694788; omega, by show _ ≤ 7011740; omega⟩ ?_
      refine W.eq (g2 := F0 m 357 ls [.int (iI 0)]) rfl ?_
      refine lv_iload hx hb dL_law_357 (lv_at hl 1 rfl) ?_
      refine li_icmp_eq (tgt := 364) hx hb (by unfold iR; omega) (by unfold iR; omega) dL_law_359 (by decide) (fun _ => ?_) (fun h => absurd (by decide) h)
      refine lv_iload hx hb dL_law_364 (lv_at hl 1 rfl) ?_
      refine li_if_ne (tgt := 381) hx hb (by unfold iR; omega) dL_law_366 (by decide) (fun h => absurd (by decide) h) (fun _ => ?_)
      refine lv_aload_n hx hb dL_law_369 rfl (lv_at hl 6 rfl) ?_
      refine li_iconst hx hb dL_law_370 ?_
      refine bl_17 hx hb hK hU dL_law_371 ?_
      refine W.eq (g2 := F0 m 372 ls [.long ((iI (σ 0 0 0)).toInt64)]) rfl ?_
      refine lv_iload hx hb dL_law_372 (lv_at hl 0 rfl) ?_
      refine lv_i2l (v := (iI (τ 0 0 0)).toInt64) hx hb dL_law_374 rfl ?_
      refine bl_lcmp hx hb (congrArg (fun z => (iI z).toInt64) (hmd)) dL_law_375 ?_
      refine li_if_eq (tgt := 381) hx hb (by unfold iR; omega) dL_law_376 (by decide) (fun _ => ?_) (fun h => absurd (by decide) h)
      refine lv_goto (tgt := 1343) hx hb dL_law_381 (by decide) ?_
      refine W.widen (k := cells + 3) (n := slots + 12) (by omega) (by omega) ?_
      exact kk ad1 (tubC σ z1 z2 z3 z4 z5 z6 z7) (tubS τ z1 z2 z3 z4 z5 z6 z7) (((iI (σ 0 0 0)).toInt64, w.2).1, 0) H locs (inv_tub hI ⟨hg, hm⟩) hU hF hlc ls (lv_sub hl [2, 3, 4, 5, 6] rfl)
    · refine lv_aload_n hx hb dL_law_252 rfl (lv_at hl 2 rfl) ?_
      refine lv_aload_n hx hb dL_law_253 rfl (lv_at hl 1 rfl) ?_
      refine lv_iload hx hb dL_law_254 (lv_at hl 0 rfl) ?_
      refine li_iconst hx hb dL_law_256 ?_
      refine li_iadd hx hb dL_law_257 ?_
      refine bl_scr hx hb hX hbl hgs hF hlc hL (by omega) (by omega) hz1 dL_law_258 ?_
      refine lv_aload_n hx hb dL_law_259 rfl (lv_at hl 1 rfl) ?_
      refine lv_iload hx hb dL_law_260 (lv_at hl 0 rfl) ?_
      refine li_iconst hx hb dL_law_262 ?_
      refine li_iadd hx hb dL_law_263 ?_
      refine bl_scr hx hb hX hbl hgs hF hlc hL (by omega) (by omega) hz2 dL_law_264 ?_
      refine lv_aload_n hx hb dL_law_265 rfl (lv_at hl 1 rfl) ?_
      refine lv_iload hx hb dL_law_266 (lv_at hl 0 rfl) ?_
      refine li_iconst hx hb dL_law_268 ?_
      refine li_iadd hx hb dL_law_269 ?_
      refine bl_scr hx hb hX hbl hgs hF hlc hL (by omega) (by omega) hz3 dL_law_270 ?_
      refine lv_aload_n hx hb dL_law_271 rfl (lv_at hl 1 rfl) ?_
      refine lv_iload hx hb dL_law_272 (lv_at hl 0 rfl) ?_
      refine li_iconst hx hb dL_law_274 ?_
      refine li_iadd hx hb dL_law_275 ?_
      refine bl_scr hx hb hX hbl hgs hF hlc hL (by omega) (by omega) hz4 dL_law_276 ?_
      refine lv_aload_n hx hb dL_law_277 rfl (lv_at hl 1 rfl) ?_
      refine lv_iload hx hb dL_law_278 (lv_at hl 0 rfl) ?_
      refine li_iconst hx hb dL_law_280 ?_
      refine li_iadd hx hb dL_law_281 ?_
      refine bl_scr hx hb hX hbl hgs hF hlc hL (by omega) (by omega) hz5 dL_law_282 ?_
      refine lv_aload_n hx hb dL_law_283 rfl (lv_at hl 1 rfl) ?_
      refine lv_iload hx hb dL_law_284 (lv_at hl 0 rfl) ?_
      refine li_bipush hx hb dL_law_286 (by decide) ?_
      refine li_iadd hx hb dL_law_288 ?_
      refine bl_scr hx hb hX hbl hgs hF hlc hL (by omega) (by omega) hz6 dL_law_289 ?_
      refine lv_aload_n hx hb dL_law_290 rfl (lv_at hl 1 rfl) ?_
      refine lv_iload hx hb dL_law_291 (lv_at hl 0 rfl) ?_
      refine li_bipush hx hb dL_law_293 (by decide) ?_
      refine li_iadd hx hb dL_law_295 ?_
      refine bl_scr hx hb hX hbl hgs hF hlc hL (by omega) (by omega) hz7 dL_law_296 ?_
      refine lv_aload_n hx hb dL_law_297 rfl (lv_at hl 4 rfl) ?_
      refine bk_S (As := [.ref (ad 0 0), .int (iI z1), .int (iI z2), .int (iI z3), .int (iI z4), .int (iI z5), .int (iI z6), .int (iI z7), .ref (ad 17 0)]) (rest := []) ⟨hx, hb, hml, hown, hts⟩ (lh_tube_s l hst g ad σ τ w sa z1 z2 z3 z4 z5 z6 z7 (by unfold iR; omega) (by unfold iR; omega) (by unfold iR; omega) (by unfold iR; omega) (by unfold iR; omega) (by unfold iR; omega) (by unfold iR; omega) hB (by omega)) (vx_cwSW 9 hts gL_law_L_tube rfl rfl rfl (by decide +kernel) ⟨Nat.le_of_ble_eq_true rfl, Nat.le_of_ble_eq_true rfl⟩) (lw_pre hK hU hT hF hNc) hlc rfl hl.1 rfl (Nat.le_of_ble_eq_true rfl) dL_law_298 ⟨by show _ ≤ 694788; omega, by show _ ≤ 7011740; omega⟩ (fun H locs hU hF1 hlc => ?_)
      have hF := hF.tr hF1
      have hU : bx_U g ad σ τ w H := hU
      refine lv_istore (lv' := [(5, .int (iI 2)), (4, .int (iI i)), (0, .ref b), (1, .ref (ad 0 0)), (2, .ref (ad 7 0)), (3, .ref (ad 17 0))]) hx hb dL_law_301 hl (by decide) rfl (fun ls hl => ?_)
      refine lv_aload_n hx hb dL_law_303 rfl (lv_at hl 4 rfl) ?_
      refine lv_aload_n hx hb dL_law_304 rfl (lv_at hl 2 rfl) ?_
      refine lv_iload hx hb dL_law_305 (lv_at hl 1 rfl) ?_
      refine li_iconst hx hb dL_law_307 ?_
      refine li_iadd hx hb dL_law_308 ?_
      refine bl_scr hx hb hX hbl hgs hF hlc hL (by omega) (by omega) hz1 dL_law_309 ?_
      refine lv_aload_n hx hb dL_law_310 rfl (lv_at hl 2 rfl) ?_
      refine lv_iload hx hb dL_law_311 (lv_at hl 1 rfl) ?_
      refine li_iconst hx hb dL_law_313 ?_
      refine li_iadd hx hb dL_law_314 ?_
      refine bl_scr hx hb hX hbl hgs hF hlc hL (by omega) (by omega) hz2 dL_law_315 ?_
      refine lv_aload_n hx hb dL_law_316 rfl (lv_at hl 2 rfl) ?_
      refine lv_iload hx hb dL_law_317 (lv_at hl 1 rfl) ?_
      refine li_iconst hx hb dL_law_319 ?_
      refine li_iadd hx hb dL_law_320 ?_
      refine bl_scr hx hb hX hbl hgs hF hlc hL (by omega) (by omega) hz3 dL_law_321 ?_
      refine lv_aload_n hx hb dL_law_322 rfl (lv_at hl 2 rfl) ?_
      refine lv_iload hx hb dL_law_323 (lv_at hl 1 rfl) ?_
      refine li_iconst hx hb dL_law_325 ?_
      refine li_iadd hx hb dL_law_326 ?_
      refine bl_scr hx hb hX hbl hgs hF hlc hL (by omega) (by omega) hz4 dL_law_327 ?_
      refine lv_aload_n hx hb dL_law_328 rfl (lv_at hl 2 rfl) ?_
      refine lv_iload hx hb dL_law_329 (lv_at hl 1 rfl) ?_
      refine li_iconst hx hb dL_law_331 ?_
      refine li_iadd hx hb dL_law_332 ?_
      refine bl_scr hx hb hX hbl hgs hF hlc hL (by omega) (by omega) hz5 dL_law_333 ?_
      refine lv_aload_n hx hb dL_law_334 rfl (lv_at hl 2 rfl) ?_
      refine lv_iload hx hb dL_law_335 (lv_at hl 1 rfl) ?_
      refine li_bipush hx hb dL_law_337 (by decide) ?_
      refine li_iadd hx hb dL_law_339 ?_
      refine bl_scr hx hb hX hbl hgs hF hlc hL (by omega) (by omega) hz6 dL_law_340 ?_
      refine lv_aload_n hx hb dL_law_341 rfl (lv_at hl 2 rfl) ?_
      refine lv_iload hx hb dL_law_342 (lv_at hl 1 rfl) ?_
      refine li_bipush hx hb dL_law_344 (by decide) ?_
      refine li_iadd hx hb dL_law_346 ?_
      refine bl_scr hx hb hX hbl hgs hF hlc hL (by omega) (by omega) hz7 dL_law_347 ?_
      refine bc_VW (As := [.int (iI z1), .int (iI z2), .int (iI z3), .int (iI z4), .int (iI z5), .int (iI z6), .int (iI z7)]) (rest := []) (kd := 7) (k := 0) (ci := 2) ⟨hx, hb, hml, hown, hts⟩ (c_X2_tube_s l g ad σ τ w z1 z2 z3 z4 z5 z6 z7 (by unfold iR; omega) (by unfold iR; omega) (by unfold iR; omega) (by unfold iR; omega) (by unfold iR; omega) (by unfold iR; omega) (by unfold iR; omega) hBt (by omega)) (cwV 7 hts gL_law_X2_tube rfl rfl rfl (by decide +kernel) ⟨Nat.le_of_ble_eq_true rfl, Nat.le_of_ble_eq_true rfl⟩) hK hU hlc (bx_L0 (by omega)) rfl rfl rfl hl.1 rfl (Nat.le_of_ble_eq_true rfl) dL_law_348 ⟨by show _ ≤ 694788; omega, by show _ ≤ 7011740; omega⟩ (fun H locs hU hF1 hlc => ?_)
      have hF := hF.tr hF1
      refine lv_istore (lv' := [(6, .int (iI 0)), (5, .int (iI 2)), (4, .int (iI i)), (0, .ref b), (1, .ref (ad 0 0)), (2, .ref (ad 7 0)), (3, .ref (ad 17 0))]) hx hb dL_law_351 hl (by decide) rfl (fun ls hl => ?_)
      refine lv_aload_n hx hb dL_law_353 rfl (lv_at hl 5 rfl) ?_
      refine bc_V (As := []) (rest := []) (kd := 7) (k := 0) (ci := 2) ⟨hx, hb, hml, hown, hts⟩ (c_X2_thrown l g ad σ τ (w.1, 2)) (cwV 0 hts gL_law_X2_thrown rfl rfl rfl (by decide +kernel) ⟨Nat.le_of_ble_eq_true rfl, Nat.le_of_ble_eq_true rfl⟩) hK hU (bx_L0 (by omega)) rfl rfl rfl hl.1 rfl (Nat.le_of_ble_eq_true rfl) dL_law_354 ⟨by show _ ≤ 694788; omega, by show _ ≤ 7011740; omega⟩ ?_
      refine W.eq (g2 := F0 m 357 ls [.int (iI 2)]) rfl ?_
      refine lv_iload hx hb dL_law_357 (lv_at hl 1 rfl) ?_
      refine li_icmp_eq (tgt := 364) hx hb (by unfold iR; omega) (by unfold iR; omega) dL_law_359 (by decide) (fun _ => ?_) (fun h => absurd (by decide) h)
      refine lv_iload hx hb dL_law_364 (lv_at hl 1 rfl) ?_
      refine li_if_ne (tgt := 381) hx hb (by unfold iR; omega) dL_law_366 (by decide) (fun _ => ?_) (fun h => absurd h (by decide))
      refine lv_goto (tgt := 1343) hx hb dL_law_381 (by decide) ?_
      refine W.widen (k := cells + 3) (n := slots + 12) (by omega) (by omega) ?_
      exact kk ad σ τ (w.1, 2) H locs (hI) hU hF hlc ls (lv_sub hl [2, 3, 4, 5, 6] rfl)
  · refine lv_aload_n hx hb dL_law_252 rfl (lv_at hl 2 rfl) ?_
    refine lv_aload_n hx hb dL_law_253 rfl (lv_at hl 1 rfl) ?_
    refine lv_iload hx hb dL_law_254 (lv_at hl 0 rfl) ?_
    refine li_iconst hx hb dL_law_256 ?_
    refine li_iadd hx hb dL_law_257 ?_
    refine bl_scr hx hb hX hbl hgs hF hlc hL (by omega) (by omega) hz1 dL_law_258 ?_
    refine lv_aload_n hx hb dL_law_259 rfl (lv_at hl 1 rfl) ?_
    refine lv_iload hx hb dL_law_260 (lv_at hl 0 rfl) ?_
    refine li_iconst hx hb dL_law_262 ?_
    refine li_iadd hx hb dL_law_263 ?_
    refine bl_scr hx hb hX hbl hgs hF hlc hL (by omega) (by omega) hz2 dL_law_264 ?_
    refine lv_aload_n hx hb dL_law_265 rfl (lv_at hl 1 rfl) ?_
    refine lv_iload hx hb dL_law_266 (lv_at hl 0 rfl) ?_
    refine li_iconst hx hb dL_law_268 ?_
    refine li_iadd hx hb dL_law_269 ?_
    refine bl_scr hx hb hX hbl hgs hF hlc hL (by omega) (by omega) hz3 dL_law_270 ?_
    refine lv_aload_n hx hb dL_law_271 rfl (lv_at hl 1 rfl) ?_
    refine lv_iload hx hb dL_law_272 (lv_at hl 0 rfl) ?_
    refine li_iconst hx hb dL_law_274 ?_
    refine li_iadd hx hb dL_law_275 ?_
    refine bl_scr hx hb hX hbl hgs hF hlc hL (by omega) (by omega) hz4 dL_law_276 ?_
    refine lv_aload_n hx hb dL_law_277 rfl (lv_at hl 1 rfl) ?_
    refine lv_iload hx hb dL_law_278 (lv_at hl 0 rfl) ?_
    refine li_iconst hx hb dL_law_280 ?_
    refine li_iadd hx hb dL_law_281 ?_
    refine bl_scr hx hb hX hbl hgs hF hlc hL (by omega) (by omega) hz5 dL_law_282 ?_
    refine lv_aload_n hx hb dL_law_283 rfl (lv_at hl 1 rfl) ?_
    refine lv_iload hx hb dL_law_284 (lv_at hl 0 rfl) ?_
    refine li_bipush hx hb dL_law_286 (by decide) ?_
    refine li_iadd hx hb dL_law_288 ?_
    refine bl_scr hx hb hX hbl hgs hF hlc hL (by omega) (by omega) hz6 dL_law_289 ?_
    refine lv_aload_n hx hb dL_law_290 rfl (lv_at hl 1 rfl) ?_
    refine lv_iload hx hb dL_law_291 (lv_at hl 0 rfl) ?_
    refine li_bipush hx hb dL_law_293 (by decide) ?_
    refine li_iadd hx hb dL_law_295 ?_
    refine bl_scr hx hb hX hbl hgs hF hlc hL (by omega) (by omega) hz7 dL_law_296 ?_
    refine lv_aload_n hx hb dL_law_297 rfl (lv_at hl 4 rfl) ?_
    refine bk_S (As := [.ref (ad 0 0), .int (iI z1), .int (iI z2), .int (iI z3), .int (iI z4), .int (iI z5), .int (iI z6), .int (iI z7), .ref (ad 17 0)]) (rest := []) ⟨hx, hb, hml, hown, hts⟩ (lh_tube_f l hst g ad σ τ w sa z1 z2 z3 z4 z5 z6 z7 (by unfold iR; omega) (by unfold iR; omega) (by unfold iR; omega) (by unfold iR; omega) (by unfold iR; omega) (by unfold iR; omega) (by unfold iR; omega) hB (by omega)) (vx_cwSW 9 hts gL_law_L_tube rfl rfl rfl (by decide +kernel) ⟨Nat.le_of_ble_eq_true rfl, Nat.le_of_ble_eq_true rfl⟩) (lw_pre hK hU hT hF hNc) hlc rfl hl.1 rfl (Nat.le_of_ble_eq_true rfl) dL_law_298 ⟨by show _ ≤ 694788; omega, by show _ ≤ 7011740; omega⟩ (fun H locs hU hF1 hlc => ?_)
    have hF := hF.tr hF1
    have hU : bx_U g ad σ τ w H := hU
    refine lv_istore (lv' := [(5, .int (iI 1)), (4, .int (iI i)), (0, .ref b), (1, .ref (ad 0 0)), (2, .ref (ad 7 0)), (3, .ref (ad 17 0))]) hx hb dL_law_301 hl (by decide) rfl (fun ls hl => ?_)
    refine lv_aload_n hx hb dL_law_303 rfl (lv_at hl 4 rfl) ?_
    refine lv_aload_n hx hb dL_law_304 rfl (lv_at hl 2 rfl) ?_
    refine lv_iload hx hb dL_law_305 (lv_at hl 1 rfl) ?_
    refine li_iconst hx hb dL_law_307 ?_
    refine li_iadd hx hb dL_law_308 ?_
    refine bl_scr hx hb hX hbl hgs hF hlc hL (by omega) (by omega) hz1 dL_law_309 ?_
    refine lv_aload_n hx hb dL_law_310 rfl (lv_at hl 2 rfl) ?_
    refine lv_iload hx hb dL_law_311 (lv_at hl 1 rfl) ?_
    refine li_iconst hx hb dL_law_313 ?_
    refine li_iadd hx hb dL_law_314 ?_
    refine bl_scr hx hb hX hbl hgs hF hlc hL (by omega) (by omega) hz2 dL_law_315 ?_
    refine lv_aload_n hx hb dL_law_316 rfl (lv_at hl 2 rfl) ?_
    refine lv_iload hx hb dL_law_317 (lv_at hl 1 rfl) ?_
    refine li_iconst hx hb dL_law_319 ?_
    refine li_iadd hx hb dL_law_320 ?_
    refine bl_scr hx hb hX hbl hgs hF hlc hL (by omega) (by omega) hz3 dL_law_321 ?_
    refine lv_aload_n hx hb dL_law_322 rfl (lv_at hl 2 rfl) ?_
    refine lv_iload hx hb dL_law_323 (lv_at hl 1 rfl) ?_
    refine li_iconst hx hb dL_law_325 ?_
    refine li_iadd hx hb dL_law_326 ?_
    refine bl_scr hx hb hX hbl hgs hF hlc hL (by omega) (by omega) hz4 dL_law_327 ?_
    refine lv_aload_n hx hb dL_law_328 rfl (lv_at hl 2 rfl) ?_
    refine lv_iload hx hb dL_law_329 (lv_at hl 1 rfl) ?_
    refine li_iconst hx hb dL_law_331 ?_
    refine li_iadd hx hb dL_law_332 ?_
    refine bl_scr hx hb hX hbl hgs hF hlc hL (by omega) (by omega) hz5 dL_law_333 ?_
    refine lv_aload_n hx hb dL_law_334 rfl (lv_at hl 2 rfl) ?_
    refine lv_iload hx hb dL_law_335 (lv_at hl 1 rfl) ?_
    refine li_bipush hx hb dL_law_337 (by decide) ?_
    refine li_iadd hx hb dL_law_339 ?_
    refine bl_scr hx hb hX hbl hgs hF hlc hL (by omega) (by omega) hz6 dL_law_340 ?_
    refine lv_aload_n hx hb dL_law_341 rfl (lv_at hl 2 rfl) ?_
    refine lv_iload hx hb dL_law_342 (lv_at hl 1 rfl) ?_
    refine li_bipush hx hb dL_law_344 (by decide) ?_
    refine li_iadd hx hb dL_law_346 ?_
    refine bl_scr hx hb hX hbl hgs hF hlc hL (by omega) (by omega) hz7 dL_law_347 ?_
    refine bc_VW (As := [.int (iI z1), .int (iI z2), .int (iI z3), .int (iI z4), .int (iI z5), .int (iI z6), .int (iI z7)]) (rest := []) (kd := 7) (k := 0) (ci := 2) ⟨hx, hb, hml, hown, hts⟩ (c_X2_tube_f l g ad σ τ w z1 z2 z3 z4 z5 z6 z7 (by unfold iR; omega) (by unfold iR; omega) (by unfold iR; omega) (by unfold iR; omega) (by unfold iR; omega) (by unfold iR; omega) (by unfold iR; omega) hBt (by omega)) (cwV 7 hts gL_law_X2_tube rfl rfl rfl (by decide +kernel) ⟨Nat.le_of_ble_eq_true rfl, Nat.le_of_ble_eq_true rfl⟩) hK hU hlc (bx_L0 (by omega)) rfl rfl rfl hl.1 rfl (Nat.le_of_ble_eq_true rfl) dL_law_348 ⟨by show _ ≤ 694788; omega, by show _ ≤ 7011740; omega⟩ (fun H locs hU hF1 hlc => ?_)
    have hF := hF.tr hF1
    refine lv_istore (lv' := [(6, .int (iI 0)), (5, .int (iI 1)), (4, .int (iI i)), (0, .ref b), (1, .ref (ad 0 0)), (2, .ref (ad 7 0)), (3, .ref (ad 17 0))]) hx hb dL_law_351 hl (by decide) rfl (fun ls hl => ?_)
    refine lv_aload_n hx hb dL_law_353 rfl (lv_at hl 5 rfl) ?_
    refine bc_V (As := []) (rest := []) (kd := 7) (k := 0) (ci := 2) ⟨hx, hb, hml, hown, hts⟩ (c_X2_thrown l g ad σ τ (w.1, 1)) (cwV 0 hts gL_law_X2_thrown rfl rfl rfl (by decide +kernel) ⟨Nat.le_of_ble_eq_true rfl, Nat.le_of_ble_eq_true rfl⟩) hK hU (bx_L0 (by omega)) rfl rfl rfl hl.1 rfl (Nat.le_of_ble_eq_true rfl) dL_law_354 ⟨by show _ ≤ 694788; omega, by show _ ≤ 7011740; omega⟩ ?_
    refine W.eq (g2 := F0 m 357 ls [.int (iI 1)]) rfl ?_
    refine lv_iload hx hb dL_law_357 (lv_at hl 1 rfl) ?_
    refine li_icmp_eq (tgt := 364) hx hb (by unfold iR; omega) (by unfold iR; omega) dL_law_359 (by decide) (fun _ => ?_) (fun h => absurd (by decide) h)
    refine lv_iload hx hb dL_law_364 (lv_at hl 1 rfl) ?_
    refine li_if_ne (tgt := 381) hx hb (by unfold iR; omega) dL_law_366 (by decide) (fun _ => ?_) (fun h => absurd h (by decide))
    refine lv_goto (tgt := 1343) hx hb dL_law_381 (by decide) ?_
    refine W.widen (k := cells + 3) (n := slots + 12) (by omega) (by omega) ?_
    exact kk ad σ τ (w.1, 1) H locs (hI) hU hF hlc ls (lv_sub hl [2, 3, 4, 5, 6] rfl)

set_option maxHeartbeats 4000000 in
set_option maxRecDepth 100000 in
theorem ls_margin {p : Program} {l : Launch} {e : Env} {s : State} {m : MethodId} {below : List Frame} {meth : Method} {c : Code} {b L : Nat} {xs : Nat → Int32} {g : bxG} {sa : Nat → Nat} (C : LC p l s m meth c b L xs g sa) {Q : State → Prop} {ad : bxA} {σ τ : bxS} {w : bxW} {H : Heap} {locs : List Loc} {cells slots : Nat} (hI : inv σ τ) (hU : bx_U g ad σ τ w H) (hF : bx_F g s.heap H) (hlc : bx_Lc g locs) {i : Int} (hi : 0 ≤ i ∧ i + 8 ≤ L) (hc : cells + 3 ≤ 694788 ∧ slots + 12 ≤ 7011740) {ls : Array Slot} (hl : lv_has ls 8 [(4, .int (iI i)), (0, .ref b), (1, .ref (ad 0 0)), (2, .ref (ad 7 0)), (3, .ref (ad 17 0))])
    (kk : ∀ (ad : bxA) (σ τ : bxS) (w : bxW) (H : Heap) (locs : List Loc), inv σ τ → bx_U g ad σ τ w H → bx_F g s.heap H → bx_Lc g locs → ∀ ls : Array Slot, lv_has ls 8 [(4, .int (iI i)), (0, .ref b), (1, .ref (ad 0 0)), (2, .ref (ad 7 0)), (3, .ref (ad 17 0))] → W p l e room_1 s m #[Value.ref b] below meth c H locs (cells + 3) (slots + 12) Q (F0 m 1343 ls [])) : W p l e room_1 s m #[Value.ref b] below meth c H locs cells slots Q (F0 m 384 ls []) := by
  obtain ⟨⟨hx, hb, hr, hml, hown⟩, hts, hX, hbl, hlocks, hK, hT, hNc, hgs, hst, hL⟩ := C
  have hB := hI.B
  have hBt := hI.2.1
  have hM := hI.2.2.1
  have h15 := hI.2.2.2
  have hm0 := bB0 hBt
  have hmd := v_made hI
  obtain ⟨z1, hz1⟩ : ∃ z, xz xs (i + 1) = z := ⟨_, rfl⟩
  have hy1 : -2147483648 ≤ z1 ∧ z1 < 2147483648 := by rw [← hz1]; exact iR_self _
  obtain ⟨z2, hz2⟩ : ∃ z, xz xs (i + 2) = z := ⟨_, rfl⟩
  have hy2 : -2147483648 ≤ z2 ∧ z2 < 2147483648 := by rw [← hz2]; exact iR_self _
  have hth1 := v_th hI z1
  by_cases hg : (0 ≤ z1 ∧ z1 < 60 ∧ τ 2 z1 0 ≠ 0) ∧ 0 ≤ z2 ∧ z2 ≤ 50
  · refine lv_aload_n hx hb dL_law_384 rfl (lv_at hl 2 rfl) ?_
    refine lv_aload_n hx hb dL_law_385 rfl (lv_at hl 1 rfl) ?_
    refine lv_iload hx hb dL_law_386 (lv_at hl 0 rfl) ?_
    refine li_iconst hx hb dL_law_388 ?_
    refine li_iadd hx hb dL_law_389 ?_
    refine bl_scr hx hb hX hbl hgs hF hlc hL (by omega) (by omega) hz1 dL_law_390 ?_
    refine lv_aload_n hx hb dL_law_391 rfl (lv_at hl 1 rfl) ?_
    refine lv_iload hx hb dL_law_392 (lv_at hl 0 rfl) ?_
    refine li_iconst hx hb dL_law_394 ?_
    refine li_iadd hx hb dL_law_395 ?_
    refine bl_scr hx hb hX hbl hgs hF hlc hL (by omega) (by omega) hz2 dL_law_396 ?_
    refine lv_aload_n hx hb dL_law_397 rfl (lv_at hl 4 rfl) ?_
    refine bk_S (As := [.ref (ad 0 0), .int (iI z1), .int (iI z2), .ref (ad 17 0)]) (rest := []) ⟨hx, hb, hml, hown, hts⟩ (lh_margin_t l g ad σ τ w sa z1 z2 (by unfold iR; omega) (by unfold iR; omega) hB (by omega)) (vx_cwSW 4 hts gL_law_L_margin rfl rfl rfl (by decide +kernel) ⟨Nat.le_of_ble_eq_true rfl, Nat.le_of_ble_eq_true rfl⟩) (lw_pre hK hU hT hF hNc) hlc rfl hl.1 rfl (Nat.le_of_ble_eq_true rfl) dL_law_398 ⟨by show _ ≤ 694788; omega, by show _ ≤ 7011740; omega⟩ (fun H locs hU hF1 hlc => ?_)
    have hF := hF.tr hF1
    have hU : bx_U g ad (up3 σ 4 z1 0 z2) τ ((iI (σ 4 z1 0)).toInt64, w.2) H := hU
    refine lv_istore (lv' := [(5, .int (iI 0)), (4, .int (iI i)), (0, .ref b), (1, .ref (ad 0 0)), (2, .ref (ad 7 0)), (3, .ref (ad 17 0))]) hx hb dL_law_401 hl (by decide) rfl (fun ls hl => ?_)
    refine lv_aload_n hx hb dL_law_403 rfl (lv_at hl 4 rfl) ?_
    refine lv_aload_n hx hb dL_law_404 rfl (lv_at hl 2 rfl) ?_
    refine lv_iload hx hb dL_law_405 (lv_at hl 1 rfl) ?_
    refine li_iconst hx hb dL_law_407 ?_
    refine li_iadd hx hb dL_law_408 ?_
    refine bl_scr hx hb hX hbl hgs hF hlc hL (by omega) (by omega) hz1 dL_law_409 ?_
    refine lv_aload_n hx hb dL_law_410 rfl (lv_at hl 2 rfl) ?_
    refine lv_iload hx hb dL_law_411 (lv_at hl 1 rfl) ?_
    refine li_iconst hx hb dL_law_413 ?_
    refine li_iadd hx hb dL_law_414 ?_
    refine bl_scr hx hb hX hbl hgs hF hlc hL (by omega) (by omega) hz2 dL_law_415 ?_
    refine bc_VW (As := [.int (iI z1), .int (iI z2)]) (rest := []) (kd := 7) (k := 0) (ci := 2) ⟨hx, hb, hml, hown, hts⟩ (c_X2_margin_t l g ad (up3 σ 4 z1 0 z2) τ ((iI (σ 4 z1 0)).toInt64, w.2) z1 z2 (by unfold iR; omega) (by unfold iR; omega) hBt (by omega)) (cwV 2 hts gL_law_X2_margin rfl rfl rfl (by decide +kernel) ⟨Nat.le_of_ble_eq_true rfl, Nat.le_of_ble_eq_true rfl⟩) hK hU hlc (bx_L0 (by omega)) rfl rfl rfl hl.1 rfl (Nat.le_of_ble_eq_true rfl) dL_law_416 ⟨by show _ ≤ 694788; omega, by show _ ≤ 7011740; omega⟩ (fun H locs hU hF1 hlc => ?_)
    have hF := hF.tr hF1
    refine lv_istore (lv' := [(6, .int (iI (τ 4 z1 0))), (5, .int (iI 0)), (4, .int (iI i)), (0, .ref b), (1, .ref (ad 0 0)), (2, .ref (ad 7 0)), (3, .ref (ad 17 0))]) hx hb dL_law_419 hl (by decide) rfl (fun ls hl => ?_)
    refine lv_aload_n hx hb dL_law_421 rfl (lv_at hl 5 rfl) ?_
    refine bc_V (As := []) (rest := []) (kd := 7) (k := 0) (ci := 2) ⟨hx, hb, hml, hown, hts⟩ (c_X2_thrown l g ad (up3 σ 4 z1 0 z2) (up3 τ 4 z1 0 z2) (((iI (σ 4 z1 0)).toInt64, w.2).1, 0)) (cwV 0 hts gL_law_X2_thrown rfl rfl rfl (by decide +kernel) ⟨Nat.le_of_ble_eq_true rfl, Nat.le_of_ble_eq_true rfl⟩) hK hU (bx_L0 (by omega)) rfl rfl rfl hl.1 rfl (Nat.le_of_ble_eq_true rfl) dL_law_422 ⟨by show _ ≤ 694788; omega, by show _ ≤ 7011740; omega⟩ ?_
    refine W.eq (g2 := F0 m 425 ls [.int (iI 0)]) rfl ?_
    refine lv_iload hx hb dL_law_425 (lv_at hl 1 rfl) ?_
    refine li_icmp_eq (tgt := 432) hx hb (by unfold iR; omega) (by unfold iR; omega) dL_law_427 (by decide) (fun _ => ?_) (fun h => absurd (by decide) h)
    refine lv_iload hx hb dL_law_432 (lv_at hl 1 rfl) ?_
    refine li_if_ne (tgt := 449) hx hb (by unfold iR; omega) dL_law_434 (by decide) (fun h => absurd (by decide) h) (fun _ => ?_)
    refine lv_aload_n hx hb dL_law_437 rfl (lv_at hl 6 rfl) ?_
    refine li_iconst hx hb dL_law_438 ?_
    refine bl_17 hx hb hK hU dL_law_439 ?_
    refine W.eq (g2 := F0 m 440 ls [.long ((iI (σ 4 z1 0)).toInt64)]) rfl ?_
    refine lv_iload hx hb dL_law_440 (lv_at hl 0 rfl) ?_
    refine lv_i2l (v := (iI (τ 4 z1 0)).toInt64) hx hb dL_law_442 rfl ?_
    refine bl_lcmp hx hb (congrArg (fun z => (iI z).toInt64) (by rw [hI.1 4 (by omega)])) dL_law_443 ?_
    refine li_if_eq (tgt := 449) hx hb (by unfold iR; omega) dL_law_444 (by decide) (fun _ => ?_) (fun h => absurd (by decide) h)
    refine lv_goto (tgt := 1343) hx hb dL_law_449 (by decide) ?_
    refine W.widen (k := cells + 3) (n := slots + 12) (by omega) (by omega) ?_
    exact kk ad (up3 σ 4 z1 0 z2) (up3 τ 4 z1 0 z2) (((iI (σ 4 z1 0)).toInt64, w.2).1, 0) H locs (inv_margin hI ⟨by omega, by omega⟩) hU hF hlc ls (lv_sub hl [2, 3, 4, 5, 6] rfl)
  · refine lv_aload_n hx hb dL_law_384 rfl (lv_at hl 2 rfl) ?_
    refine lv_aload_n hx hb dL_law_385 rfl (lv_at hl 1 rfl) ?_
    refine lv_iload hx hb dL_law_386 (lv_at hl 0 rfl) ?_
    refine li_iconst hx hb dL_law_388 ?_
    refine li_iadd hx hb dL_law_389 ?_
    refine bl_scr hx hb hX hbl hgs hF hlc hL (by omega) (by omega) hz1 dL_law_390 ?_
    refine lv_aload_n hx hb dL_law_391 rfl (lv_at hl 1 rfl) ?_
    refine lv_iload hx hb dL_law_392 (lv_at hl 0 rfl) ?_
    refine li_iconst hx hb dL_law_394 ?_
    refine li_iadd hx hb dL_law_395 ?_
    refine bl_scr hx hb hX hbl hgs hF hlc hL (by omega) (by omega) hz2 dL_law_396 ?_
    refine lv_aload_n hx hb dL_law_397 rfl (lv_at hl 4 rfl) ?_
    refine bk_S (As := [.ref (ad 0 0), .int (iI z1), .int (iI z2), .ref (ad 17 0)]) (rest := []) ⟨hx, hb, hml, hown, hts⟩ (lh_margin_f l hst g ad σ τ w sa z1 z2 (by unfold iR; omega) (by unfold iR; omega) hB (by omega)) (vx_cwSW 4 hts gL_law_L_margin rfl rfl rfl (by decide +kernel) ⟨Nat.le_of_ble_eq_true rfl, Nat.le_of_ble_eq_true rfl⟩) (lw_pre hK hU hT hF hNc) hlc rfl hl.1 rfl (Nat.le_of_ble_eq_true rfl) dL_law_398 ⟨by show _ ≤ 694788; omega, by show _ ≤ 7011740; omega⟩ (fun H locs hU hF1 hlc => ?_)
    have hF := hF.tr hF1
    have hU : bx_U g ad σ τ w H := hU
    refine lv_istore (lv' := [(5, .int (iI 1)), (4, .int (iI i)), (0, .ref b), (1, .ref (ad 0 0)), (2, .ref (ad 7 0)), (3, .ref (ad 17 0))]) hx hb dL_law_401 hl (by decide) rfl (fun ls hl => ?_)
    refine lv_aload_n hx hb dL_law_403 rfl (lv_at hl 4 rfl) ?_
    refine lv_aload_n hx hb dL_law_404 rfl (lv_at hl 2 rfl) ?_
    refine lv_iload hx hb dL_law_405 (lv_at hl 1 rfl) ?_
    refine li_iconst hx hb dL_law_407 ?_
    refine li_iadd hx hb dL_law_408 ?_
    refine bl_scr hx hb hX hbl hgs hF hlc hL (by omega) (by omega) hz1 dL_law_409 ?_
    refine lv_aload_n hx hb dL_law_410 rfl (lv_at hl 2 rfl) ?_
    refine lv_iload hx hb dL_law_411 (lv_at hl 1 rfl) ?_
    refine li_iconst hx hb dL_law_413 ?_
    refine li_iadd hx hb dL_law_414 ?_
    refine bl_scr hx hb hX hbl hgs hF hlc hL (by omega) (by omega) hz2 dL_law_415 ?_
    refine bc_VW (As := [.int (iI z1), .int (iI z2)]) (rest := []) (kd := 7) (k := 0) (ci := 2) ⟨hx, hb, hml, hown, hts⟩ (c_X2_margin_f l g ad σ τ w z1 z2 (by unfold iR; omega) (by unfold iR; omega) hBt (by omega)) (cwV 2 hts gL_law_X2_margin rfl rfl rfl (by decide +kernel) ⟨Nat.le_of_ble_eq_true rfl, Nat.le_of_ble_eq_true rfl⟩) hK hU hlc (bx_L0 (by omega)) rfl rfl rfl hl.1 rfl (Nat.le_of_ble_eq_true rfl) dL_law_416 ⟨by show _ ≤ 694788; omega, by show _ ≤ 7011740; omega⟩ (fun H locs hU hF1 hlc => ?_)
    have hF := hF.tr hF1
    refine lv_istore (lv' := [(6, .int (iI 0)), (5, .int (iI 1)), (4, .int (iI i)), (0, .ref b), (1, .ref (ad 0 0)), (2, .ref (ad 7 0)), (3, .ref (ad 17 0))]) hx hb dL_law_419 hl (by decide) rfl (fun ls hl => ?_)
    refine lv_aload_n hx hb dL_law_421 rfl (lv_at hl 5 rfl) ?_
    refine bc_V (As := []) (rest := []) (kd := 7) (k := 0) (ci := 2) ⟨hx, hb, hml, hown, hts⟩ (c_X2_thrown l g ad σ τ (w.1, 1)) (cwV 0 hts gL_law_X2_thrown rfl rfl rfl (by decide +kernel) ⟨Nat.le_of_ble_eq_true rfl, Nat.le_of_ble_eq_true rfl⟩) hK hU (bx_L0 (by omega)) rfl rfl rfl hl.1 rfl (Nat.le_of_ble_eq_true rfl) dL_law_422 ⟨by show _ ≤ 694788; omega, by show _ ≤ 7011740; omega⟩ ?_
    refine W.eq (g2 := F0 m 425 ls [.int (iI 1)]) rfl ?_
    refine lv_iload hx hb dL_law_425 (lv_at hl 1 rfl) ?_
    refine li_icmp_eq (tgt := 432) hx hb (by unfold iR; omega) (by unfold iR; omega) dL_law_427 (by decide) (fun _ => ?_) (fun h => absurd (by decide) h)
    refine lv_iload hx hb dL_law_432 (lv_at hl 1 rfl) ?_
    refine li_if_ne (tgt := 449) hx hb (by unfold iR; omega) dL_law_434 (by decide) (fun _ => ?_) (fun h => absurd h (by decide))
    refine lv_goto (tgt := 1343) hx hb dL_law_449 (by decide) ?_
    refine W.widen (k := cells + 3) (n := slots + 12) (by omega) (by omega) ?_
    exact kk ad σ τ (w.1, 1) H locs (hI) hU hF hlc ls (lv_sub hl [2, 3, 4, 5, 6] rfl)

set_option maxHeartbeats 4000000 in
set_option maxRecDepth 100000 in
theorem ls_free {p : Program} {l : Launch} {e : Env} {s : State} {m : MethodId} {below : List Frame} {meth : Method} {c : Code} {b L : Nat} {xs : Nat → Int32} {g : bxG} {sa : Nat → Nat} (C : LC p l s m meth c b L xs g sa) {Q : State → Prop} {ad : bxA} {σ τ : bxS} {w : bxW} {H : Heap} {locs : List Loc} {cells slots : Nat} (hI : inv σ τ) (hU : bx_U g ad σ τ w H) (hF : bx_F g s.heap H) (hlc : bx_Lc g locs) {i : Int} (hi : 0 ≤ i ∧ i + 8 ≤ L) (hc : cells + 3 ≤ 694788 ∧ slots + 12 ≤ 7011740) {ls : Array Slot} (hl : lv_has ls 8 [(4, .int (iI i)), (0, .ref b), (1, .ref (ad 0 0)), (2, .ref (ad 7 0)), (3, .ref (ad 17 0))])
    (kk : ∀ (ad : bxA) (σ τ : bxS) (w : bxW) (H : Heap) (locs : List Loc), inv σ τ → bx_U g ad σ τ w H → bx_F g s.heap H → bx_Lc g locs → ∀ ls : Array Slot, lv_has ls 8 [(4, .int (iI i)), (0, .ref b), (1, .ref (ad 0 0)), (2, .ref (ad 7 0)), (3, .ref (ad 17 0))] → W p l e room_1 s m #[Value.ref b] below meth c H locs (cells + 3) (slots + 12) Q (F0 m 1343 ls [])) : W p l e room_1 s m #[Value.ref b] below meth c H locs cells slots Q (F0 m 452 ls []) := by
  obtain ⟨⟨hx, hb, hr, hml, hown⟩, hts, hX, hbl, hlocks, hK, hT, hNc, hgs, hst, hL⟩ := C
  have hB := hI.B
  have hBt := hI.2.1
  have hM := hI.2.2.1
  have h15 := hI.2.2.2
  have hm0 := bB0 hBt
  have hmd := v_made hI
  obtain ⟨z1, hz1⟩ : ∃ z, xz xs (i + 1) = z := ⟨_, rfl⟩
  have hy1 : -2147483648 ≤ z1 ∧ z1 < 2147483648 := by rw [← hz1]; exact iR_self _
  obtain ⟨z2, hz2⟩ : ∃ z, xz xs (i + 2) = z := ⟨_, rfl⟩
  have hy2 : -2147483648 ≤ z2 ∧ z2 < 2147483648 := by rw [← hz2]; exact iR_self _
  obtain ⟨z3, hz3⟩ : ∃ z, xz xs (i + 3) = z := ⟨_, rfl⟩
  have hy3 : -2147483648 ≤ z3 ∧ z3 < 2147483648 := by rw [← hz3]; exact iR_self _
  have hb9 : (0 ≤ z1 ∧ z1 ≤ 7) ∧ (0 ≤ z2 ∧ z2 ≤ 7) → τ 9 (8 * z1 + z2) 0 = 0 ∨ τ 9 (8 * z1 + z2) 0 = 1 := fun q => bB9 hBt (by omega) (by omega)
  by_cases hg : (0 ≤ z1 ∧ z1 ≤ 7) ∧ 0 ≤ z2 ∧ z2 ≤ 7
  · refine lv_aload_n hx hb dL_law_452 rfl (lv_at hl 2 rfl) ?_
    refine lv_aload_n hx hb dL_law_453 rfl (lv_at hl 1 rfl) ?_
    refine lv_iload hx hb dL_law_454 (lv_at hl 0 rfl) ?_
    refine li_iconst hx hb dL_law_456 ?_
    refine li_iadd hx hb dL_law_457 ?_
    refine bl_scr hx hb hX hbl hgs hF hlc hL (by omega) (by omega) hz1 dL_law_458 ?_
    refine lv_aload_n hx hb dL_law_459 rfl (lv_at hl 1 rfl) ?_
    refine lv_iload hx hb dL_law_460 (lv_at hl 0 rfl) ?_
    refine li_iconst hx hb dL_law_462 ?_
    refine li_iadd hx hb dL_law_463 ?_
    refine bl_scr hx hb hX hbl hgs hF hlc hL (by omega) (by omega) hz2 dL_law_464 ?_
    refine lv_aload_n hx hb dL_law_465 rfl (lv_at hl 1 rfl) ?_
    refine lv_iload hx hb dL_law_466 (lv_at hl 0 rfl) ?_
    refine li_iconst hx hb dL_law_468 ?_
    refine li_iadd hx hb dL_law_469 ?_
    refine bl_scr hx hb hX hbl hgs hF hlc hL (by omega) (by omega) hz3 dL_law_470 ?_
    refine li_if_eq (tgt := 478) hx hb (by unfold iR; omega) dL_law_471 (by decide) (fun h1 => ?_) (fun h1 => ?_)
    · refine li_iconst hx hb dL_law_478 ?_
      refine lv_aload_n hx hb dL_law_479 rfl (lv_at hl 4 rfl) ?_
      refine bk_S (As := [.ref (ad 0 0), .int (iI z1), .int (iI z2), .int (iI 0), .ref (ad 17 0)]) (rest := []) ⟨hx, hb, hml, hown, hts⟩ (lh_free_t l g ad σ τ w sa z1 z2 0 (by unfold iR; omega) (by unfold iR; omega) (by omega) hB (by omega)) (vx_cwSW 5 hts gL_law_L_free rfl rfl rfl (by decide +kernel) ⟨Nat.le_of_ble_eq_true rfl, Nat.le_of_ble_eq_true rfl⟩) (lw_pre hK hU hT hF hNc) hlc rfl hl.1 rfl (Nat.le_of_ble_eq_true rfl) dL_law_480 ⟨by show _ ≤ 694788; omega, by show _ ≤ 7011740; omega⟩ (fun H locs hU hF1 hlc => ?_)
      have hF := hF.tr hF1
      have hU : bx_U g ad (up3 (up3 σ 9 (z1 * 8 + z2) 0 0) 9 (z2 * 8 + z1) 0 0) τ ((lB (zB (σ 9 (z1 * 8 + z2) 0 ≠ 0))), w.2) H := hU
      refine lv_istore (lv' := [(5, .int (iI 0)), (4, .int (iI i)), (0, .ref b), (1, .ref (ad 0 0)), (2, .ref (ad 7 0)), (3, .ref (ad 17 0))]) hx hb dL_law_483 hl (by decide) rfl (fun ls hl => ?_)
      refine lv_aload_n hx hb dL_law_485 rfl (lv_at hl 4 rfl) ?_
      refine lv_aload_n hx hb dL_law_486 rfl (lv_at hl 2 rfl) ?_
      refine lv_iload hx hb dL_law_487 (lv_at hl 1 rfl) ?_
      refine li_iconst hx hb dL_law_489 ?_
      refine li_iadd hx hb dL_law_490 ?_
      refine bl_scr hx hb hX hbl hgs hF hlc hL (by omega) (by omega) hz1 dL_law_491 ?_
      refine lv_aload_n hx hb dL_law_492 rfl (lv_at hl 2 rfl) ?_
      refine lv_iload hx hb dL_law_493 (lv_at hl 1 rfl) ?_
      refine li_iconst hx hb dL_law_495 ?_
      refine li_iadd hx hb dL_law_496 ?_
      refine bl_scr hx hb hX hbl hgs hF hlc hL (by omega) (by omega) hz2 dL_law_497 ?_
      refine lv_aload_n hx hb dL_law_498 rfl (lv_at hl 2 rfl) ?_
      refine lv_iload hx hb dL_law_499 (lv_at hl 1 rfl) ?_
      refine li_iconst hx hb dL_law_501 ?_
      refine li_iadd hx hb dL_law_502 ?_
      refine bl_scr hx hb hX hbl hgs hF hlc hL (by omega) (by omega) hz3 dL_law_503 ?_
      refine li_if_eq (tgt := 511) hx hb (by unfold iR; omega) dL_law_504 (by decide) (fun h2 => ?_) (fun h2 => absurd h2 (by omega))
      refine li_iconst hx hb dL_law_511 ?_
      refine bc_VW (As := [.int (iI z1), .int (iI z2), .int (iI 0)]) (rest := []) (kd := 7) (k := 0) (ci := 2) ⟨hx, hb, hml, hown, hts⟩ (c_X2_free_t l g ad (up3 (up3 σ 9 (z1 * 8 + z2) 0 0) 9 (z2 * 8 + z1) 0 0) τ ((lB (zB (σ 9 (z1 * 8 + z2) 0 ≠ 0))), w.2) z1 z2 0 (by unfold iR; omega) (by unfold iR; omega) (by omega) hBt (by omega)) (cwV 3 hts gL_law_X2_free rfl rfl rfl (by decide +kernel) ⟨Nat.le_of_ble_eq_true rfl, Nat.le_of_ble_eq_true rfl⟩) hK hU hlc (bx_L0 (by omega)) rfl rfl rfl hl.1 rfl (Nat.le_of_ble_eq_true rfl) dL_law_512 ⟨by show _ ≤ 694788; omega, by show _ ≤ 7011740; omega⟩ (fun H locs hU hF1 hlc => ?_)
      have hF := hF.tr hF1
      refine lv_istore (lv' := [(6, .int (iI (τ 9 (8 * z1 + z2) 0))), (5, .int (iI 0)), (4, .int (iI i)), (0, .ref b), (1, .ref (ad 0 0)), (2, .ref (ad 7 0)), (3, .ref (ad 17 0))]) hx hb dL_law_515 hl (by decide) rfl (fun ls hl => ?_)
      refine lv_aload_n hx hb dL_law_517 rfl (lv_at hl 5 rfl) ?_
      refine bc_V (As := []) (rest := []) (kd := 7) (k := 0) (ci := 2) ⟨hx, hb, hml, hown, hts⟩ (c_X2_thrown l g ad (up3 (up3 σ 9 (z1 * 8 + z2) 0 0) 9 (z2 * 8 + z1) 0 0) (up3 (up3 τ 9 (8 * z1 + z2) 0 0) 9 (8 * z2 + z1) 0 0) (((lB (zB (σ 9 (z1 * 8 + z2) 0 ≠ 0))), w.2).1, 0)) (cwV 0 hts gL_law_X2_thrown rfl rfl rfl (by decide +kernel) ⟨Nat.le_of_ble_eq_true rfl, Nat.le_of_ble_eq_true rfl⟩) hK hU (bx_L0 (by omega)) rfl rfl rfl hl.1 rfl (Nat.le_of_ble_eq_true rfl) dL_law_518 ⟨by show _ ≤ 694788; omega, by show _ ≤ 7011740; omega⟩ ?_
      refine W.eq (g2 := F0 m 521 ls [.int (iI 0)]) rfl ?_
      refine lv_iload hx hb dL_law_521 (lv_at hl 1 rfl) ?_
      refine li_icmp_eq (tgt := 528) hx hb (by unfold iR; omega) (by unfold iR; omega) dL_law_523 (by decide) (fun _ => ?_) (fun h => absurd (by decide) h)
      refine lv_iload hx hb dL_law_528 (lv_at hl 1 rfl) ?_
      refine li_if_ne (tgt := 552) hx hb (by unfold iR; omega) dL_law_530 (by decide) (fun h => absurd (by decide) h) (fun _ => ?_)
      refine lv_aload_n hx hb dL_law_533 rfl (lv_at hl 6 rfl) ?_
      refine li_iconst hx hb dL_law_534 ?_
      refine bl_17 hx hb hK hU dL_law_535 ?_
      refine W.eq (g2 := F0 m 536 ls [.long (lB (zB (σ 9 (z1 * 8 + z2) 0 ≠ 0)))]) rfl ?_
      refine lv_iload hx hb dL_law_536 (lv_at hl 0 rfl) ?_
      refine li_if_eq (tgt := 545) hx hb (by unfold iR; omega) dL_law_538 (by decide) (fun h3 => ?_) (fun h3 => ?_)
      · refine lv_lconst (v := 0) hx hb dL_law_545 (by decide) ?_
        refine bl_lcmp hx hb (by rw [v_free hI ⟨by omega, by omega⟩ ⟨by omega, by omega⟩]; exact if_pos h3) dL_law_546 ?_
        refine li_if_eq (tgt := 552) hx hb (by unfold iR; omega) dL_law_547 (by decide) (fun _ => ?_) (fun h => absurd (by decide) h)
        refine lv_goto (tgt := 1343) hx hb dL_law_552 (by decide) ?_
        refine W.widen (k := cells + 3) (n := slots + 12) (by omega) (by omega) ?_
        exact kk ad (up3 (up3 σ 9 (z1 * 8 + z2) 0 0) 9 (z2 * 8 + z1) 0 0) (up3 (up3 τ 9 (8 * z1 + z2) 0 0) 9 (8 * z2 + z1) 0 0) (((lB (zB (σ 9 (z1 * 8 + z2) 0 ≠ 0))), w.2).1, 0) H locs (inv_free hI (by omega)) hU hF hlc ls (lv_sub hl [2, 3, 4, 5, 6] rfl)
      · refine lv_lconst (v := 1) hx hb dL_law_541 (by decide) ?_
        refine lv_goto (tgt := 546) hx hb dL_law_542 (by decide) ?_
        refine bl_lcmp hx hb (by rw [v_free hI ⟨by omega, by omega⟩ ⟨by omega, by omega⟩]; exact if_neg h3) dL_law_546 ?_
        refine li_if_eq (tgt := 552) hx hb (by unfold iR; omega) dL_law_547 (by decide) (fun _ => ?_) (fun h => absurd (by decide) h)
        refine lv_goto (tgt := 1343) hx hb dL_law_552 (by decide) ?_
        refine W.widen (k := cells + 3) (n := slots + 12) (by omega) (by omega) ?_
        exact kk ad (up3 (up3 σ 9 (z1 * 8 + z2) 0 0) 9 (z2 * 8 + z1) 0 0) (up3 (up3 τ 9 (8 * z1 + z2) 0 0) 9 (8 * z2 + z1) 0 0) (((lB (zB (σ 9 (z1 * 8 + z2) 0 ≠ 0))), w.2).1, 0) H locs (inv_free hI (by omega)) hU hF hlc ls (lv_sub hl [2, 3, 4, 5, 6] rfl)
    · refine li_iconst hx hb dL_law_474 ?_
      refine lv_goto (tgt := 479) hx hb dL_law_475 (by decide) ?_
      refine lv_aload_n hx hb dL_law_479 rfl (lv_at hl 4 rfl) ?_
      refine bk_S (As := [.ref (ad 0 0), .int (iI z1), .int (iI z2), .int (iI 1), .ref (ad 17 0)]) (rest := []) ⟨hx, hb, hml, hown, hts⟩ (lh_free_t l g ad σ τ w sa z1 z2 1 (by unfold iR; omega) (by unfold iR; omega) (by omega) hB (by omega)) (vx_cwSW 5 hts gL_law_L_free rfl rfl rfl (by decide +kernel) ⟨Nat.le_of_ble_eq_true rfl, Nat.le_of_ble_eq_true rfl⟩) (lw_pre hK hU hT hF hNc) hlc rfl hl.1 rfl (Nat.le_of_ble_eq_true rfl) dL_law_480 ⟨by show _ ≤ 694788; omega, by show _ ≤ 7011740; omega⟩ (fun H locs hU hF1 hlc => ?_)
      have hF := hF.tr hF1
      have hU : bx_U g ad (up3 (up3 σ 9 (z1 * 8 + z2) 0 1) 9 (z2 * 8 + z1) 0 1) τ ((lB (zB (σ 9 (z1 * 8 + z2) 0 ≠ 0))), w.2) H := hU
      refine lv_istore (lv' := [(5, .int (iI 0)), (4, .int (iI i)), (0, .ref b), (1, .ref (ad 0 0)), (2, .ref (ad 7 0)), (3, .ref (ad 17 0))]) hx hb dL_law_483 hl (by decide) rfl (fun ls hl => ?_)
      refine lv_aload_n hx hb dL_law_485 rfl (lv_at hl 4 rfl) ?_
      refine lv_aload_n hx hb dL_law_486 rfl (lv_at hl 2 rfl) ?_
      refine lv_iload hx hb dL_law_487 (lv_at hl 1 rfl) ?_
      refine li_iconst hx hb dL_law_489 ?_
      refine li_iadd hx hb dL_law_490 ?_
      refine bl_scr hx hb hX hbl hgs hF hlc hL (by omega) (by omega) hz1 dL_law_491 ?_
      refine lv_aload_n hx hb dL_law_492 rfl (lv_at hl 2 rfl) ?_
      refine lv_iload hx hb dL_law_493 (lv_at hl 1 rfl) ?_
      refine li_iconst hx hb dL_law_495 ?_
      refine li_iadd hx hb dL_law_496 ?_
      refine bl_scr hx hb hX hbl hgs hF hlc hL (by omega) (by omega) hz2 dL_law_497 ?_
      refine lv_aload_n hx hb dL_law_498 rfl (lv_at hl 2 rfl) ?_
      refine lv_iload hx hb dL_law_499 (lv_at hl 1 rfl) ?_
      refine li_iconst hx hb dL_law_501 ?_
      refine li_iadd hx hb dL_law_502 ?_
      refine bl_scr hx hb hX hbl hgs hF hlc hL (by omega) (by omega) hz3 dL_law_503 ?_
      refine li_if_eq (tgt := 511) hx hb (by unfold iR; omega) dL_law_504 (by decide) (fun h4 => absurd h4 (by omega)) (fun h4 => ?_)
      refine li_iconst hx hb dL_law_507 ?_
      refine lv_goto (tgt := 512) hx hb dL_law_508 (by decide) ?_
      refine bc_VW (As := [.int (iI z1), .int (iI z2), .int (iI 1)]) (rest := []) (kd := 7) (k := 0) (ci := 2) ⟨hx, hb, hml, hown, hts⟩ (c_X2_free_t l g ad (up3 (up3 σ 9 (z1 * 8 + z2) 0 1) 9 (z2 * 8 + z1) 0 1) τ ((lB (zB (σ 9 (z1 * 8 + z2) 0 ≠ 0))), w.2) z1 z2 1 (by unfold iR; omega) (by unfold iR; omega) (by omega) hBt (by omega)) (cwV 3 hts gL_law_X2_free rfl rfl rfl (by decide +kernel) ⟨Nat.le_of_ble_eq_true rfl, Nat.le_of_ble_eq_true rfl⟩) hK hU hlc (bx_L0 (by omega)) rfl rfl rfl hl.1 rfl (Nat.le_of_ble_eq_true rfl) dL_law_512 ⟨by show _ ≤ 694788; omega, by show _ ≤ 7011740; omega⟩ (fun H locs hU hF1 hlc => ?_)
      have hF := hF.tr hF1
      refine lv_istore (lv' := [(6, .int (iI (τ 9 (8 * z1 + z2) 0))), (5, .int (iI 0)), (4, .int (iI i)), (0, .ref b), (1, .ref (ad 0 0)), (2, .ref (ad 7 0)), (3, .ref (ad 17 0))]) hx hb dL_law_515 hl (by decide) rfl (fun ls hl => ?_)
      refine lv_aload_n hx hb dL_law_517 rfl (lv_at hl 5 rfl) ?_
      refine bc_V (As := []) (rest := []) (kd := 7) (k := 0) (ci := 2) ⟨hx, hb, hml, hown, hts⟩ (c_X2_thrown l g ad (up3 (up3 σ 9 (z1 * 8 + z2) 0 1) 9 (z2 * 8 + z1) 0 1) (up3 (up3 τ 9 (8 * z1 + z2) 0 1) 9 (8 * z2 + z1) 0 1) (((lB (zB (σ 9 (z1 * 8 + z2) 0 ≠ 0))), w.2).1, 0)) (cwV 0 hts gL_law_X2_thrown rfl rfl rfl (by decide +kernel) ⟨Nat.le_of_ble_eq_true rfl, Nat.le_of_ble_eq_true rfl⟩) hK hU (bx_L0 (by omega)) rfl rfl rfl hl.1 rfl (Nat.le_of_ble_eq_true rfl) dL_law_518 ⟨by show _ ≤ 694788; omega, by show _ ≤ 7011740; omega⟩ ?_
      refine W.eq (g2 := F0 m 521 ls [.int (iI 0)]) rfl ?_
      refine lv_iload hx hb dL_law_521 (lv_at hl 1 rfl) ?_
      refine li_icmp_eq (tgt := 528) hx hb (by unfold iR; omega) (by unfold iR; omega) dL_law_523 (by decide) (fun _ => ?_) (fun h => absurd (by decide) h)
      refine lv_iload hx hb dL_law_528 (lv_at hl 1 rfl) ?_
      refine li_if_ne (tgt := 552) hx hb (by unfold iR; omega) dL_law_530 (by decide) (fun h => absurd (by decide) h) (fun _ => ?_)
      refine lv_aload_n hx hb dL_law_533 rfl (lv_at hl 6 rfl) ?_
      refine li_iconst hx hb dL_law_534 ?_
      refine bl_17 hx hb hK hU dL_law_535 ?_
      refine W.eq (g2 := F0 m 536 ls [.long (lB (zB (σ 9 (z1 * 8 + z2) 0 ≠ 0)))]) rfl ?_
      refine lv_iload hx hb dL_law_536 (lv_at hl 0 rfl) ?_
      refine li_if_eq (tgt := 545) hx hb (by unfold iR; omega) dL_law_538 (by decide) (fun h5 => ?_) (fun h5 => ?_)
      · refine lv_lconst (v := 0) hx hb dL_law_545 (by decide) ?_
        refine bl_lcmp hx hb (by rw [v_free hI ⟨by omega, by omega⟩ ⟨by omega, by omega⟩]; exact if_pos h5) dL_law_546 ?_
        refine li_if_eq (tgt := 552) hx hb (by unfold iR; omega) dL_law_547 (by decide) (fun _ => ?_) (fun h => absurd (by decide) h)
        refine lv_goto (tgt := 1343) hx hb dL_law_552 (by decide) ?_
        refine W.widen (k := cells + 3) (n := slots + 12) (by omega) (by omega) ?_
        exact kk ad (up3 (up3 σ 9 (z1 * 8 + z2) 0 1) 9 (z2 * 8 + z1) 0 1) (up3 (up3 τ 9 (8 * z1 + z2) 0 1) 9 (8 * z2 + z1) 0 1) (((lB (zB (σ 9 (z1 * 8 + z2) 0 ≠ 0))), w.2).1, 0) H locs (inv_free hI (by omega)) hU hF hlc ls (lv_sub hl [2, 3, 4, 5, 6] rfl)
      · refine lv_lconst (v := 1) hx hb dL_law_541 (by decide) ?_
        refine lv_goto (tgt := 546) hx hb dL_law_542 (by decide) ?_
        refine bl_lcmp hx hb (by rw [v_free hI ⟨by omega, by omega⟩ ⟨by omega, by omega⟩]; exact if_neg h5) dL_law_546 ?_
        refine li_if_eq (tgt := 552) hx hb (by unfold iR; omega) dL_law_547 (by decide) (fun _ => ?_) (fun h => absurd (by decide) h)
        refine lv_goto (tgt := 1343) hx hb dL_law_552 (by decide) ?_
        refine W.widen (k := cells + 3) (n := slots + 12) (by omega) (by omega) ?_
        exact kk ad (up3 (up3 σ 9 (z1 * 8 + z2) 0 1) 9 (z2 * 8 + z1) 0 1) (up3 (up3 τ 9 (8 * z1 + z2) 0 1) 9 (8 * z2 + z1) 0 1) (((lB (zB (σ 9 (z1 * 8 + z2) 0 ≠ 0))), w.2).1, 0) H locs (inv_free hI (by omega)) hU hF hlc ls (lv_sub hl [2, 3, 4, 5, 6] rfl)
  · refine lv_aload_n hx hb dL_law_452 rfl (lv_at hl 2 rfl) ?_
    refine lv_aload_n hx hb dL_law_453 rfl (lv_at hl 1 rfl) ?_
    refine lv_iload hx hb dL_law_454 (lv_at hl 0 rfl) ?_
    refine li_iconst hx hb dL_law_456 ?_
    refine li_iadd hx hb dL_law_457 ?_
    refine bl_scr hx hb hX hbl hgs hF hlc hL (by omega) (by omega) hz1 dL_law_458 ?_
    refine lv_aload_n hx hb dL_law_459 rfl (lv_at hl 1 rfl) ?_
    refine lv_iload hx hb dL_law_460 (lv_at hl 0 rfl) ?_
    refine li_iconst hx hb dL_law_462 ?_
    refine li_iadd hx hb dL_law_463 ?_
    refine bl_scr hx hb hX hbl hgs hF hlc hL (by omega) (by omega) hz2 dL_law_464 ?_
    refine lv_aload_n hx hb dL_law_465 rfl (lv_at hl 1 rfl) ?_
    refine lv_iload hx hb dL_law_466 (lv_at hl 0 rfl) ?_
    refine li_iconst hx hb dL_law_468 ?_
    refine li_iadd hx hb dL_law_469 ?_
    refine bl_scr hx hb hX hbl hgs hF hlc hL (by omega) (by omega) hz3 dL_law_470 ?_
    refine li_if_eq (tgt := 478) hx hb (by unfold iR; omega) dL_law_471 (by decide) (fun h1 => ?_) (fun h1 => ?_)
    · refine li_iconst hx hb dL_law_478 ?_
      refine lv_aload_n hx hb dL_law_479 rfl (lv_at hl 4 rfl) ?_
      refine bk_S (As := [.ref (ad 0 0), .int (iI z1), .int (iI z2), .int (iI 0), .ref (ad 17 0)]) (rest := []) ⟨hx, hb, hml, hown, hts⟩ (lh_free_f l hst g ad σ τ w sa z1 z2 0 (by unfold iR; omega) (by unfold iR; omega) (by omega) hB (by omega)) (vx_cwSW 5 hts gL_law_L_free rfl rfl rfl (by decide +kernel) ⟨Nat.le_of_ble_eq_true rfl, Nat.le_of_ble_eq_true rfl⟩) (lw_pre hK hU hT hF hNc) hlc rfl hl.1 rfl (Nat.le_of_ble_eq_true rfl) dL_law_480 ⟨by show _ ≤ 694788; omega, by show _ ≤ 7011740; omega⟩ (fun H locs hU hF1 hlc => ?_)
      have hF := hF.tr hF1
      have hU : bx_U g ad σ τ w H := hU
      refine lv_istore (lv' := [(5, .int (iI 1)), (4, .int (iI i)), (0, .ref b), (1, .ref (ad 0 0)), (2, .ref (ad 7 0)), (3, .ref (ad 17 0))]) hx hb dL_law_483 hl (by decide) rfl (fun ls hl => ?_)
      refine lv_aload_n hx hb dL_law_485 rfl (lv_at hl 4 rfl) ?_
      refine lv_aload_n hx hb dL_law_486 rfl (lv_at hl 2 rfl) ?_
      refine lv_iload hx hb dL_law_487 (lv_at hl 1 rfl) ?_
      refine li_iconst hx hb dL_law_489 ?_
      refine li_iadd hx hb dL_law_490 ?_
      refine bl_scr hx hb hX hbl hgs hF hlc hL (by omega) (by omega) hz1 dL_law_491 ?_
      refine lv_aload_n hx hb dL_law_492 rfl (lv_at hl 2 rfl) ?_
      refine lv_iload hx hb dL_law_493 (lv_at hl 1 rfl) ?_
      refine li_iconst hx hb dL_law_495 ?_
      refine li_iadd hx hb dL_law_496 ?_
      refine bl_scr hx hb hX hbl hgs hF hlc hL (by omega) (by omega) hz2 dL_law_497 ?_
      refine lv_aload_n hx hb dL_law_498 rfl (lv_at hl 2 rfl) ?_
      refine lv_iload hx hb dL_law_499 (lv_at hl 1 rfl) ?_
      refine li_iconst hx hb dL_law_501 ?_
      refine li_iadd hx hb dL_law_502 ?_
      refine bl_scr hx hb hX hbl hgs hF hlc hL (by omega) (by omega) hz3 dL_law_503 ?_
      refine li_if_eq (tgt := 511) hx hb (by unfold iR; omega) dL_law_504 (by decide) (fun h2 => ?_) (fun h2 => absurd h2 (by omega))
      refine li_iconst hx hb dL_law_511 ?_
      refine bc_VW (As := [.int (iI z1), .int (iI z2), .int (iI 0)]) (rest := []) (kd := 7) (k := 0) (ci := 2) ⟨hx, hb, hml, hown, hts⟩ (c_X2_free_f l g ad σ τ w z1 z2 0 (by unfold iR; omega) (by unfold iR; omega) (by omega) hBt (by omega)) (cwV 3 hts gL_law_X2_free rfl rfl rfl (by decide +kernel) ⟨Nat.le_of_ble_eq_true rfl, Nat.le_of_ble_eq_true rfl⟩) hK hU hlc (bx_L0 (by omega)) rfl rfl rfl hl.1 rfl (Nat.le_of_ble_eq_true rfl) dL_law_512 ⟨by show _ ≤ 694788; omega, by show _ ≤ 7011740; omega⟩ (fun H locs hU hF1 hlc => ?_)
      have hF := hF.tr hF1
      refine lv_istore (lv' := [(6, .int (iI 0)), (5, .int (iI 1)), (4, .int (iI i)), (0, .ref b), (1, .ref (ad 0 0)), (2, .ref (ad 7 0)), (3, .ref (ad 17 0))]) hx hb dL_law_515 hl (by decide) rfl (fun ls hl => ?_)
      refine lv_aload_n hx hb dL_law_517 rfl (lv_at hl 5 rfl) ?_
      refine bc_V (As := []) (rest := []) (kd := 7) (k := 0) (ci := 2) ⟨hx, hb, hml, hown, hts⟩ (c_X2_thrown l g ad σ τ (w.1, 1)) (cwV 0 hts gL_law_X2_thrown rfl rfl rfl (by decide +kernel) ⟨Nat.le_of_ble_eq_true rfl, Nat.le_of_ble_eq_true rfl⟩) hK hU (bx_L0 (by omega)) rfl rfl rfl hl.1 rfl (Nat.le_of_ble_eq_true rfl) dL_law_518 ⟨by show _ ≤ 694788; omega, by show _ ≤ 7011740; omega⟩ ?_
      refine W.eq (g2 := F0 m 521 ls [.int (iI 1)]) rfl ?_
      refine lv_iload hx hb dL_law_521 (lv_at hl 1 rfl) ?_
      refine li_icmp_eq (tgt := 528) hx hb (by unfold iR; omega) (by unfold iR; omega) dL_law_523 (by decide) (fun _ => ?_) (fun h => absurd (by decide) h)
      refine lv_iload hx hb dL_law_528 (lv_at hl 1 rfl) ?_
      refine li_if_ne (tgt := 552) hx hb (by unfold iR; omega) dL_law_530 (by decide) (fun _ => ?_) (fun h => absurd h (by decide))
      refine lv_goto (tgt := 1343) hx hb dL_law_552 (by decide) ?_
      refine W.widen (k := cells + 3) (n := slots + 12) (by omega) (by omega) ?_
      exact kk ad σ τ (w.1, 1) H locs (hI) hU hF hlc ls (lv_sub hl [2, 3, 4, 5, 6] rfl)
    · refine li_iconst hx hb dL_law_474 ?_
      refine lv_goto (tgt := 479) hx hb dL_law_475 (by decide) ?_
      refine lv_aload_n hx hb dL_law_479 rfl (lv_at hl 4 rfl) ?_
      refine bk_S (As := [.ref (ad 0 0), .int (iI z1), .int (iI z2), .int (iI 1), .ref (ad 17 0)]) (rest := []) ⟨hx, hb, hml, hown, hts⟩ (lh_free_f l hst g ad σ τ w sa z1 z2 1 (by unfold iR; omega) (by unfold iR; omega) (by omega) hB (by omega)) (vx_cwSW 5 hts gL_law_L_free rfl rfl rfl (by decide +kernel) ⟨Nat.le_of_ble_eq_true rfl, Nat.le_of_ble_eq_true rfl⟩) (lw_pre hK hU hT hF hNc) hlc rfl hl.1 rfl (Nat.le_of_ble_eq_true rfl) dL_law_480 ⟨by show _ ≤ 694788; omega, by show _ ≤ 7011740; omega⟩ (fun H locs hU hF1 hlc => ?_)
      have hF := hF.tr hF1
      have hU : bx_U g ad σ τ w H := hU
      refine lv_istore (lv' := [(5, .int (iI 1)), (4, .int (iI i)), (0, .ref b), (1, .ref (ad 0 0)), (2, .ref (ad 7 0)), (3, .ref (ad 17 0))]) hx hb dL_law_483 hl (by decide) rfl (fun ls hl => ?_)
      refine lv_aload_n hx hb dL_law_485 rfl (lv_at hl 4 rfl) ?_
      refine lv_aload_n hx hb dL_law_486 rfl (lv_at hl 2 rfl) ?_
      refine lv_iload hx hb dL_law_487 (lv_at hl 1 rfl) ?_
      refine li_iconst hx hb dL_law_489 ?_
      refine li_iadd hx hb dL_law_490 ?_
      refine bl_scr hx hb hX hbl hgs hF hlc hL (by omega) (by omega) hz1 dL_law_491 ?_
      refine lv_aload_n hx hb dL_law_492 rfl (lv_at hl 2 rfl) ?_
      refine lv_iload hx hb dL_law_493 (lv_at hl 1 rfl) ?_
      refine li_iconst hx hb dL_law_495 ?_
      refine li_iadd hx hb dL_law_496 ?_
      refine bl_scr hx hb hX hbl hgs hF hlc hL (by omega) (by omega) hz2 dL_law_497 ?_
      refine lv_aload_n hx hb dL_law_498 rfl (lv_at hl 2 rfl) ?_
      refine lv_iload hx hb dL_law_499 (lv_at hl 1 rfl) ?_
      refine li_iconst hx hb dL_law_501 ?_
      refine li_iadd hx hb dL_law_502 ?_
      refine bl_scr hx hb hX hbl hgs hF hlc hL (by omega) (by omega) hz3 dL_law_503 ?_
      refine li_if_eq (tgt := 511) hx hb (by unfold iR; omega) dL_law_504 (by decide) (fun h3 => absurd h3 (by omega)) (fun h3 => ?_)
      refine li_iconst hx hb dL_law_507 ?_
      refine lv_goto (tgt := 512) hx hb dL_law_508 (by decide) ?_
      refine bc_VW (As := [.int (iI z1), .int (iI z2), .int (iI 1)]) (rest := []) (kd := 7) (k := 0) (ci := 2) ⟨hx, hb, hml, hown, hts⟩ (c_X2_free_f l g ad σ τ w z1 z2 1 (by unfold iR; omega) (by unfold iR; omega) (by omega) hBt (by omega)) (cwV 3 hts gL_law_X2_free rfl rfl rfl (by decide +kernel) ⟨Nat.le_of_ble_eq_true rfl, Nat.le_of_ble_eq_true rfl⟩) hK hU hlc (bx_L0 (by omega)) rfl rfl rfl hl.1 rfl (Nat.le_of_ble_eq_true rfl) dL_law_512 ⟨by show _ ≤ 694788; omega, by show _ ≤ 7011740; omega⟩ (fun H locs hU hF1 hlc => ?_)
      have hF := hF.tr hF1
      refine lv_istore (lv' := [(6, .int (iI 0)), (5, .int (iI 1)), (4, .int (iI i)), (0, .ref b), (1, .ref (ad 0 0)), (2, .ref (ad 7 0)), (3, .ref (ad 17 0))]) hx hb dL_law_515 hl (by decide) rfl (fun ls hl => ?_)
      refine lv_aload_n hx hb dL_law_517 rfl (lv_at hl 5 rfl) ?_
      refine bc_V (As := []) (rest := []) (kd := 7) (k := 0) (ci := 2) ⟨hx, hb, hml, hown, hts⟩ (c_X2_thrown l g ad σ τ (w.1, 1)) (cwV 0 hts gL_law_X2_thrown rfl rfl rfl (by decide +kernel) ⟨Nat.le_of_ble_eq_true rfl, Nat.le_of_ble_eq_true rfl⟩) hK hU (bx_L0 (by omega)) rfl rfl rfl hl.1 rfl (Nat.le_of_ble_eq_true rfl) dL_law_518 ⟨by show _ ≤ 694788; omega, by show _ ≤ 7011740; omega⟩ ?_
      refine W.eq (g2 := F0 m 521 ls [.int (iI 1)]) rfl ?_
      refine lv_iload hx hb dL_law_521 (lv_at hl 1 rfl) ?_
      refine li_icmp_eq (tgt := 528) hx hb (by unfold iR; omega) (by unfold iR; omega) dL_law_523 (by decide) (fun _ => ?_) (fun h => absurd (by decide) h)
      refine lv_iload hx hb dL_law_528 (lv_at hl 1 rfl) ?_
      refine li_if_ne (tgt := 552) hx hb (by unfold iR; omega) dL_law_530 (by decide) (fun _ => ?_) (fun h => absurd h (by decide))
      refine lv_goto (tgt := 1343) hx hb dL_law_552 (by decide) ?_
      refine W.widen (k := cells + 3) (n := slots + 12) (by omega) (by omega) ?_
      exact kk ad σ τ (w.1, 1) H locs (hI) hU hF hlc ls (lv_sub hl [2, 3, 4, 5, 6] rfl)

set_option maxHeartbeats 4000000 in
set_option maxRecDepth 100000 in
theorem ls_move {p : Program} {l : Launch} {e : Env} {s : State} {m : MethodId} {below : List Frame} {meth : Method} {c : Code} {b L : Nat} {xs : Nat → Int32} {g : bxG} {sa : Nat → Nat} (C : LC p l s m meth c b L xs g sa) {Q : State → Prop} {ad : bxA} {σ τ : bxS} {w : bxW} {H : Heap} {locs : List Loc} {cells slots : Nat} (hI : inv σ τ) (hU : bx_U g ad σ τ w H) (hF : bx_F g s.heap H) (hlc : bx_Lc g locs) {i : Int} (hi : 0 ≤ i ∧ i + 8 ≤ L) (hc : cells + 3 ≤ 694788 ∧ slots + 12 ≤ 7011740) {ls : Array Slot} (hl : lv_has ls 8 [(4, .int (iI i)), (0, .ref b), (1, .ref (ad 0 0)), (2, .ref (ad 7 0)), (3, .ref (ad 17 0))])
    (kk : ∀ (ad : bxA) (σ τ : bxS) (w : bxW) (H : Heap) (locs : List Loc), inv σ τ → bx_U g ad σ τ w H → bx_F g s.heap H → bx_Lc g locs → ∀ ls : Array Slot, lv_has ls 8 [(4, .int (iI i)), (0, .ref b), (1, .ref (ad 0 0)), (2, .ref (ad 7 0)), (3, .ref (ad 17 0))] → W p l e room_1 s m #[Value.ref b] below meth c H locs (cells + 3) (slots + 12) Q (F0 m 1343 ls [])) : W p l e room_1 s m #[Value.ref b] below meth c H locs cells slots Q (F0 m 555 ls []) := by
  obtain ⟨⟨hx, hb, hr, hml, hown⟩, hts, hX, hbl, hlocks, hK, hT, hNc, hgs, hst, hL⟩ := C
  have hB := hI.B
  have hBt := hI.2.1
  have hM := hI.2.2.1
  have h15 := hI.2.2.2
  have hm0 := bB0 hBt
  have hmd := v_made hI
  obtain ⟨z1, hz1⟩ : ∃ z, xz xs (i + 1) = z := ⟨_, rfl⟩
  have hy1 : -2147483648 ≤ z1 ∧ z1 < 2147483648 := by rw [← hz1]; exact iR_self _
  obtain ⟨z2, hz2⟩ : ∃ z, xz xs (i + 2) = z := ⟨_, rfl⟩
  have hy2 : -2147483648 ≤ z2 ∧ z2 < 2147483648 := by rw [← hz2]; exact iR_self _
  obtain ⟨z3, hz3⟩ : ∃ z, xz xs (i + 3) = z := ⟨_, rfl⟩
  have hy3 : -2147483648 ≤ z3 ∧ z3 < 2147483648 := by rw [← hz3]; exact iR_self _
  have hth1 := v_th hI z1
  have hb9 : (if 0 ≤ τ 7 z1 z2 + z3 ∧ τ 8 z1 z2 + z3 ≤ 1000 then (1 : Int) else 0) = 0 ∨ (if 0 ≤ τ 7 z1 z2 + z3 ∧ τ 8 z1 z2 + z3 ≤ 1000 then (1 : Int) else 0) = 1 := by split <;> omega
  by_cases hg : (0 ≤ z1 ∧ z1 < 60 ∧ τ 2 z1 0 ≠ 0) ∧ (0 ≤ z2 ∧ z2 ≤ 2) ∧ -1000 ≤ z3 ∧ z3 ≤ 1000
  · refine lv_aload_n hx hb dL_law_555 rfl (lv_at hl 2 rfl) ?_
    refine lv_aload_n hx hb dL_law_556 rfl (lv_at hl 1 rfl) ?_
    refine lv_iload hx hb dL_law_557 (lv_at hl 0 rfl) ?_
    refine li_iconst hx hb dL_law_559 ?_
    refine li_iadd hx hb dL_law_560 ?_
    refine bl_scr hx hb hX hbl hgs hF hlc hL (by omega) (by omega) hz1 dL_law_561 ?_
    refine lv_aload_n hx hb dL_law_562 rfl (lv_at hl 1 rfl) ?_
    refine lv_iload hx hb dL_law_563 (lv_at hl 0 rfl) ?_
    refine li_iconst hx hb dL_law_565 ?_
    refine li_iadd hx hb dL_law_566 ?_
    refine bl_scr hx hb hX hbl hgs hF hlc hL (by omega) (by omega) hz2 dL_law_567 ?_
    refine lv_aload_n hx hb dL_law_568 rfl (lv_at hl 1 rfl) ?_
    refine lv_iload hx hb dL_law_569 (lv_at hl 0 rfl) ?_
    refine li_iconst hx hb dL_law_571 ?_
    refine li_iadd hx hb dL_law_572 ?_
    refine bl_scr hx hb hX hbl hgs hF hlc hL (by omega) (by omega) hz3 dL_law_573 ?_
    refine lv_aload_n hx hb dL_law_574 rfl (lv_at hl 4 rfl) ?_
    refine bk_S (As := [.ref (ad 0 0), .int (iI z1), .int (iI z2), .int (iI z3), .ref (ad 17 0)]) (rest := []) ⟨hx, hb, hml, hown, hts⟩ (lh_move_t l g ad σ τ w sa z1 z2 z3 (by unfold iR; omega) (by unfold iR; omega) (by unfold iR; omega) hB (by omega)) (vx_cwSW 5 hts gL_law_L_move rfl rfl rfl (by decide +kernel) ⟨Nat.le_of_ble_eq_true rfl, Nat.le_of_ble_eq_true rfl⟩) (lw_pre hK hU hT hF hNc) hlc rfl hl.1 rfl (Nat.le_of_ble_eq_true rfl) dL_law_575 ⟨by show _ ≤ 694788; omega, by show _ ≤ 7011740; omega⟩ (fun H locs hU hF1 hlc => ?_)
    have hF := hF.tr hF1
    have hU : bx_U g ad (if 0 ≤ σ 7 z1 z2 + z3 ∧ σ 8 z1 z2 + z3 ≤ 1000 then up3 (up3 σ 7 z1 z2 (σ 7 z1 z2 + z3)) 8 z1 z2 (σ 8 z1 z2 + z3) else σ) τ ((lB (if 0 ≤ σ 7 z1 z2 + z3 ∧ σ 8 z1 z2 + z3 ≤ 1000 then 1 else 0)), w.2) H := hU
    refine lv_istore (lv' := [(5, .int (iI 0)), (4, .int (iI i)), (0, .ref b), (1, .ref (ad 0 0)), (2, .ref (ad 7 0)), (3, .ref (ad 17 0))]) hx hb dL_law_578 hl (by decide) rfl (fun ls hl => ?_)
    refine lv_aload_n hx hb dL_law_580 rfl (lv_at hl 4 rfl) ?_
    refine lv_aload_n hx hb dL_law_581 rfl (lv_at hl 2 rfl) ?_
    refine lv_iload hx hb dL_law_582 (lv_at hl 1 rfl) ?_
    refine li_iconst hx hb dL_law_584 ?_
    refine li_iadd hx hb dL_law_585 ?_
    refine bl_scr hx hb hX hbl hgs hF hlc hL (by omega) (by omega) hz1 dL_law_586 ?_
    refine lv_aload_n hx hb dL_law_587 rfl (lv_at hl 2 rfl) ?_
    refine lv_iload hx hb dL_law_588 (lv_at hl 1 rfl) ?_
    refine li_iconst hx hb dL_law_590 ?_
    refine li_iadd hx hb dL_law_591 ?_
    refine bl_scr hx hb hX hbl hgs hF hlc hL (by omega) (by omega) hz2 dL_law_592 ?_
    refine lv_aload_n hx hb dL_law_593 rfl (lv_at hl 2 rfl) ?_
    refine lv_iload hx hb dL_law_594 (lv_at hl 1 rfl) ?_
    refine li_iconst hx hb dL_law_596 ?_
    refine li_iadd hx hb dL_law_597 ?_
    refine bl_scr hx hb hX hbl hgs hF hlc hL (by omega) (by omega) hz3 dL_law_598 ?_
    refine bc_VW (As := [.int (iI z1), .int (iI z2), .int (iI z3)]) (rest := []) (kd := 7) (k := 0) (ci := 2) ⟨hx, hb, hml, hown, hts⟩ (c_X2_move_t l g ad (if 0 ≤ σ 7 z1 z2 + z3 ∧ σ 8 z1 z2 + z3 ≤ 1000 then up3 (up3 σ 7 z1 z2 (σ 7 z1 z2 + z3)) 8 z1 z2 (σ 8 z1 z2 + z3) else σ) τ ((lB (if 0 ≤ σ 7 z1 z2 + z3 ∧ σ 8 z1 z2 + z3 ≤ 1000 then 1 else 0)), w.2) z1 z2 z3 (by unfold iR; omega) (by unfold iR; omega) (by unfold iR; omega) hBt (by omega)) (cwV 3 hts gL_law_X2_move rfl rfl rfl (by decide +kernel) ⟨Nat.le_of_ble_eq_true rfl, Nat.le_of_ble_eq_true rfl⟩) hK hU hlc (bx_L0 (by omega)) rfl rfl rfl hl.1 rfl (Nat.le_of_ble_eq_true rfl) dL_law_599 ⟨by show _ ≤ 694788; omega, by show _ ≤ 7011740; omega⟩ (fun H locs hU hF1 hlc => ?_)
    have hF := hF.tr hF1
    refine lv_istore (lv' := [(6, .int (iI (if 0 ≤ τ 7 z1 z2 + z3 ∧ τ 8 z1 z2 + z3 ≤ 1000 then 1 else 0))), (5, .int (iI 0)), (4, .int (iI i)), (0, .ref b), (1, .ref (ad 0 0)), (2, .ref (ad 7 0)), (3, .ref (ad 17 0))]) hx hb dL_law_602 hl (by decide) rfl (fun ls hl => ?_)
    refine lv_aload_n hx hb dL_law_604 rfl (lv_at hl 5 rfl) ?_
    refine bc_V (As := []) (rest := []) (kd := 7) (k := 0) (ci := 2) ⟨hx, hb, hml, hown, hts⟩ (c_X2_thrown l g ad (if 0 ≤ σ 7 z1 z2 + z3 ∧ σ 8 z1 z2 + z3 ≤ 1000 then up3 (up3 σ 7 z1 z2 (σ 7 z1 z2 + z3)) 8 z1 z2 (σ 8 z1 z2 + z3) else σ) (if 0 ≤ τ 7 z1 z2 + z3 ∧ τ 8 z1 z2 + z3 ≤ 1000 then up3 (up3 τ 7 z1 z2 (τ 7 z1 z2 + z3)) 8 z1 z2 (τ 8 z1 z2 + z3) else τ) (((lB (if 0 ≤ σ 7 z1 z2 + z3 ∧ σ 8 z1 z2 + z3 ≤ 1000 then 1 else 0)), w.2).1, 0)) (cwV 0 hts gL_law_X2_thrown rfl rfl rfl (by decide +kernel) ⟨Nat.le_of_ble_eq_true rfl, Nat.le_of_ble_eq_true rfl⟩) hK hU (bx_L0 (by omega)) rfl rfl rfl hl.1 rfl (Nat.le_of_ble_eq_true rfl) dL_law_605 ⟨by show _ ≤ 694788; omega, by show _ ≤ 7011740; omega⟩ ?_
    refine W.eq (g2 := F0 m 608 ls [.int (iI 0)]) rfl ?_
    refine lv_iload hx hb dL_law_608 (lv_at hl 1 rfl) ?_
    refine li_icmp_eq (tgt := 615) hx hb (by unfold iR; omega) (by unfold iR; omega) dL_law_610 (by decide) (fun _ => ?_) (fun h => absurd (by decide) h)
    refine lv_iload hx hb dL_law_615 (lv_at hl 1 rfl) ?_
    refine li_if_ne (tgt := 639) hx hb (by unfold iR; omega) dL_law_617 (by decide) (fun h => absurd (by decide) h) (fun _ => ?_)
    refine lv_aload_n hx hb dL_law_620 rfl (lv_at hl 6 rfl) ?_
    refine li_iconst hx hb dL_law_621 ?_
    refine bl_17 hx hb hK hU dL_law_622 ?_
    refine W.eq (g2 := F0 m 623 ls [.long (lB (if 0 ≤ σ 7 z1 z2 + z3 ∧ σ 8 z1 z2 + z3 ≤ 1000 then 1 else 0))]) rfl ?_
    refine lv_iload hx hb dL_law_623 (lv_at hl 0 rfl) ?_
    refine li_if_eq (tgt := 632) hx hb (by unfold iR; omega) dL_law_625 (by decide) (fun h1 => ?_) (fun h1 => ?_)
    · refine lv_lconst (v := 0) hx hb dL_law_632 (by decide) ?_
      refine bl_lcmp hx hb (by rw [hI.1 7 (by omega), hI.1 8 (by omega)]; exact if_pos h1) dL_law_633 ?_
      refine li_if_eq (tgt := 639) hx hb (by unfold iR; omega) dL_law_634 (by decide) (fun _ => ?_) (fun h => absurd (by decide) h)
      refine lv_goto (tgt := 1343) hx hb dL_law_639 (by decide) ?_
      refine W.widen (k := cells + 3) (n := slots + 12) (by omega) (by omega) ?_
      exact kk ad (if 0 ≤ σ 7 z1 z2 + z3 ∧ σ 8 z1 z2 + z3 ≤ 1000 then up3 (up3 σ 7 z1 z2 (σ 7 z1 z2 + z3)) 8 z1 z2 (σ 8 z1 z2 + z3) else σ) (if 0 ≤ τ 7 z1 z2 + z3 ∧ τ 8 z1 z2 + z3 ≤ 1000 then up3 (up3 τ 7 z1 z2 (τ 7 z1 z2 + z3)) 8 z1 z2 (τ 8 z1 z2 + z3) else τ) (((lB (if 0 ≤ σ 7 z1 z2 + z3 ∧ σ 8 z1 z2 + z3 ≤ 1000 then 1 else 0)), w.2).1, 0) H locs (inv_move hI ⟨by omega, by omega, by omega⟩ ⟨by omega, by omega⟩) hU hF hlc ls (lv_sub hl [2, 3, 4, 5, 6] rfl)
    · refine lv_lconst (v := 1) hx hb dL_law_628 (by decide) ?_
      refine lv_goto (tgt := 633) hx hb dL_law_629 (by decide) ?_
      refine bl_lcmp hx hb (by rw [hI.1 7 (by omega), hI.1 8 (by omega)]; exact if_neg h1) dL_law_633 ?_
      refine li_if_eq (tgt := 639) hx hb (by unfold iR; omega) dL_law_634 (by decide) (fun _ => ?_) (fun h => absurd (by decide) h)
      refine lv_goto (tgt := 1343) hx hb dL_law_639 (by decide) ?_
      refine W.widen (k := cells + 3) (n := slots + 12) (by omega) (by omega) ?_
      exact kk ad (if 0 ≤ σ 7 z1 z2 + z3 ∧ σ 8 z1 z2 + z3 ≤ 1000 then up3 (up3 σ 7 z1 z2 (σ 7 z1 z2 + z3)) 8 z1 z2 (σ 8 z1 z2 + z3) else σ) (if 0 ≤ τ 7 z1 z2 + z3 ∧ τ 8 z1 z2 + z3 ≤ 1000 then up3 (up3 τ 7 z1 z2 (τ 7 z1 z2 + z3)) 8 z1 z2 (τ 8 z1 z2 + z3) else τ) (((lB (if 0 ≤ σ 7 z1 z2 + z3 ∧ σ 8 z1 z2 + z3 ≤ 1000 then 1 else 0)), w.2).1, 0) H locs (inv_move hI ⟨by omega, by omega, by omega⟩ ⟨by omega, by omega⟩) hU hF hlc ls (lv_sub hl [2, 3, 4, 5, 6] rfl)
  · refine lv_aload_n hx hb dL_law_555 rfl (lv_at hl 2 rfl) ?_
    refine lv_aload_n hx hb dL_law_556 rfl (lv_at hl 1 rfl) ?_
    refine lv_iload hx hb dL_law_557 (lv_at hl 0 rfl) ?_
    refine li_iconst hx hb dL_law_559 ?_
    refine li_iadd hx hb dL_law_560 ?_
    refine bl_scr hx hb hX hbl hgs hF hlc hL (by omega) (by omega) hz1 dL_law_561 ?_
    refine lv_aload_n hx hb dL_law_562 rfl (lv_at hl 1 rfl) ?_
    refine lv_iload hx hb dL_law_563 (lv_at hl 0 rfl) ?_
    refine li_iconst hx hb dL_law_565 ?_
    refine li_iadd hx hb dL_law_566 ?_
    refine bl_scr hx hb hX hbl hgs hF hlc hL (by omega) (by omega) hz2 dL_law_567 ?_
    refine lv_aload_n hx hb dL_law_568 rfl (lv_at hl 1 rfl) ?_
    refine lv_iload hx hb dL_law_569 (lv_at hl 0 rfl) ?_
    refine li_iconst hx hb dL_law_571 ?_
    refine li_iadd hx hb dL_law_572 ?_
    refine bl_scr hx hb hX hbl hgs hF hlc hL (by omega) (by omega) hz3 dL_law_573 ?_
    refine lv_aload_n hx hb dL_law_574 rfl (lv_at hl 4 rfl) ?_
    refine bk_S (As := [.ref (ad 0 0), .int (iI z1), .int (iI z2), .int (iI z3), .ref (ad 17 0)]) (rest := []) ⟨hx, hb, hml, hown, hts⟩ (lh_move_f l hst g ad σ τ w sa z1 z2 z3 (by unfold iR; omega) (by unfold iR; omega) (by unfold iR; omega) hB (by omega)) (vx_cwSW 5 hts gL_law_L_move rfl rfl rfl (by decide +kernel) ⟨Nat.le_of_ble_eq_true rfl, Nat.le_of_ble_eq_true rfl⟩) (lw_pre hK hU hT hF hNc) hlc rfl hl.1 rfl (Nat.le_of_ble_eq_true rfl) dL_law_575 ⟨by show _ ≤ 694788; omega, by show _ ≤ 7011740; omega⟩ (fun H locs hU hF1 hlc => ?_)
    have hF := hF.tr hF1
    have hU : bx_U g ad σ τ w H := hU
    refine lv_istore (lv' := [(5, .int (iI 1)), (4, .int (iI i)), (0, .ref b), (1, .ref (ad 0 0)), (2, .ref (ad 7 0)), (3, .ref (ad 17 0))]) hx hb dL_law_578 hl (by decide) rfl (fun ls hl => ?_)
    refine lv_aload_n hx hb dL_law_580 rfl (lv_at hl 4 rfl) ?_
    refine lv_aload_n hx hb dL_law_581 rfl (lv_at hl 2 rfl) ?_
    refine lv_iload hx hb dL_law_582 (lv_at hl 1 rfl) ?_
    refine li_iconst hx hb dL_law_584 ?_
    refine li_iadd hx hb dL_law_585 ?_
    refine bl_scr hx hb hX hbl hgs hF hlc hL (by omega) (by omega) hz1 dL_law_586 ?_
    refine lv_aload_n hx hb dL_law_587 rfl (lv_at hl 2 rfl) ?_
    refine lv_iload hx hb dL_law_588 (lv_at hl 1 rfl) ?_
    refine li_iconst hx hb dL_law_590 ?_
    refine li_iadd hx hb dL_law_591 ?_
    refine bl_scr hx hb hX hbl hgs hF hlc hL (by omega) (by omega) hz2 dL_law_592 ?_
    refine lv_aload_n hx hb dL_law_593 rfl (lv_at hl 2 rfl) ?_
    refine lv_iload hx hb dL_law_594 (lv_at hl 1 rfl) ?_
    refine li_iconst hx hb dL_law_596 ?_
    refine li_iadd hx hb dL_law_597 ?_
    refine bl_scr hx hb hX hbl hgs hF hlc hL (by omega) (by omega) hz3 dL_law_598 ?_
    refine bc_VW (As := [.int (iI z1), .int (iI z2), .int (iI z3)]) (rest := []) (kd := 7) (k := 0) (ci := 2) ⟨hx, hb, hml, hown, hts⟩ (c_X2_move_f l g ad σ τ w z1 z2 z3 (by unfold iR; omega) (by unfold iR; omega) (by unfold iR; omega) hBt (by omega)) (cwV 3 hts gL_law_X2_move rfl rfl rfl (by decide +kernel) ⟨Nat.le_of_ble_eq_true rfl, Nat.le_of_ble_eq_true rfl⟩) hK hU hlc (bx_L0 (by omega)) rfl rfl rfl hl.1 rfl (Nat.le_of_ble_eq_true rfl) dL_law_599 ⟨by show _ ≤ 694788; omega, by show _ ≤ 7011740; omega⟩ (fun H locs hU hF1 hlc => ?_)
    have hF := hF.tr hF1
    refine lv_istore (lv' := [(6, .int (iI 0)), (5, .int (iI 1)), (4, .int (iI i)), (0, .ref b), (1, .ref (ad 0 0)), (2, .ref (ad 7 0)), (3, .ref (ad 17 0))]) hx hb dL_law_602 hl (by decide) rfl (fun ls hl => ?_)
    refine lv_aload_n hx hb dL_law_604 rfl (lv_at hl 5 rfl) ?_
    refine bc_V (As := []) (rest := []) (kd := 7) (k := 0) (ci := 2) ⟨hx, hb, hml, hown, hts⟩ (c_X2_thrown l g ad σ τ (w.1, 1)) (cwV 0 hts gL_law_X2_thrown rfl rfl rfl (by decide +kernel) ⟨Nat.le_of_ble_eq_true rfl, Nat.le_of_ble_eq_true rfl⟩) hK hU (bx_L0 (by omega)) rfl rfl rfl hl.1 rfl (Nat.le_of_ble_eq_true rfl) dL_law_605 ⟨by show _ ≤ 694788; omega, by show _ ≤ 7011740; omega⟩ ?_
    refine W.eq (g2 := F0 m 608 ls [.int (iI 1)]) rfl ?_
    refine lv_iload hx hb dL_law_608 (lv_at hl 1 rfl) ?_
    refine li_icmp_eq (tgt := 615) hx hb (by unfold iR; omega) (by unfold iR; omega) dL_law_610 (by decide) (fun _ => ?_) (fun h => absurd (by decide) h)
    refine lv_iload hx hb dL_law_615 (lv_at hl 1 rfl) ?_
    refine li_if_ne (tgt := 639) hx hb (by unfold iR; omega) dL_law_617 (by decide) (fun _ => ?_) (fun h => absurd h (by decide))
    refine lv_goto (tgt := 1343) hx hb dL_law_639 (by decide) ?_
    refine W.widen (k := cells + 3) (n := slots + 12) (by omega) (by omega) ?_
    exact kk ad σ τ (w.1, 1) H locs (hI) hU hF hlc ls (lv_sub hl [2, 3, 4, 5, 6] rfl)

set_option maxHeartbeats 4000000 in
set_option maxRecDepth 100000 in
theorem ls_drop {p : Program} {l : Launch} {e : Env} {s : State} {m : MethodId} {below : List Frame} {meth : Method} {c : Code} {b L : Nat} {xs : Nat → Int32} {g : bxG} {sa : Nat → Nat} (C : LC p l s m meth c b L xs g sa) {Q : State → Prop} {ad : bxA} {σ τ : bxS} {w : bxW} {H : Heap} {locs : List Loc} {cells slots : Nat} (hI : inv σ τ) (hU : bx_U g ad σ τ w H) (hF : bx_F g s.heap H) (hlc : bx_Lc g locs) {i : Int} (hi : 0 ≤ i ∧ i + 8 ≤ L) (hc : cells + 3 ≤ 694788 ∧ slots + 12 ≤ 7011740) {ls : Array Slot} (hl : lv_has ls 8 [(4, .int (iI i)), (0, .ref b), (1, .ref (ad 0 0)), (2, .ref (ad 7 0)), (3, .ref (ad 17 0))])
    (kk : ∀ (ad : bxA) (σ τ : bxS) (w : bxW) (H : Heap) (locs : List Loc), inv σ τ → bx_U g ad σ τ w H → bx_F g s.heap H → bx_Lc g locs → ∀ ls : Array Slot, lv_has ls 8 [(4, .int (iI i)), (0, .ref b), (1, .ref (ad 0 0)), (2, .ref (ad 7 0)), (3, .ref (ad 17 0))] → W p l e room_1 s m #[Value.ref b] below meth c H locs (cells + 3) (slots + 12) Q (F0 m 1343 ls [])) : W p l e room_1 s m #[Value.ref b] below meth c H locs cells slots Q (F0 m 642 ls []) := by
  obtain ⟨⟨hx, hb, hr, hml, hown⟩, hts, hX, hbl, hlocks, hK, hT, hNc, hgs, hst, hL⟩ := C
  have hB := hI.B
  have hBt := hI.2.1
  have hM := hI.2.2.1
  have h15 := hI.2.2.2
  have hm0 := bB0 hBt
  have hmd := v_made hI
  obtain ⟨z1, hz1⟩ : ∃ z, xz xs (i + 1) = z := ⟨_, rfl⟩
  have hy1 : -2147483648 ≤ z1 ∧ z1 < 2147483648 := by rw [← hz1]; exact iR_self _
  have hth1 := v_th hI z1
  by_cases hg : 0 ≤ z1 ∧ z1 < 60 ∧ τ 2 z1 0 ≠ 0
  · refine lv_aload_n hx hb dL_law_642 rfl (lv_at hl 2 rfl) ?_
    refine lv_aload_n hx hb dL_law_643 rfl (lv_at hl 1 rfl) ?_
    refine lv_iload hx hb dL_law_644 (lv_at hl 0 rfl) ?_
    refine li_iconst hx hb dL_law_646 ?_
    refine li_iadd hx hb dL_law_647 ?_
    refine bl_scr hx hb hX hbl hgs hF hlc hL (by omega) (by omega) hz1 dL_law_648 ?_
    refine lv_aload_n hx hb dL_law_649 rfl (lv_at hl 4 rfl) ?_
    refine bk_S (As := [.ref (ad 0 0), .int (iI z1), .ref (ad 17 0)]) (rest := []) ⟨hx, hb, hml, hown, hts⟩ (lh_drop_t l g ad σ τ w sa z1 (by unfold iR; omega) hB (by omega)) (vx_cwSW 3 hts gL_law_L_drop rfl rfl rfl (by decide +kernel) ⟨Nat.le_of_ble_eq_true rfl, Nat.le_of_ble_eq_true rfl⟩) (lw_pre hK hU hT hF hNc) hlc rfl hl.1 rfl (Nat.le_of_ble_eq_true rfl) dL_law_650 ⟨by show _ ≤ 694788; omega, by show _ ≤ 7011740; omega⟩ (fun H locs hU hF1 hlc => ?_)
    have hF := hF.tr hF1
    have hU : bx_U g ad (up3 (up3 σ 2 z1 0 0) 1 0 0 (σ 1 0 0 - 1)) τ ((iI (σ 1 0 0 - 1)).toInt64, w.2) H := hU
    refine lv_istore (lv' := [(5, .int (iI 0)), (4, .int (iI i)), (0, .ref b), (1, .ref (ad 0 0)), (2, .ref (ad 7 0)), (3, .ref (ad 17 0))]) hx hb dL_law_653 hl (by decide) rfl (fun ls hl => ?_)
    refine lv_aload_n hx hb dL_law_655 rfl (lv_at hl 4 rfl) ?_
    refine lv_aload_n hx hb dL_law_656 rfl (lv_at hl 2 rfl) ?_
    refine lv_iload hx hb dL_law_657 (lv_at hl 1 rfl) ?_
    refine li_iconst hx hb dL_law_659 ?_
    refine li_iadd hx hb dL_law_660 ?_
    refine bl_scr hx hb hX hbl hgs hF hlc hL (by omega) (by omega) hz1 dL_law_661 ?_
    refine bc_VW (As := [.int (iI z1)]) (rest := []) (kd := 7) (k := 0) (ci := 2) ⟨hx, hb, hml, hown, hts⟩ (c_X2_drop_t l g ad (up3 (up3 σ 2 z1 0 0) 1 0 0 (σ 1 0 0 - 1)) τ ((iI (σ 1 0 0 - 1)).toInt64, w.2) z1 (by unfold iR; omega) hBt (by omega)) (cwV 1 hts gL_law_X2_drop rfl rfl rfl (by decide +kernel) ⟨Nat.le_of_ble_eq_true rfl, Nat.le_of_ble_eq_true rfl⟩) hK hU hlc (bx_L0 (by omega)) rfl rfl rfl hl.1 rfl (Nat.le_of_ble_eq_true rfl) dL_law_662 ⟨by show _ ≤ 694788; omega, by show _ ≤ 7011740; omega⟩ (fun H locs hU hF1 hlc => ?_)
    have hF := hF.tr hF1
    refine lv_istore (lv' := [(6, .int (iI (τ 1 0 0 - 1))), (5, .int (iI 0)), (4, .int (iI i)), (0, .ref b), (1, .ref (ad 0 0)), (2, .ref (ad 7 0)), (3, .ref (ad 17 0))]) hx hb dL_law_665 hl (by decide) rfl (fun ls hl => ?_)
    refine lv_aload_n hx hb dL_law_667 rfl (lv_at hl 5 rfl) ?_
    refine bc_V (As := []) (rest := []) (kd := 7) (k := 0) (ci := 2) ⟨hx, hb, hml, hown, hts⟩ (c_X2_thrown l g ad (up3 (up3 σ 2 z1 0 0) 1 0 0 (σ 1 0 0 - 1)) (up3 (up3 τ 2 z1 0 0) 1 0 0 (τ 1 0 0 - 1)) (((iI (σ 1 0 0 - 1)).toInt64, w.2).1, 0)) (cwV 0 hts gL_law_X2_thrown rfl rfl rfl (by decide +kernel) ⟨Nat.le_of_ble_eq_true rfl, Nat.le_of_ble_eq_true rfl⟩) hK hU (bx_L0 (by omega)) rfl rfl rfl hl.1 rfl (Nat.le_of_ble_eq_true rfl) dL_law_668 ⟨by show _ ≤ 694788; omega, by show _ ≤ 7011740; omega⟩ ?_
    refine W.eq (g2 := F0 m 671 ls [.int (iI 0)]) rfl ?_
    refine lv_iload hx hb dL_law_671 (lv_at hl 1 rfl) ?_
    refine li_icmp_eq (tgt := 678) hx hb (by unfold iR; omega) (by unfold iR; omega) dL_law_673 (by decide) (fun _ => ?_) (fun h => absurd (by decide) h)
    refine lv_iload hx hb dL_law_678 (lv_at hl 1 rfl) ?_
    refine li_if_ne (tgt := 695) hx hb (by unfold iR; omega) dL_law_680 (by decide) (fun h => absurd (by decide) h) (fun _ => ?_)
    refine lv_aload_n hx hb dL_law_683 rfl (lv_at hl 6 rfl) ?_
    refine li_iconst hx hb dL_law_684 ?_
    refine bl_17 hx hb hK hU dL_law_685 ?_
    refine W.eq (g2 := F0 m 686 ls [.long ((iI (σ 1 0 0 - 1)).toInt64)]) rfl ?_
    refine lv_iload hx hb dL_law_686 (lv_at hl 0 rfl) ?_
    refine lv_i2l (v := (iI (τ 1 0 0 - 1)).toInt64) hx hb dL_law_688 rfl ?_
    refine bl_lcmp hx hb (congrArg (fun z => (iI z).toInt64) (by rw [hI.1 1 (by omega)])) dL_law_689 ?_
    refine li_if_eq (tgt := 695) hx hb (by unfold iR; omega) dL_law_690 (by decide) (fun _ => ?_) (fun h => absurd (by decide) h)
    refine lv_goto (tgt := 1343) hx hb dL_law_695 (by decide) ?_
    refine W.widen (k := cells + 3) (n := slots + 12) (by omega) (by omega) ?_
    exact kk ad (up3 (up3 σ 2 z1 0 0) 1 0 0 (σ 1 0 0 - 1)) (up3 (up3 τ 2 z1 0 0) 1 0 0 (τ 1 0 0 - 1)) (((iI (σ 1 0 0 - 1)).toInt64, w.2).1, 0) H locs (inv_drop hI z1) hU hF hlc ls (lv_sub hl [2, 3, 4, 5, 6] rfl)
  · refine lv_aload_n hx hb dL_law_642 rfl (lv_at hl 2 rfl) ?_
    refine lv_aload_n hx hb dL_law_643 rfl (lv_at hl 1 rfl) ?_
    refine lv_iload hx hb dL_law_644 (lv_at hl 0 rfl) ?_
    refine li_iconst hx hb dL_law_646 ?_
    refine li_iadd hx hb dL_law_647 ?_
    refine bl_scr hx hb hX hbl hgs hF hlc hL (by omega) (by omega) hz1 dL_law_648 ?_
    refine lv_aload_n hx hb dL_law_649 rfl (lv_at hl 4 rfl) ?_
    refine bk_S (As := [.ref (ad 0 0), .int (iI z1), .ref (ad 17 0)]) (rest := []) ⟨hx, hb, hml, hown, hts⟩ (lh_drop_f l hst g ad σ τ w sa z1 (by unfold iR; omega) hB (by omega)) (vx_cwSW 3 hts gL_law_L_drop rfl rfl rfl (by decide +kernel) ⟨Nat.le_of_ble_eq_true rfl, Nat.le_of_ble_eq_true rfl⟩) (lw_pre hK hU hT hF hNc) hlc rfl hl.1 rfl (Nat.le_of_ble_eq_true rfl) dL_law_650 ⟨by show _ ≤ 694788; omega, by show _ ≤ 7011740; omega⟩ (fun H locs hU hF1 hlc => ?_)
    have hF := hF.tr hF1
    have hU : bx_U g ad σ τ w H := hU
    refine lv_istore (lv' := [(5, .int (iI 1)), (4, .int (iI i)), (0, .ref b), (1, .ref (ad 0 0)), (2, .ref (ad 7 0)), (3, .ref (ad 17 0))]) hx hb dL_law_653 hl (by decide) rfl (fun ls hl => ?_)
    refine lv_aload_n hx hb dL_law_655 rfl (lv_at hl 4 rfl) ?_
    refine lv_aload_n hx hb dL_law_656 rfl (lv_at hl 2 rfl) ?_
    refine lv_iload hx hb dL_law_657 (lv_at hl 1 rfl) ?_
    refine li_iconst hx hb dL_law_659 ?_
    refine li_iadd hx hb dL_law_660 ?_
    refine bl_scr hx hb hX hbl hgs hF hlc hL (by omega) (by omega) hz1 dL_law_661 ?_
    refine bc_VW (As := [.int (iI z1)]) (rest := []) (kd := 7) (k := 0) (ci := 2) ⟨hx, hb, hml, hown, hts⟩ (c_X2_drop_f l g ad σ τ w z1 (by unfold iR; omega) hBt (by omega)) (cwV 1 hts gL_law_X2_drop rfl rfl rfl (by decide +kernel) ⟨Nat.le_of_ble_eq_true rfl, Nat.le_of_ble_eq_true rfl⟩) hK hU hlc (bx_L0 (by omega)) rfl rfl rfl hl.1 rfl (Nat.le_of_ble_eq_true rfl) dL_law_662 ⟨by show _ ≤ 694788; omega, by show _ ≤ 7011740; omega⟩ (fun H locs hU hF1 hlc => ?_)
    have hF := hF.tr hF1
    refine lv_istore (lv' := [(6, .int (iI 0)), (5, .int (iI 1)), (4, .int (iI i)), (0, .ref b), (1, .ref (ad 0 0)), (2, .ref (ad 7 0)), (3, .ref (ad 17 0))]) hx hb dL_law_665 hl (by decide) rfl (fun ls hl => ?_)
    refine lv_aload_n hx hb dL_law_667 rfl (lv_at hl 5 rfl) ?_
    refine bc_V (As := []) (rest := []) (kd := 7) (k := 0) (ci := 2) ⟨hx, hb, hml, hown, hts⟩ (c_X2_thrown l g ad σ τ (w.1, 1)) (cwV 0 hts gL_law_X2_thrown rfl rfl rfl (by decide +kernel) ⟨Nat.le_of_ble_eq_true rfl, Nat.le_of_ble_eq_true rfl⟩) hK hU (bx_L0 (by omega)) rfl rfl rfl hl.1 rfl (Nat.le_of_ble_eq_true rfl) dL_law_668 ⟨by show _ ≤ 694788; omega, by show _ ≤ 7011740; omega⟩ ?_
    refine W.eq (g2 := F0 m 671 ls [.int (iI 1)]) rfl ?_
    refine lv_iload hx hb dL_law_671 (lv_at hl 1 rfl) ?_
    refine li_icmp_eq (tgt := 678) hx hb (by unfold iR; omega) (by unfold iR; omega) dL_law_673 (by decide) (fun _ => ?_) (fun h => absurd (by decide) h)
    refine lv_iload hx hb dL_law_678 (lv_at hl 1 rfl) ?_
    refine li_if_ne (tgt := 695) hx hb (by unfold iR; omega) dL_law_680 (by decide) (fun _ => ?_) (fun h => absurd h (by decide))
    refine lv_goto (tgt := 1343) hx hb dL_law_695 (by decide) ?_
    refine W.widen (k := cells + 3) (n := slots + 12) (by omega) (by omega) ?_
    exact kk ad σ τ (w.1, 1) H locs (hI) hU hF hlc ls (lv_sub hl [2, 3, 4, 5, 6] rfl)

set_option maxHeartbeats 4000000 in
set_option maxRecDepth 100000 in
theorem ls_pair {p : Program} {l : Launch} {e : Env} {s : State} {m : MethodId} {below : List Frame} {meth : Method} {c : Code} {b L : Nat} {xs : Nat → Int32} {g : bxG} {sa : Nat → Nat} (C : LC p l s m meth c b L xs g sa) {Q : State → Prop} {ad : bxA} {σ τ : bxS} {w : bxW} {H : Heap} {locs : List Loc} {cells slots : Nat} (hI : inv σ τ) (hU : bx_U g ad σ τ w H) (hF : bx_F g s.heap H) (hlc : bx_Lc g locs) {i : Int} (hi : 0 ≤ i ∧ i + 8 ≤ L) (hc : cells + 3 ≤ 694788 ∧ slots + 12 ≤ 7011740) {ls : Array Slot} (hl : lv_has ls 8 [(4, .int (iI i)), (0, .ref b), (1, .ref (ad 0 0)), (2, .ref (ad 7 0)), (3, .ref (ad 17 0))])
    (kk : ∀ (ad : bxA) (σ τ : bxS) (w : bxW) (H : Heap) (locs : List Loc), inv σ τ → bx_U g ad σ τ w H → bx_F g s.heap H → bx_Lc g locs → ∀ ls : Array Slot, lv_has ls 8 [(4, .int (iI i)), (0, .ref b), (1, .ref (ad 0 0)), (2, .ref (ad 7 0)), (3, .ref (ad 17 0))] → W p l e room_1 s m #[Value.ref b] below meth c H locs (cells + 3) (slots + 12) Q (F0 m 1343 ls [])) : W p l e room_1 s m #[Value.ref b] below meth c H locs cells slots Q (F0 m 698 ls []) := by
  obtain ⟨⟨hx, hb, hr, hml, hown⟩, hts, hX, hbl, hlocks, hK, hT, hNc, hgs, hst, hL⟩ := C
  have hB := hI.B
  have hBt := hI.2.1
  have hM := hI.2.2.1
  have h15 := hI.2.2.2
  have hm0 := bB0 hBt
  have hmd := v_made hI
  obtain ⟨z1, hz1⟩ : ∃ z, xz xs (i + 1) = z := ⟨_, rfl⟩
  have hy1 : -2147483648 ≤ z1 ∧ z1 < 2147483648 := by rw [← hz1]; exact iR_self _
  obtain ⟨z2, hz2⟩ : ∃ z, xz xs (i + 2) = z := ⟨_, rfl⟩
  have hy2 : -2147483648 ≤ z2 ∧ z2 < 2147483648 := by rw [← hz2]; exact iR_self _
  have hth1 := v_th hI z1
  have hth2 := v_th hI z2
  by_cases hg : (0 ≤ z1 ∧ z1 < 60 ∧ τ 2 z1 0 ≠ 0) ∧ (0 ≤ z2 ∧ z2 < 60 ∧ τ 2 z2 0 ≠ 0) ∧ z1 ≠ z2
  · refine lv_aload_n hx hb dL_law_698 rfl (lv_at hl 2 rfl) ?_
    refine lv_aload_n hx hb dL_law_699 rfl (lv_at hl 1 rfl) ?_
    refine lv_iload hx hb dL_law_700 (lv_at hl 0 rfl) ?_
    refine li_iconst hx hb dL_law_702 ?_
    refine li_iadd hx hb dL_law_703 ?_
    refine bl_scr hx hb hX hbl hgs hF hlc hL (by omega) (by omega) hz1 dL_law_704 ?_
    refine lv_aload_n hx hb dL_law_705 rfl (lv_at hl 1 rfl) ?_
    refine lv_iload hx hb dL_law_706 (lv_at hl 0 rfl) ?_
    refine li_iconst hx hb dL_law_708 ?_
    refine li_iadd hx hb dL_law_709 ?_
    refine bl_scr hx hb hX hbl hgs hF hlc hL (by omega) (by omega) hz2 dL_law_710 ?_
    refine lv_aload_n hx hb dL_law_711 rfl (lv_at hl 4 rfl) ?_
    refine bk_S (As := [.ref (ad 0 0), .int (iI z1), .int (iI z2), .ref (ad 17 0)]) (rest := []) ⟨hx, hb, hml, hown, hts⟩ (lh_pair_t l g ad σ τ w sa z1 z2 (by unfold iR; omega) (by unfold iR; omega) hB (by omega)) (vx_cwSW 4 hts gL_law_L_pair rfl rfl rfl (by decide +kernel) ⟨Nat.le_of_ble_eq_true rfl, Nat.le_of_ble_eq_true rfl⟩) (lw_pre hK hU hT hF hNc) hlc rfl hl.1 rfl (Nat.le_of_ble_eq_true rfl) dL_law_712 ⟨by show _ ≤ 694788; omega, by show _ ≤ 7011740; omega⟩ (fun H locs hU hF1 hlc => ?_)
    have hF := hF.tr hF1
    have hU : bx_U g ad σ τ ((iI (stO σ z1 z2)).toInt64, w.2) H := hU
    refine lv_istore (lv' := [(5, .int (iI 0)), (4, .int (iI i)), (0, .ref b), (1, .ref (ad 0 0)), (2, .ref (ad 7 0)), (3, .ref (ad 17 0))]) hx hb dL_law_715 hl (by decide) rfl (fun ls hl => ?_)
    refine lv_aload_n hx hb dL_law_717 rfl (lv_at hl 4 rfl) ?_
    refine lv_aload_n hx hb dL_law_718 rfl (lv_at hl 2 rfl) ?_
    refine lv_iload hx hb dL_law_719 (lv_at hl 1 rfl) ?_
    refine li_iconst hx hb dL_law_721 ?_
    refine li_iadd hx hb dL_law_722 ?_
    refine bl_scr hx hb hX hbl hgs hF hlc hL (by omega) (by omega) hz1 dL_law_723 ?_
    refine lv_aload_n hx hb dL_law_724 rfl (lv_at hl 2 rfl) ?_
    refine lv_iload hx hb dL_law_725 (lv_at hl 1 rfl) ?_
    refine li_iconst hx hb dL_law_727 ?_
    refine li_iadd hx hb dL_law_728 ?_
    refine bl_scr hx hb hX hbl hgs hF hlc hL (by omega) (by omega) hz2 dL_law_729 ?_
    refine bc_VW (As := [.int (iI z1), .int (iI z2)]) (rest := []) (kd := 7) (k := 0) (ci := 2) ⟨hx, hb, hml, hown, hts⟩ (c_X2_pair_t l g ad σ τ ((iI (stO σ z1 z2)).toInt64, w.2) z1 z2 (by unfold iR; omega) (by unfold iR; omega) hBt hM (by omega)) (cwV 2 hts gL_law_X2_pair rfl rfl rfl (by decide +kernel) ⟨Nat.le_of_ble_eq_true rfl, Nat.le_of_ble_eq_true rfl⟩) hK hU hlc (bx_L0 (by omega)) rfl rfl rfl hl.1 rfl (Nat.le_of_ble_eq_true rfl) dL_law_730 ⟨by show _ ≤ 694788; omega, by show _ ≤ 7011740; omega⟩ (fun H locs hU hF1 hlc => ?_)
    have hF := hF.tr hF1
    refine lv_istore (lv' := [(6, .int (iI (stO (eff τ) z1 z2))), (5, .int (iI 0)), (4, .int (iI i)), (0, .ref b), (1, .ref (ad 0 0)), (2, .ref (ad 7 0)), (3, .ref (ad 17 0))]) hx hb dL_law_733 hl (by decide) rfl (fun ls hl => ?_)
    refine lv_aload_n hx hb dL_law_735 rfl (lv_at hl 5 rfl) ?_
    refine bc_V (As := []) (rest := []) (kd := 7) (k := 0) (ci := 2) ⟨hx, hb, hml, hown, hts⟩ (c_X2_thrown l g ad σ τ (((iI (stO σ z1 z2)).toInt64, w.2).1, 0)) (cwV 0 hts gL_law_X2_thrown rfl rfl rfl (by decide +kernel) ⟨Nat.le_of_ble_eq_true rfl, Nat.le_of_ble_eq_true rfl⟩) hK hU (bx_L0 (by omega)) rfl rfl rfl hl.1 rfl (Nat.le_of_ble_eq_true rfl) dL_law_736 ⟨by show _ ≤ 694788; omega, by show _ ≤ 7011740; omega⟩ ?_
    refine W.eq (g2 := F0 m 739 ls [.int (iI 0)]) rfl ?_
    refine lv_iload hx hb dL_law_739 (lv_at hl 1 rfl) ?_
    refine li_icmp_eq (tgt := 746) hx hb (by unfold iR; omega) (by unfold iR; omega) dL_law_741 (by decide) (fun _ => ?_) (fun h => absurd (by decide) h)
    refine lv_iload hx hb dL_law_746 (lv_at hl 1 rfl) ?_
    refine li_if_ne (tgt := 763) hx hb (by unfold iR; omega) dL_law_748 (by decide) (fun h => absurd (by decide) h) (fun _ => ?_)
    refine lv_aload_n hx hb dL_law_751 rfl (lv_at hl 6 rfl) ?_
    refine li_iconst hx hb dL_law_752 ?_
    refine bl_17 hx hb hK hU dL_law_753 ?_
    refine W.eq (g2 := F0 m 754 ls [.long ((iI (stO σ z1 z2)).toInt64)]) rfl ?_
    refine lv_iload hx hb dL_law_754 (lv_at hl 0 rfl) ?_
    refine lv_i2l (v := (iI (stO (eff τ) z1 z2)).toInt64) hx hb dL_law_756 rfl ?_
    refine bl_lcmp hx hb (congrArg (fun z => (iI z).toInt64) (v_pair hI z1 z2)) dL_law_757 ?_
    refine li_if_eq (tgt := 763) hx hb (by unfold iR; omega) dL_law_758 (by decide) (fun _ => ?_) (fun h => absurd (by decide) h)
    refine lv_goto (tgt := 1343) hx hb dL_law_763 (by decide) ?_
    refine W.widen (k := cells + 3) (n := slots + 12) (by omega) (by omega) ?_
    exact kk ad σ τ (((iI (stO σ z1 z2)).toInt64, w.2).1, 0) H locs (hI) hU hF hlc ls (lv_sub hl [2, 3, 4, 5, 6] rfl)
  · refine lv_aload_n hx hb dL_law_698 rfl (lv_at hl 2 rfl) ?_
    refine lv_aload_n hx hb dL_law_699 rfl (lv_at hl 1 rfl) ?_
    refine lv_iload hx hb dL_law_700 (lv_at hl 0 rfl) ?_
    refine li_iconst hx hb dL_law_702 ?_
    refine li_iadd hx hb dL_law_703 ?_
    refine bl_scr hx hb hX hbl hgs hF hlc hL (by omega) (by omega) hz1 dL_law_704 ?_
    refine lv_aload_n hx hb dL_law_705 rfl (lv_at hl 1 rfl) ?_
    refine lv_iload hx hb dL_law_706 (lv_at hl 0 rfl) ?_
    refine li_iconst hx hb dL_law_708 ?_
    refine li_iadd hx hb dL_law_709 ?_
    refine bl_scr hx hb hX hbl hgs hF hlc hL (by omega) (by omega) hz2 dL_law_710 ?_
    refine lv_aload_n hx hb dL_law_711 rfl (lv_at hl 4 rfl) ?_
    refine bk_S (As := [.ref (ad 0 0), .int (iI z1), .int (iI z2), .ref (ad 17 0)]) (rest := []) ⟨hx, hb, hml, hown, hts⟩ (lh_pair_f l hst g ad σ τ w sa z1 z2 (by unfold iR; omega) (by unfold iR; omega) hB (by omega)) (vx_cwSW 4 hts gL_law_L_pair rfl rfl rfl (by decide +kernel) ⟨Nat.le_of_ble_eq_true rfl, Nat.le_of_ble_eq_true rfl⟩) (lw_pre hK hU hT hF hNc) hlc rfl hl.1 rfl (Nat.le_of_ble_eq_true rfl) dL_law_712 ⟨by show _ ≤ 694788; omega, by show _ ≤ 7011740; omega⟩ (fun H locs hU hF1 hlc => ?_)
    have hF := hF.tr hF1
    have hU : bx_U g ad σ τ w H := hU
    refine lv_istore (lv' := [(5, .int (iI 1)), (4, .int (iI i)), (0, .ref b), (1, .ref (ad 0 0)), (2, .ref (ad 7 0)), (3, .ref (ad 17 0))]) hx hb dL_law_715 hl (by decide) rfl (fun ls hl => ?_)
    refine lv_aload_n hx hb dL_law_717 rfl (lv_at hl 4 rfl) ?_
    refine lv_aload_n hx hb dL_law_718 rfl (lv_at hl 2 rfl) ?_
    refine lv_iload hx hb dL_law_719 (lv_at hl 1 rfl) ?_
    refine li_iconst hx hb dL_law_721 ?_
    refine li_iadd hx hb dL_law_722 ?_
    refine bl_scr hx hb hX hbl hgs hF hlc hL (by omega) (by omega) hz1 dL_law_723 ?_
    refine lv_aload_n hx hb dL_law_724 rfl (lv_at hl 2 rfl) ?_
    refine lv_iload hx hb dL_law_725 (lv_at hl 1 rfl) ?_
    refine li_iconst hx hb dL_law_727 ?_
    refine li_iadd hx hb dL_law_728 ?_
    refine bl_scr hx hb hX hbl hgs hF hlc hL (by omega) (by omega) hz2 dL_law_729 ?_
    refine bc_VW (As := [.int (iI z1), .int (iI z2)]) (rest := []) (kd := 7) (k := 0) (ci := 2) ⟨hx, hb, hml, hown, hts⟩ (c_X2_pair_f l g ad σ τ w z1 z2 (by unfold iR; omega) (by unfold iR; omega) hBt hM (by omega)) (cwV 2 hts gL_law_X2_pair rfl rfl rfl (by decide +kernel) ⟨Nat.le_of_ble_eq_true rfl, Nat.le_of_ble_eq_true rfl⟩) hK hU hlc (bx_L0 (by omega)) rfl rfl rfl hl.1 rfl (Nat.le_of_ble_eq_true rfl) dL_law_730 ⟨by show _ ≤ 694788; omega, by show _ ≤ 7011740; omega⟩ (fun H locs hU hF1 hlc => ?_)
    have hF := hF.tr hF1
    refine lv_istore (lv' := [(6, .int (iI 0)), (5, .int (iI 1)), (4, .int (iI i)), (0, .ref b), (1, .ref (ad 0 0)), (2, .ref (ad 7 0)), (3, .ref (ad 17 0))]) hx hb dL_law_733 hl (by decide) rfl (fun ls hl => ?_)
    refine lv_aload_n hx hb dL_law_735 rfl (lv_at hl 5 rfl) ?_
    refine bc_V (As := []) (rest := []) (kd := 7) (k := 0) (ci := 2) ⟨hx, hb, hml, hown, hts⟩ (c_X2_thrown l g ad σ τ (w.1, 1)) (cwV 0 hts gL_law_X2_thrown rfl rfl rfl (by decide +kernel) ⟨Nat.le_of_ble_eq_true rfl, Nat.le_of_ble_eq_true rfl⟩) hK hU (bx_L0 (by omega)) rfl rfl rfl hl.1 rfl (Nat.le_of_ble_eq_true rfl) dL_law_736 ⟨by show _ ≤ 694788; omega, by show _ ≤ 7011740; omega⟩ ?_
    refine W.eq (g2 := F0 m 739 ls [.int (iI 1)]) rfl ?_
    refine lv_iload hx hb dL_law_739 (lv_at hl 1 rfl) ?_
    refine li_icmp_eq (tgt := 746) hx hb (by unfold iR; omega) (by unfold iR; omega) dL_law_741 (by decide) (fun _ => ?_) (fun h => absurd (by decide) h)
    refine lv_iload hx hb dL_law_746 (lv_at hl 1 rfl) ?_
    refine li_if_ne (tgt := 763) hx hb (by unfold iR; omega) dL_law_748 (by decide) (fun _ => ?_) (fun h => absurd h (by decide))
    refine lv_goto (tgt := 1343) hx hb dL_law_763 (by decide) ?_
    refine W.widen (k := cells + 3) (n := slots + 12) (by omega) (by omega) ?_
    exact kk ad σ τ (w.1, 1) H locs (hI) hU hF hlc ls (lv_sub hl [2, 3, 4, 5, 6] rfl)

set_option maxHeartbeats 4000000 in
set_option maxRecDepth 100000 in
theorem ls_clashes {p : Program} {l : Launch} {e : Env} {s : State} {m : MethodId} {below : List Frame} {meth : Method} {c : Code} {b L : Nat} {xs : Nat → Int32} {g : bxG} {sa : Nat → Nat} (C : LC p l s m meth c b L xs g sa) {Q : State → Prop} {ad : bxA} {σ τ : bxS} {w : bxW} {H : Heap} {locs : List Loc} {cells slots : Nat} (hI : inv σ τ) (hU : bx_U g ad σ τ w H) (hF : bx_F g s.heap H) (hlc : bx_Lc g locs) {i : Int} (hi : 0 ≤ i ∧ i + 8 ≤ L) (hc : cells + 3 ≤ 694788 ∧ slots + 12 ≤ 7011740) {ls : Array Slot} (hl : lv_has ls 8 [(4, .int (iI i)), (0, .ref b), (1, .ref (ad 0 0)), (2, .ref (ad 7 0)), (3, .ref (ad 17 0))])
    (kk : ∀ (ad : bxA) (σ τ : bxS) (w : bxW) (H : Heap) (locs : List Loc), inv σ τ → bx_U g ad σ τ w H → bx_F g s.heap H → bx_Lc g locs → ∀ ls : Array Slot, lv_has ls 8 [(4, .int (iI i)), (0, .ref b), (1, .ref (ad 0 0)), (2, .ref (ad 7 0)), (3, .ref (ad 17 0))] → W p l e room_1 s m #[Value.ref b] below meth c H locs (cells + 3) (slots + 12) Q (F0 m 1343 ls [])) : W p l e room_1 s m #[Value.ref b] below meth c H locs cells slots Q (F0 m 766 ls []) := by
  obtain ⟨⟨hx, hb, hr, hml, hown⟩, hts, hX, hbl, hlocks, hK, hT, hNc, hgs, hst, hL⟩ := C
  have hB := hI.B
  have hBt := hI.2.1
  have hM := hI.2.2.1
  have h15 := hI.2.2.2
  have hm0 := bB0 hBt
  have hmd := v_made hI
  obtain ⟨z1, hz1⟩ : ∃ z, xz xs (i + 1) = z := ⟨_, rfl⟩
  have hy1 : -2147483648 ≤ z1 ∧ z1 < 2147483648 := by rw [← hz1]; exact iR_self _
  by_cases hg : 1 ≤ z1 ∧ z1 ≤ 2
  · refine lv_aload_n hx hb dL_law_766 rfl (lv_at hl 2 rfl) ?_
    refine lv_aload_n hx hb dL_law_767 rfl (lv_at hl 1 rfl) ?_
    refine lv_iload hx hb dL_law_768 (lv_at hl 0 rfl) ?_
    refine li_iconst hx hb dL_law_770 ?_
    refine li_iadd hx hb dL_law_771 ?_
    refine bl_scr hx hb hX hbl hgs hF hlc hL (by omega) (by omega) hz1 dL_law_772 ?_
    refine lv_aload_n hx hb dL_law_773 rfl (lv_at hl 4 rfl) ?_
    refine bk_S (As := [.ref (ad 0 0), .int (iI z1), .ref (ad 17 0)]) (rest := []) ⟨hx, hb, hml, hown, hts⟩ (lh_clashes_t l g ad σ τ w sa z1 (by unfold iR; omega) hB (by omega)) (vx_cwSW 3 hts gL_law_L_clashes rfl rfl rfl (by decide +kernel) ⟨Nat.le_of_ble_eq_true rfl, Nat.le_of_ble_eq_true rfl⟩) (lw_pre hK hU hT hF hNc) hlc rfl hl.1 rfl (Nat.le_of_ble_eq_true rfl) dL_law_774 ⟨by show _ ≤ 694788; omega, by show _ ≤ 7011740; omega⟩ (fun H locs hU hF1 hlc => ?_)
    have hF := hF.tr hF1
    have hU : bx_U g ad σ τ ((iI (sm (pcnt σ z1) (σ 0 0 0))).toInt64, w.2) H := hU
    refine lv_istore (lv' := [(5, .int (iI 0)), (4, .int (iI i)), (0, .ref b), (1, .ref (ad 0 0)), (2, .ref (ad 7 0)), (3, .ref (ad 17 0))]) hx hb dL_law_777 hl (by decide) rfl (fun ls hl => ?_)
    refine lv_aload_n hx hb dL_law_779 rfl (lv_at hl 4 rfl) ?_
    refine lv_aload_n hx hb dL_law_780 rfl (lv_at hl 2 rfl) ?_
    refine lv_iload hx hb dL_law_781 (lv_at hl 1 rfl) ?_
    refine li_iconst hx hb dL_law_783 ?_
    refine li_iadd hx hb dL_law_784 ?_
    refine bl_scr hx hb hX hbl hgs hF hlc hL (by omega) (by omega) hz1 dL_law_785 ?_
    refine bc_VW (As := [.int (iI z1)]) (rest := []) (kd := 7) (k := 0) (ci := 2) ⟨hx, hb, hml, hown, hts⟩ (c_X2_clashes_t l g ad σ τ ((iI (sm (pcnt σ z1) (σ 0 0 0))).toInt64, w.2) z1 (by unfold iR; omega) hBt hM (by omega)) (cwV 1 hts gL_law_X2_clashes rfl rfl rfl (by decide +kernel) ⟨Nat.le_of_ble_eq_true rfl, Nat.le_of_ble_eq_true rfl⟩) hK hU hlc (bx_L0 (by omega)) rfl rfl rfl hl.1 rfl (Nat.le_of_ble_eq_true rfl) dL_law_786 ⟨by show _ ≤ 694788; omega, by show _ ≤ 7011740; omega⟩ (fun H locs hU hF1 hlc => ?_)
    have hF := hF.tr hF1
    refine lv_istore (lv' := [(6, .int (iI (sm (pcnt (eff τ) z1) (τ 0 0 0)))), (5, .int (iI 0)), (4, .int (iI i)), (0, .ref b), (1, .ref (ad 0 0)), (2, .ref (ad 7 0)), (3, .ref (ad 17 0))]) hx hb dL_law_789 hl (by decide) rfl (fun ls hl => ?_)
    refine lv_aload_n hx hb dL_law_791 rfl (lv_at hl 5 rfl) ?_
    refine bc_V (As := []) (rest := []) (kd := 7) (k := 0) (ci := 2) ⟨hx, hb, hml, hown, hts⟩ (c_X2_thrown l g ad σ τ (((iI (sm (pcnt σ z1) (σ 0 0 0))).toInt64, w.2).1, 0)) (cwV 0 hts gL_law_X2_thrown rfl rfl rfl (by decide +kernel) ⟨Nat.le_of_ble_eq_true rfl, Nat.le_of_ble_eq_true rfl⟩) hK hU (bx_L0 (by omega)) rfl rfl rfl hl.1 rfl (Nat.le_of_ble_eq_true rfl) dL_law_792 ⟨by show _ ≤ 694788; omega, by show _ ≤ 7011740; omega⟩ ?_
    refine W.eq (g2 := F0 m 795 ls [.int (iI 0)]) rfl ?_
    refine lv_iload hx hb dL_law_795 (lv_at hl 1 rfl) ?_
    refine li_icmp_eq (tgt := 802) hx hb (by unfold iR; omega) (by unfold iR; omega) dL_law_797 (by decide) (fun _ => ?_) (fun h => absurd (by decide) h)
    refine lv_iload hx hb dL_law_802 (lv_at hl 1 rfl) ?_
    refine li_if_ne (tgt := 819) hx hb (by unfold iR; omega) dL_law_804 (by decide) (fun h => absurd (by decide) h) (fun _ => ?_)
    refine lv_aload_n hx hb dL_law_807 rfl (lv_at hl 6 rfl) ?_
    refine li_iconst hx hb dL_law_808 ?_
    refine bl_17 hx hb hK hU dL_law_809 ?_
    refine W.eq (g2 := F0 m 810 ls [.long ((iI (sm (pcnt σ z1) (σ 0 0 0))).toInt64)]) rfl ?_
    refine lv_iload hx hb dL_law_810 (lv_at hl 0 rfl) ?_
    refine lv_i2l (v := (iI (sm (pcnt (eff τ) z1) (τ 0 0 0))).toInt64) hx hb dL_law_812 rfl ?_
    refine bl_lcmp hx hb (congrArg (fun z => (iI z).toInt64) (v_clashes hI z1)) dL_law_813 ?_
    refine li_if_eq (tgt := 819) hx hb (by unfold iR; omega) dL_law_814 (by decide) (fun _ => ?_) (fun h => absurd (by decide) h)
    refine lv_goto (tgt := 1343) hx hb dL_law_819 (by decide) ?_
    refine W.widen (k := cells + 3) (n := slots + 12) (by omega) (by omega) ?_
    exact kk ad σ τ (((iI (sm (pcnt σ z1) (σ 0 0 0))).toInt64, w.2).1, 0) H locs (hI) hU hF hlc ls (lv_sub hl [2, 3, 4, 5, 6] rfl)
  · refine lv_aload_n hx hb dL_law_766 rfl (lv_at hl 2 rfl) ?_
    refine lv_aload_n hx hb dL_law_767 rfl (lv_at hl 1 rfl) ?_
    refine lv_iload hx hb dL_law_768 (lv_at hl 0 rfl) ?_
    refine li_iconst hx hb dL_law_770 ?_
    refine li_iadd hx hb dL_law_771 ?_
    refine bl_scr hx hb hX hbl hgs hF hlc hL (by omega) (by omega) hz1 dL_law_772 ?_
    refine lv_aload_n hx hb dL_law_773 rfl (lv_at hl 4 rfl) ?_
    refine bk_S (As := [.ref (ad 0 0), .int (iI z1), .ref (ad 17 0)]) (rest := []) ⟨hx, hb, hml, hown, hts⟩ (lh_clashes_f l hst g ad σ τ w sa z1 (by unfold iR; omega) hB (by omega)) (vx_cwSW 3 hts gL_law_L_clashes rfl rfl rfl (by decide +kernel) ⟨Nat.le_of_ble_eq_true rfl, Nat.le_of_ble_eq_true rfl⟩) (lw_pre hK hU hT hF hNc) hlc rfl hl.1 rfl (Nat.le_of_ble_eq_true rfl) dL_law_774 ⟨by show _ ≤ 694788; omega, by show _ ≤ 7011740; omega⟩ (fun H locs hU hF1 hlc => ?_)
    have hF := hF.tr hF1
    have hU : bx_U g ad σ τ w H := hU
    refine lv_istore (lv' := [(5, .int (iI 1)), (4, .int (iI i)), (0, .ref b), (1, .ref (ad 0 0)), (2, .ref (ad 7 0)), (3, .ref (ad 17 0))]) hx hb dL_law_777 hl (by decide) rfl (fun ls hl => ?_)
    refine lv_aload_n hx hb dL_law_779 rfl (lv_at hl 4 rfl) ?_
    refine lv_aload_n hx hb dL_law_780 rfl (lv_at hl 2 rfl) ?_
    refine lv_iload hx hb dL_law_781 (lv_at hl 1 rfl) ?_
    refine li_iconst hx hb dL_law_783 ?_
    refine li_iadd hx hb dL_law_784 ?_
    refine bl_scr hx hb hX hbl hgs hF hlc hL (by omega) (by omega) hz1 dL_law_785 ?_
    refine bc_VW (As := [.int (iI z1)]) (rest := []) (kd := 7) (k := 0) (ci := 2) ⟨hx, hb, hml, hown, hts⟩ (c_X2_clashes_f l g ad σ τ w z1 (by unfold iR; omega) hBt hM (by omega)) (cwV 1 hts gL_law_X2_clashes rfl rfl rfl (by decide +kernel) ⟨Nat.le_of_ble_eq_true rfl, Nat.le_of_ble_eq_true rfl⟩) hK hU hlc (bx_L0 (by omega)) rfl rfl rfl hl.1 rfl (Nat.le_of_ble_eq_true rfl) dL_law_786 ⟨by show _ ≤ 694788; omega, by show _ ≤ 7011740; omega⟩ (fun H locs hU hF1 hlc => ?_)
    have hF := hF.tr hF1
    refine lv_istore (lv' := [(6, .int (iI 0)), (5, .int (iI 1)), (4, .int (iI i)), (0, .ref b), (1, .ref (ad 0 0)), (2, .ref (ad 7 0)), (3, .ref (ad 17 0))]) hx hb dL_law_789 hl (by decide) rfl (fun ls hl => ?_)
    refine lv_aload_n hx hb dL_law_791 rfl (lv_at hl 5 rfl) ?_
    refine bc_V (As := []) (rest := []) (kd := 7) (k := 0) (ci := 2) ⟨hx, hb, hml, hown, hts⟩ (c_X2_thrown l g ad σ τ (w.1, 1)) (cwV 0 hts gL_law_X2_thrown rfl rfl rfl (by decide +kernel) ⟨Nat.le_of_ble_eq_true rfl, Nat.le_of_ble_eq_true rfl⟩) hK hU (bx_L0 (by omega)) rfl rfl rfl hl.1 rfl (Nat.le_of_ble_eq_true rfl) dL_law_792 ⟨by show _ ≤ 694788; omega, by show _ ≤ 7011740; omega⟩ ?_
    refine W.eq (g2 := F0 m 795 ls [.int (iI 1)]) rfl ?_
    refine lv_iload hx hb dL_law_795 (lv_at hl 1 rfl) ?_
    refine li_icmp_eq (tgt := 802) hx hb (by unfold iR; omega) (by unfold iR; omega) dL_law_797 (by decide) (fun _ => ?_) (fun h => absurd (by decide) h)
    refine lv_iload hx hb dL_law_802 (lv_at hl 1 rfl) ?_
    refine li_if_ne (tgt := 819) hx hb (by unfold iR; omega) dL_law_804 (by decide) (fun _ => ?_) (fun h => absurd h (by decide))
    refine lv_goto (tgt := 1343) hx hb dL_law_819 (by decide) ?_
    refine W.widen (k := cells + 3) (n := slots + 12) (by omega) (by omega) ?_
    exact kk ad σ τ (w.1, 1) H locs (hI) hU hF hlc ls (lv_sub hl [2, 3, 4, 5, 6] rfl)

set_option maxHeartbeats 4000000 in
set_option maxRecDepth 100000 in
theorem ls_clash {p : Program} {l : Launch} {e : Env} {s : State} {m : MethodId} {below : List Frame} {meth : Method} {c : Code} {b L : Nat} {xs : Nat → Int32} {g : bxG} {sa : Nat → Nat} (C : LC p l s m meth c b L xs g sa) {Q : State → Prop} {ad : bxA} {σ τ : bxS} {w : bxW} {H : Heap} {locs : List Loc} {cells slots : Nat} (hI : inv σ τ) (hU : bx_U g ad σ τ w H) (hF : bx_F g s.heap H) (hlc : bx_Lc g locs) {i : Int} (hi : 0 ≤ i ∧ i + 8 ≤ L) (hc : cells + 3 ≤ 694788 ∧ slots + 12 ≤ 7011740) {ls : Array Slot} (hl : lv_has ls 8 [(4, .int (iI i)), (0, .ref b), (1, .ref (ad 0 0)), (2, .ref (ad 7 0)), (3, .ref (ad 17 0))])
    (kk : ∀ (ad : bxA) (σ τ : bxS) (w : bxW) (H : Heap) (locs : List Loc), inv σ τ → bx_U g ad σ τ w H → bx_F g s.heap H → bx_Lc g locs → ∀ ls : Array Slot, lv_has ls 8 [(4, .int (iI i)), (0, .ref b), (1, .ref (ad 0 0)), (2, .ref (ad 7 0)), (3, .ref (ad 17 0))] → W p l e room_1 s m #[Value.ref b] below meth c H locs (cells + 3) (slots + 12) Q (F0 m 1343 ls [])) : W p l e room_1 s m #[Value.ref b] below meth c H locs cells slots Q (F0 m 822 ls []) := by
  obtain ⟨⟨hx, hb, hr, hml, hown⟩, hts, hX, hbl, hlocks, hK, hT, hNc, hgs, hst, hL⟩ := C
  have hB := hI.B
  have hBt := hI.2.1
  have hM := hI.2.2.1
  have h15 := hI.2.2.2
  have hm0 := bB0 hBt
  have hmd := v_made hI
  obtain ⟨z1, hz1⟩ : ∃ z, xz xs (i + 1) = z := ⟨_, rfl⟩
  have hy1 : -2147483648 ≤ z1 ∧ z1 < 2147483648 := by rw [← hz1]; exact iR_self _
  obtain ⟨z2, hz2⟩ : ∃ z, xz xs (i + 2) = z := ⟨_, rfl⟩
  have hy2 : -2147483648 ≤ z2 ∧ z2 < 2147483648 := by rw [← hz2]; exact iR_self _
  obtain ⟨z3, hz3⟩ : ∃ z, xz xs (i + 3) = z := ⟨_, rfl⟩
  have hy3 : -2147483648 ≤ z3 ∧ z3 < 2147483648 := by rw [← hz3]; exact iR_self _
  by_cases hg : (1 ≤ z1 ∧ z1 ≤ 2) ∧ 0 ≤ z2 ∧ 0 ≤ z3 ∧ z3 ≤ 1
  · refine lv_aload_n hx hb dL_law_822 rfl (lv_at hl 2 rfl) ?_
    refine lv_aload_n hx hb dL_law_823 rfl (lv_at hl 1 rfl) ?_
    refine lv_iload hx hb dL_law_824 (lv_at hl 0 rfl) ?_
    refine li_iconst hx hb dL_law_826 ?_
    refine li_iadd hx hb dL_law_827 ?_
    refine bl_scr hx hb hX hbl hgs hF hlc hL (by omega) (by omega) hz1 dL_law_828 ?_
    refine lv_aload_n hx hb dL_law_829 rfl (lv_at hl 1 rfl) ?_
    refine lv_iload hx hb dL_law_830 (lv_at hl 0 rfl) ?_
    refine li_iconst hx hb dL_law_832 ?_
    refine li_iadd hx hb dL_law_833 ?_
    refine bl_scr hx hb hX hbl hgs hF hlc hL (by omega) (by omega) hz2 dL_law_834 ?_
    refine lv_aload_n hx hb dL_law_835 rfl (lv_at hl 1 rfl) ?_
    refine lv_iload hx hb dL_law_836 (lv_at hl 0 rfl) ?_
    refine li_iconst hx hb dL_law_838 ?_
    refine li_iadd hx hb dL_law_839 ?_
    refine bl_scr hx hb hX hbl hgs hF hlc hL (by omega) (by omega) hz3 dL_law_840 ?_
    refine lv_aload_n hx hb dL_law_841 rfl (lv_at hl 4 rfl) ?_
    refine bk_S (As := [.ref (ad 0 0), .int (iI z1), .int (iI z2), .int (iI z3), .ref (ad 17 0)]) (rest := []) ⟨hx, hb, hml, hown, hts⟩ (lh_clash_t l g ad σ τ w sa z1 z2 z3 (by unfold iR; omega) (by unfold iR; omega) (by unfold iR; omega) hB (by omega)) (vx_cwSW 5 hts gL_law_L_clash rfl rfl rfl (by decide +kernel) ⟨Nat.le_of_ble_eq_true rfl, Nat.le_of_ble_eq_true rfl⟩) (lw_pre hK hU hT hF hNc) hlc rfl hl.1 rfl (Nat.le_of_ble_eq_true rfl) dL_law_842 ⟨by show _ ≤ 694788; omega, by show _ ≤ 7011740; omega⟩ (fun H locs hU hF1 hlc => ?_)
    have hF := hF.tr hF1
    have hU : bx_U g ad σ τ ((iI (clsF σ z1 z3 0 z2)).toInt64, w.2) H := hU
    refine lv_istore (lv' := [(5, .int (iI 0)), (4, .int (iI i)), (0, .ref b), (1, .ref (ad 0 0)), (2, .ref (ad 7 0)), (3, .ref (ad 17 0))]) hx hb dL_law_845 hl (by decide) rfl (fun ls hl => ?_)
    refine lv_aload_n hx hb dL_law_847 rfl (lv_at hl 4 rfl) ?_
    refine lv_aload_n hx hb dL_law_848 rfl (lv_at hl 2 rfl) ?_
    refine lv_iload hx hb dL_law_849 (lv_at hl 1 rfl) ?_
    refine li_iconst hx hb dL_law_851 ?_
    refine li_iadd hx hb dL_law_852 ?_
    refine bl_scr hx hb hX hbl hgs hF hlc hL (by omega) (by omega) hz1 dL_law_853 ?_
    refine lv_aload_n hx hb dL_law_854 rfl (lv_at hl 2 rfl) ?_
    refine lv_iload hx hb dL_law_855 (lv_at hl 1 rfl) ?_
    refine li_iconst hx hb dL_law_857 ?_
    refine li_iadd hx hb dL_law_858 ?_
    refine bl_scr hx hb hX hbl hgs hF hlc hL (by omega) (by omega) hz2 dL_law_859 ?_
    refine lv_aload_n hx hb dL_law_860 rfl (lv_at hl 2 rfl) ?_
    refine lv_iload hx hb dL_law_861 (lv_at hl 1 rfl) ?_
    refine li_iconst hx hb dL_law_863 ?_
    refine li_iadd hx hb dL_law_864 ?_
    refine bl_scr hx hb hX hbl hgs hF hlc hL (by omega) (by omega) hz3 dL_law_865 ?_
    refine bc_VW (As := [.int (iI z1), .int (iI z2), .int (iI z3)]) (rest := []) (kd := 7) (k := 0) (ci := 2) ⟨hx, hb, hml, hown, hts⟩ (c_X2_clash_t l g ad σ τ ((iI (clsF σ z1 z3 0 z2)).toInt64, w.2) z1 z2 z3 (by unfold iR; omega) (by unfold iR; omega) (by unfold iR; omega) hBt hM (by omega)) (cwV 3 hts gL_law_X2_clash rfl rfl rfl (by decide +kernel) ⟨Nat.le_of_ble_eq_true rfl, Nat.le_of_ble_eq_true rfl⟩) hK hU hlc (bx_L0 (by omega)) rfl rfl rfl hl.1 rfl (Nat.le_of_ble_eq_true rfl) dL_law_866 ⟨by show _ ≤ 694788; omega, by show _ ≤ 7011740; omega⟩ (fun H locs hU hF1 hlc => ?_)
    have hF := hF.tr hF1
    refine lv_istore (lv' := [(6, .int (iI (clsF (eff τ) z1 z3 0 z2))), (5, .int (iI 0)), (4, .int (iI i)), (0, .ref b), (1, .ref (ad 0 0)), (2, .ref (ad 7 0)), (3, .ref (ad 17 0))]) hx hb dL_law_869 hl (by decide) rfl (fun ls hl => ?_)
    refine lv_aload_n hx hb dL_law_871 rfl (lv_at hl 5 rfl) ?_
    refine bc_V (As := []) (rest := []) (kd := 7) (k := 0) (ci := 2) ⟨hx, hb, hml, hown, hts⟩ (c_X2_thrown l g ad σ τ (((iI (clsF σ z1 z3 0 z2)).toInt64, w.2).1, 0)) (cwV 0 hts gL_law_X2_thrown rfl rfl rfl (by decide +kernel) ⟨Nat.le_of_ble_eq_true rfl, Nat.le_of_ble_eq_true rfl⟩) hK hU (bx_L0 (by omega)) rfl rfl rfl hl.1 rfl (Nat.le_of_ble_eq_true rfl) dL_law_872 ⟨by show _ ≤ 694788; omega, by show _ ≤ 7011740; omega⟩ ?_
    refine W.eq (g2 := F0 m 875 ls [.int (iI 0)]) rfl ?_
    refine lv_iload hx hb dL_law_875 (lv_at hl 1 rfl) ?_
    refine li_icmp_eq (tgt := 882) hx hb (by unfold iR; omega) (by unfold iR; omega) dL_law_877 (by decide) (fun _ => ?_) (fun h => absurd (by decide) h)
    refine lv_iload hx hb dL_law_882 (lv_at hl 1 rfl) ?_
    refine li_if_ne (tgt := 899) hx hb (by unfold iR; omega) dL_law_884 (by decide) (fun h => absurd (by decide) h) (fun _ => ?_)
    refine lv_aload_n hx hb dL_law_887 rfl (lv_at hl 6 rfl) ?_
    refine li_iconst hx hb dL_law_888 ?_
    refine bl_17 hx hb hK hU dL_law_889 ?_
    refine W.eq (g2 := F0 m 890 ls [.long ((iI (clsF σ z1 z3 0 z2)).toInt64)]) rfl ?_
    refine lv_iload hx hb dL_law_890 (lv_at hl 0 rfl) ?_
    refine lv_i2l (v := (iI (clsF (eff τ) z1 z3 0 z2)).toInt64) hx hb dL_law_892 rfl ?_
    refine bl_lcmp hx hb (congrArg (fun z => (iI z).toInt64) (v_clash hI z1 z3 z2)) dL_law_893 ?_
    refine li_if_eq (tgt := 899) hx hb (by unfold iR; omega) dL_law_894 (by decide) (fun _ => ?_) (fun h => absurd (by decide) h)
    refine lv_goto (tgt := 1343) hx hb dL_law_899 (by decide) ?_
    refine W.widen (k := cells + 3) (n := slots + 12) (by omega) (by omega) ?_
    exact kk ad σ τ (((iI (clsF σ z1 z3 0 z2)).toInt64, w.2).1, 0) H locs (hI) hU hF hlc ls (lv_sub hl [2, 3, 4, 5, 6] rfl)
  · refine lv_aload_n hx hb dL_law_822 rfl (lv_at hl 2 rfl) ?_
    refine lv_aload_n hx hb dL_law_823 rfl (lv_at hl 1 rfl) ?_
    refine lv_iload hx hb dL_law_824 (lv_at hl 0 rfl) ?_
    refine li_iconst hx hb dL_law_826 ?_
    refine li_iadd hx hb dL_law_827 ?_
    refine bl_scr hx hb hX hbl hgs hF hlc hL (by omega) (by omega) hz1 dL_law_828 ?_
    refine lv_aload_n hx hb dL_law_829 rfl (lv_at hl 1 rfl) ?_
    refine lv_iload hx hb dL_law_830 (lv_at hl 0 rfl) ?_
    refine li_iconst hx hb dL_law_832 ?_
    refine li_iadd hx hb dL_law_833 ?_
    refine bl_scr hx hb hX hbl hgs hF hlc hL (by omega) (by omega) hz2 dL_law_834 ?_
    refine lv_aload_n hx hb dL_law_835 rfl (lv_at hl 1 rfl) ?_
    refine lv_iload hx hb dL_law_836 (lv_at hl 0 rfl) ?_
    refine li_iconst hx hb dL_law_838 ?_
    refine li_iadd hx hb dL_law_839 ?_
    refine bl_scr hx hb hX hbl hgs hF hlc hL (by omega) (by omega) hz3 dL_law_840 ?_
    refine lv_aload_n hx hb dL_law_841 rfl (lv_at hl 4 rfl) ?_
    refine bk_S (As := [.ref (ad 0 0), .int (iI z1), .int (iI z2), .int (iI z3), .ref (ad 17 0)]) (rest := []) ⟨hx, hb, hml, hown, hts⟩ (lh_clash_f l hst g ad σ τ w sa z1 z2 z3 (by unfold iR; omega) (by unfold iR; omega) (by unfold iR; omega) hB (by omega)) (vx_cwSW 5 hts gL_law_L_clash rfl rfl rfl (by decide +kernel) ⟨Nat.le_of_ble_eq_true rfl, Nat.le_of_ble_eq_true rfl⟩) (lw_pre hK hU hT hF hNc) hlc rfl hl.1 rfl (Nat.le_of_ble_eq_true rfl) dL_law_842 ⟨by show _ ≤ 694788; omega, by show _ ≤ 7011740; omega⟩ (fun H locs hU hF1 hlc => ?_)
    have hF := hF.tr hF1
    have hU : bx_U g ad σ τ w H := hU
    refine lv_istore (lv' := [(5, .int (iI 1)), (4, .int (iI i)), (0, .ref b), (1, .ref (ad 0 0)), (2, .ref (ad 7 0)), (3, .ref (ad 17 0))]) hx hb dL_law_845 hl (by decide) rfl (fun ls hl => ?_)
    refine lv_aload_n hx hb dL_law_847 rfl (lv_at hl 4 rfl) ?_
    refine lv_aload_n hx hb dL_law_848 rfl (lv_at hl 2 rfl) ?_
    refine lv_iload hx hb dL_law_849 (lv_at hl 1 rfl) ?_
    refine li_iconst hx hb dL_law_851 ?_
    refine li_iadd hx hb dL_law_852 ?_
    refine bl_scr hx hb hX hbl hgs hF hlc hL (by omega) (by omega) hz1 dL_law_853 ?_
    refine lv_aload_n hx hb dL_law_854 rfl (lv_at hl 2 rfl) ?_
    refine lv_iload hx hb dL_law_855 (lv_at hl 1 rfl) ?_
    refine li_iconst hx hb dL_law_857 ?_
    refine li_iadd hx hb dL_law_858 ?_
    refine bl_scr hx hb hX hbl hgs hF hlc hL (by omega) (by omega) hz2 dL_law_859 ?_
    refine lv_aload_n hx hb dL_law_860 rfl (lv_at hl 2 rfl) ?_
    refine lv_iload hx hb dL_law_861 (lv_at hl 1 rfl) ?_
    refine li_iconst hx hb dL_law_863 ?_
    refine li_iadd hx hb dL_law_864 ?_
    refine bl_scr hx hb hX hbl hgs hF hlc hL (by omega) (by omega) hz3 dL_law_865 ?_
    refine bc_VW (As := [.int (iI z1), .int (iI z2), .int (iI z3)]) (rest := []) (kd := 7) (k := 0) (ci := 2) ⟨hx, hb, hml, hown, hts⟩ (c_X2_clash_f l g ad σ τ w z1 z2 z3 (by unfold iR; omega) (by unfold iR; omega) (by unfold iR; omega) hBt hM (by omega)) (cwV 3 hts gL_law_X2_clash rfl rfl rfl (by decide +kernel) ⟨Nat.le_of_ble_eq_true rfl, Nat.le_of_ble_eq_true rfl⟩) hK hU hlc (bx_L0 (by omega)) rfl rfl rfl hl.1 rfl (Nat.le_of_ble_eq_true rfl) dL_law_866 ⟨by show _ ≤ 694788; omega, by show _ ≤ 7011740; omega⟩ (fun H locs hU hF1 hlc => ?_)
    have hF := hF.tr hF1
    refine lv_istore (lv' := [(6, .int (iI 0)), (5, .int (iI 1)), (4, .int (iI i)), (0, .ref b), (1, .ref (ad 0 0)), (2, .ref (ad 7 0)), (3, .ref (ad 17 0))]) hx hb dL_law_869 hl (by decide) rfl (fun ls hl => ?_)
    refine lv_aload_n hx hb dL_law_871 rfl (lv_at hl 5 rfl) ?_
    refine bc_V (As := []) (rest := []) (kd := 7) (k := 0) (ci := 2) ⟨hx, hb, hml, hown, hts⟩ (c_X2_thrown l g ad σ τ (w.1, 1)) (cwV 0 hts gL_law_X2_thrown rfl rfl rfl (by decide +kernel) ⟨Nat.le_of_ble_eq_true rfl, Nat.le_of_ble_eq_true rfl⟩) hK hU (bx_L0 (by omega)) rfl rfl rfl hl.1 rfl (Nat.le_of_ble_eq_true rfl) dL_law_872 ⟨by show _ ≤ 694788; omega, by show _ ≤ 7011740; omega⟩ ?_
    refine W.eq (g2 := F0 m 875 ls [.int (iI 1)]) rfl ?_
    refine lv_iload hx hb dL_law_875 (lv_at hl 1 rfl) ?_
    refine li_icmp_eq (tgt := 882) hx hb (by unfold iR; omega) (by unfold iR; omega) dL_law_877 (by decide) (fun _ => ?_) (fun h => absurd (by decide) h)
    refine lv_iload hx hb dL_law_882 (lv_at hl 1 rfl) ?_
    refine li_if_ne (tgt := 899) hx hb (by unfold iR; omega) dL_law_884 (by decide) (fun _ => ?_) (fun h => absurd h (by decide))
    refine lv_goto (tgt := 1343) hx hb dL_law_899 (by decide) ?_
    refine W.widen (k := cells + 3) (n := slots + 12) (by omega) (by omega) ?_
    exact kk ad σ τ (w.1, 1) H locs (hI) hU hF hlc ls (lv_sub hl [2, 3, 4, 5, 6] rfl)

set_option maxHeartbeats 4000000 in
set_option maxRecDepth 100000 in
theorem ls_groups {p : Program} {l : Launch} {e : Env} {s : State} {m : MethodId} {below : List Frame} {meth : Method} {c : Code} {b L : Nat} {xs : Nat → Int32} {g : bxG} {sa : Nat → Nat} (C : LC p l s m meth c b L xs g sa) {Q : State → Prop} {ad : bxA} {σ τ : bxS} {w : bxW} {H : Heap} {locs : List Loc} {cells slots : Nat} (hI : inv σ τ) (hU : bx_U g ad σ τ w H) (hF : bx_F g s.heap H) (hlc : bx_Lc g locs) {i : Int} (hi : 0 ≤ i ∧ i + 8 ≤ L) (hc : cells + 3 ≤ 694788 ∧ slots + 12 ≤ 7011740) {ls : Array Slot} (hl : lv_has ls 8 [(4, .int (iI i)), (0, .ref b), (1, .ref (ad 0 0)), (2, .ref (ad 7 0)), (3, .ref (ad 17 0))])
    (kk : ∀ (ad : bxA) (σ τ : bxS) (w : bxW) (H : Heap) (locs : List Loc), inv σ τ → bx_U g ad σ τ w H → bx_F g s.heap H → bx_Lc g locs → ∀ ls : Array Slot, lv_has ls 8 [(4, .int (iI i)), (0, .ref b), (1, .ref (ad 0 0)), (2, .ref (ad 7 0)), (3, .ref (ad 17 0))] → W p l e room_1 s m #[Value.ref b] below meth c H locs (cells + 3) (slots + 12) Q (F0 m 1343 ls [])) : W p l e room_1 s m #[Value.ref b] below meth c H locs cells slots Q (F0 m 902 ls []) := by
  obtain ⟨⟨hx, hb, hr, hml, hown⟩, hts, hX, hbl, hlocks, hK, hT, hNc, hgs, hst, hL⟩ := C
  have hB := hI.B
  have hBt := hI.2.1
  have hM := hI.2.2.1
  have h15 := hI.2.2.2
  have hm0 := bB0 hBt
  have hmd := v_made hI
  refine lv_aload_n hx hb dL_law_902 rfl (lv_at hl 2 rfl) ?_
  refine bc_VW (As := []) (rest := []) (kd := 0) (k := 0) (ci := 1) ⟨hx, hb, hml, hown, hts⟩ (c_X1_groups_tt l g ad σ τ w hB) (cwV 0 hts gL_law_X1_groups rfl rfl rfl (by decide +kernel) ⟨Nat.le_of_ble_eq_true rfl, Nat.le_of_ble_eq_true rfl⟩) hK hU hlc (bx_L0 (by omega)) rfl rfl rfl hl.1 rfl (Nat.le_of_ble_eq_true rfl) dL_law_903 ⟨by show _ ≤ 694788; omega, by show _ ≤ 7011740; omega⟩ (fun H locs hU hF1 hlc => ?_)
  have hF := hF.tr hF1
  refine lv_aload_n hx hb dL_law_906 rfl (lv_at hl 3 rfl) ?_
  refine bc_VW (As := []) (rest := [.int (iI (sm (grs (gnm σ (fun t => σ 10 t 0))) (σ 0 0 0)))]) (kd := 7) (k := 0) (ci := 2) ⟨hx, hb, hml, hown, hts⟩ (c_X2_groups_tt l g ad (setF (setF σ 11 (szf (gnm σ (fun t => σ 10 t 0)) (fun t => σ 11 t 0) (σ 0 0 0) (σ 0 0 0))) 10 (gnm σ (fun t => σ 10 t 0))) τ w hBt hM) (cwV 0 hts gL_law_X2_groups rfl rfl rfl (by decide +kernel) ⟨Nat.le_of_ble_eq_true rfl, Nat.le_of_ble_eq_true rfl⟩) hK hU hlc (bx_L0 (by omega)) rfl rfl rfl hl.1 rfl (Nat.le_of_ble_eq_true rfl) dL_law_907 ⟨by show _ ≤ 694788; omega, by show _ ≤ 7011740; omega⟩ (fun H locs hU hF1 hlc => ?_)
  have hF := hF.tr hF1
  refine bl_same (tgt := 1343) hx hb (v_groups hI _ _) dL_law_910 (by decide) ?_
  refine W.widen (k := cells + 3) (n := slots + 12) (by omega) (by omega) ?_
  exact kk ad (setF (setF σ 11 (szf (gnm σ (fun t => σ 10 t 0)) (fun t => σ 11 t 0) (σ 0 0 0) (σ 0 0 0))) 10 (gnm σ (fun t => σ 10 t 0))) (setF τ 10 (gnm (eff τ) (fun t => τ 10 t 0))) (w.1, 0) H locs (inv_m (inv_c hI ((ag_setF _ (by omega) _).tr (ag_setF σ (by omega) _))) (by omega) (by omega) _) hU hF hlc ls (lv_sub hl [0, 1, 2, 3, 4] rfl)

set_option maxHeartbeats 4000000 in
set_option maxRecDepth 100000 in
theorem ls_group {p : Program} {l : Launch} {e : Env} {s : State} {m : MethodId} {below : List Frame} {meth : Method} {c : Code} {b L : Nat} {xs : Nat → Int32} {g : bxG} {sa : Nat → Nat} (C : LC p l s m meth c b L xs g sa) {Q : State → Prop} {ad : bxA} {σ τ : bxS} {w : bxW} {H : Heap} {locs : List Loc} {cells slots : Nat} (hI : inv σ τ) (hU : bx_U g ad σ τ w H) (hF : bx_F g s.heap H) (hlc : bx_Lc g locs) {i : Int} (hi : 0 ≤ i ∧ i + 8 ≤ L) (hc : cells + 3 ≤ 694788 ∧ slots + 12 ≤ 7011740) {ls : Array Slot} (hl : lv_has ls 8 [(4, .int (iI i)), (0, .ref b), (1, .ref (ad 0 0)), (2, .ref (ad 7 0)), (3, .ref (ad 17 0))])
    (kk : ∀ (ad : bxA) (σ τ : bxS) (w : bxW) (H : Heap) (locs : List Loc), inv σ τ → bx_U g ad σ τ w H → bx_F g s.heap H → bx_Lc g locs → ∀ ls : Array Slot, lv_has ls 8 [(4, .int (iI i)), (0, .ref b), (1, .ref (ad 0 0)), (2, .ref (ad 7 0)), (3, .ref (ad 17 0))] → W p l e room_1 s m #[Value.ref b] below meth c H locs (cells + 3) (slots + 12) Q (F0 m 1343 ls [])) : W p l e room_1 s m #[Value.ref b] below meth c H locs cells slots Q (F0 m 915 ls []) := by
  obtain ⟨⟨hx, hb, hr, hml, hown⟩, hts, hX, hbl, hlocks, hK, hT, hNc, hgs, hst, hL⟩ := C
  have hB := hI.B
  have hBt := hI.2.1
  have hM := hI.2.2.1
  have h15 := hI.2.2.2
  have hm0 := bB0 hBt
  have hmd := v_made hI
  obtain ⟨z1, hz1⟩ : ∃ z, xz xs (i + 1) = z := ⟨_, rfl⟩
  have hy1 : -2147483648 ≤ z1 ∧ z1 < 2147483648 := by rw [← hz1]; exact iR_self _
  have hth1 := v_th hI z1
  by_cases hg : 0 ≤ z1 ∧ z1 < 60 ∧ τ 2 z1 0 ≠ 0
  · refine lv_aload_n hx hb dL_law_915 rfl (lv_at hl 2 rfl) ?_
    refine lv_aload_n hx hb dL_law_916 rfl (lv_at hl 1 rfl) ?_
    refine lv_iload hx hb dL_law_917 (lv_at hl 0 rfl) ?_
    refine li_iconst hx hb dL_law_919 ?_
    refine li_iadd hx hb dL_law_920 ?_
    refine bl_scr hx hb hX hbl hgs hF hlc hL (by omega) (by omega) hz1 dL_law_921 ?_
    refine lv_aload_n hx hb dL_law_922 rfl (lv_at hl 4 rfl) ?_
    refine bk_S (As := [.ref (ad 0 0), .int (iI z1), .ref (ad 17 0)]) (rest := []) ⟨hx, hb, hml, hown, hts⟩ (lh_group_t l g ad σ τ w sa z1 (by unfold iR; omega) hB (by omega)) (vx_cwSW 3 hts gL_law_L_group rfl rfl rfl (by decide +kernel) ⟨Nat.le_of_ble_eq_true rfl, Nat.le_of_ble_eq_true rfl⟩) (lw_pre hK hU hT hF hNc) hlc rfl hl.1 rfl (Nat.le_of_ble_eq_true rfl) dL_law_923 ⟨by show _ ≤ 694788; omega, by show _ ≤ 7011740; omega⟩ (fun H locs hU hF1 hlc => ?_)
    have hF := hF.tr hF1
    have hU : bx_U g ad (setF σ 10 (gnm σ (fun t => σ 10 t 0))) τ ((iI (gnm σ (fun t => σ 10 t 0) z1)).toInt64, w.2) H := hU
    refine lv_istore (lv' := [(5, .int (iI 0)), (4, .int (iI i)), (0, .ref b), (1, .ref (ad 0 0)), (2, .ref (ad 7 0)), (3, .ref (ad 17 0))]) hx hb dL_law_926 hl (by decide) rfl (fun ls hl => ?_)
    refine lv_aload_n hx hb dL_law_928 rfl (lv_at hl 4 rfl) ?_
    refine lv_aload_n hx hb dL_law_929 rfl (lv_at hl 2 rfl) ?_
    refine lv_iload hx hb dL_law_930 (lv_at hl 1 rfl) ?_
    refine li_iconst hx hb dL_law_932 ?_
    refine li_iadd hx hb dL_law_933 ?_
    refine bl_scr hx hb hX hbl hgs hF hlc hL (by omega) (by omega) hz1 dL_law_934 ?_
    refine bc_VW (As := [.int (iI z1)]) (rest := []) (kd := 7) (k := 0) (ci := 2) ⟨hx, hb, hml, hown, hts⟩ (c_X2_group_tt l g ad (setF σ 10 (gnm σ (fun t => σ 10 t 0))) τ ((iI (gnm σ (fun t => σ 10 t 0) z1)).toInt64, w.2) z1 (by unfold iR; omega) hBt hM (by omega)) (cwV 1 hts gL_law_X2_group rfl rfl rfl (by decide +kernel) ⟨Nat.le_of_ble_eq_true rfl, Nat.le_of_ble_eq_true rfl⟩) hK hU hlc (bx_L0 (by omega)) rfl rfl rfl hl.1 rfl (Nat.le_of_ble_eq_true rfl) dL_law_935 ⟨by show _ ≤ 694788; omega, by show _ ≤ 7011740; omega⟩ (fun H locs hU hF1 hlc => ?_)
    have hF := hF.tr hF1
    refine lv_istore (lv' := [(6, .int (iI (gnm (eff τ) (fun t => τ 10 t 0) z1))), (5, .int (iI 0)), (4, .int (iI i)), (0, .ref b), (1, .ref (ad 0 0)), (2, .ref (ad 7 0)), (3, .ref (ad 17 0))]) hx hb dL_law_938 hl (by decide) rfl (fun ls hl => ?_)
    refine lv_aload_n hx hb dL_law_940 rfl (lv_at hl 5 rfl) ?_
    refine bc_V (As := []) (rest := []) (kd := 7) (k := 0) (ci := 2) ⟨hx, hb, hml, hown, hts⟩ (c_X2_thrown l g ad (setF σ 10 (gnm σ (fun t => σ 10 t 0))) (setF τ 10 (gnm (eff τ) (fun t => τ 10 t 0))) (((iI (gnm σ (fun t => σ 10 t 0) z1)).toInt64, w.2).1, 0)) (cwV 0 hts gL_law_X2_thrown rfl rfl rfl (by decide +kernel) ⟨Nat.le_of_ble_eq_true rfl, Nat.le_of_ble_eq_true rfl⟩) hK hU (bx_L0 (by omega)) rfl rfl rfl hl.1 rfl (Nat.le_of_ble_eq_true rfl) dL_law_941 ⟨by show _ ≤ 694788; omega, by show _ ≤ 7011740; omega⟩ ?_
    refine W.eq (g2 := F0 m 944 ls [.int (iI 0)]) rfl ?_
    refine lv_iload hx hb dL_law_944 (lv_at hl 1 rfl) ?_
    refine li_icmp_eq (tgt := 951) hx hb (by unfold iR; omega) (by unfold iR; omega) dL_law_946 (by decide) (fun _ => ?_) (fun h => absurd (by decide) h)
    refine lv_iload hx hb dL_law_951 (lv_at hl 1 rfl) ?_
    refine li_if_ne (tgt := 968) hx hb (by unfold iR; omega) dL_law_953 (by decide) (fun h => absurd (by decide) h) (fun _ => ?_)
    refine lv_aload_n hx hb dL_law_956 rfl (lv_at hl 6 rfl) ?_
    refine li_iconst hx hb dL_law_957 ?_
    refine bl_17 hx hb hK hU dL_law_958 ?_
    refine W.eq (g2 := F0 m 959 ls [.long ((iI (gnm σ (fun t => σ 10 t 0) z1)).toInt64)]) rfl ?_
    refine lv_iload hx hb dL_law_959 (lv_at hl 0 rfl) ?_
    refine lv_i2l (v := (iI (gnm (eff τ) (fun t => τ 10 t 0) z1)).toInt64) hx hb dL_law_961 rfl ?_
    refine bl_lcmp hx hb (congrArg (fun z => (iI z).toInt64) (v_group hI _ _ (by omega) (by have hb2 := bB2 hBt (k := z1) (by omega) (by omega); omega))) dL_law_962 ?_
    refine li_if_eq (tgt := 968) hx hb (by unfold iR; omega) dL_law_963 (by decide) (fun _ => ?_) (fun h => absurd (by decide) h)
    refine lv_goto (tgt := 1343) hx hb dL_law_968 (by decide) ?_
    refine W.widen (k := cells + 3) (n := slots + 12) (by omega) (by omega) ?_
    exact kk ad (setF σ 10 (gnm σ (fun t => σ 10 t 0))) (setF τ 10 (gnm (eff τ) (fun t => τ 10 t 0))) (((iI (gnm σ (fun t => σ 10 t 0) z1)).toInt64, w.2).1, 0) H locs (inv_m (inv_c hI (ag_setF σ (by omega) _)) (by omega) (by omega) _) hU hF hlc ls (lv_sub hl [2, 3, 4, 5, 6] rfl)
  · refine lv_aload_n hx hb dL_law_915 rfl (lv_at hl 2 rfl) ?_
    refine lv_aload_n hx hb dL_law_916 rfl (lv_at hl 1 rfl) ?_
    refine lv_iload hx hb dL_law_917 (lv_at hl 0 rfl) ?_
    refine li_iconst hx hb dL_law_919 ?_
    refine li_iadd hx hb dL_law_920 ?_
    refine bl_scr hx hb hX hbl hgs hF hlc hL (by omega) (by omega) hz1 dL_law_921 ?_
    refine lv_aload_n hx hb dL_law_922 rfl (lv_at hl 4 rfl) ?_
    refine bk_S (As := [.ref (ad 0 0), .int (iI z1), .ref (ad 17 0)]) (rest := []) ⟨hx, hb, hml, hown, hts⟩ (lh_group_f l hst g ad σ τ w sa z1 (by unfold iR; omega) hB (by omega)) (vx_cwSW 3 hts gL_law_L_group rfl rfl rfl (by decide +kernel) ⟨Nat.le_of_ble_eq_true rfl, Nat.le_of_ble_eq_true rfl⟩) (lw_pre hK hU hT hF hNc) hlc rfl hl.1 rfl (Nat.le_of_ble_eq_true rfl) dL_law_923 ⟨by show _ ≤ 694788; omega, by show _ ≤ 7011740; omega⟩ (fun H locs hU hF1 hlc => ?_)
    have hF := hF.tr hF1
    have hU : bx_U g ad σ τ w H := hU
    refine lv_istore (lv' := [(5, .int (iI 1)), (4, .int (iI i)), (0, .ref b), (1, .ref (ad 0 0)), (2, .ref (ad 7 0)), (3, .ref (ad 17 0))]) hx hb dL_law_926 hl (by decide) rfl (fun ls hl => ?_)
    refine lv_aload_n hx hb dL_law_928 rfl (lv_at hl 4 rfl) ?_
    refine lv_aload_n hx hb dL_law_929 rfl (lv_at hl 2 rfl) ?_
    refine lv_iload hx hb dL_law_930 (lv_at hl 1 rfl) ?_
    refine li_iconst hx hb dL_law_932 ?_
    refine li_iadd hx hb dL_law_933 ?_
    refine bl_scr hx hb hX hbl hgs hF hlc hL (by omega) (by omega) hz1 dL_law_934 ?_
    refine bc_VW (As := [.int (iI z1)]) (rest := []) (kd := 7) (k := 0) (ci := 2) ⟨hx, hb, hml, hown, hts⟩ (c_X2_group_f l g ad σ τ w z1 (by unfold iR; omega) hBt (by omega)) (cwV 1 hts gL_law_X2_group rfl rfl rfl (by decide +kernel) ⟨Nat.le_of_ble_eq_true rfl, Nat.le_of_ble_eq_true rfl⟩) hK hU hlc (bx_L0 (by omega)) rfl rfl rfl hl.1 rfl (Nat.le_of_ble_eq_true rfl) dL_law_935 ⟨by show _ ≤ 694788; omega, by show _ ≤ 7011740; omega⟩ (fun H locs hU hF1 hlc => ?_)
    have hF := hF.tr hF1
    refine lv_istore (lv' := [(6, .int (iI 0)), (5, .int (iI 1)), (4, .int (iI i)), (0, .ref b), (1, .ref (ad 0 0)), (2, .ref (ad 7 0)), (3, .ref (ad 17 0))]) hx hb dL_law_938 hl (by decide) rfl (fun ls hl => ?_)
    refine lv_aload_n hx hb dL_law_940 rfl (lv_at hl 5 rfl) ?_
    refine bc_V (As := []) (rest := []) (kd := 7) (k := 0) (ci := 2) ⟨hx, hb, hml, hown, hts⟩ (c_X2_thrown l g ad σ τ (w.1, 1)) (cwV 0 hts gL_law_X2_thrown rfl rfl rfl (by decide +kernel) ⟨Nat.le_of_ble_eq_true rfl, Nat.le_of_ble_eq_true rfl⟩) hK hU (bx_L0 (by omega)) rfl rfl rfl hl.1 rfl (Nat.le_of_ble_eq_true rfl) dL_law_941 ⟨by show _ ≤ 694788; omega, by show _ ≤ 7011740; omega⟩ ?_
    refine W.eq (g2 := F0 m 944 ls [.int (iI 1)]) rfl ?_
    refine lv_iload hx hb dL_law_944 (lv_at hl 1 rfl) ?_
    refine li_icmp_eq (tgt := 951) hx hb (by unfold iR; omega) (by unfold iR; omega) dL_law_946 (by decide) (fun _ => ?_) (fun h => absurd (by decide) h)
    refine lv_iload hx hb dL_law_951 (lv_at hl 1 rfl) ?_
    refine li_if_ne (tgt := 968) hx hb (by unfold iR; omega) dL_law_953 (by decide) (fun _ => ?_) (fun h => absurd h (by decide))
    refine lv_goto (tgt := 1343) hx hb dL_law_968 (by decide) ?_
    refine W.widen (k := cells + 3) (n := slots + 12) (by omega) (by omega) ?_
    exact kk ad σ τ (w.1, 1) H locs (hI) hU hF hlc ls (lv_sub hl [2, 3, 4, 5, 6] rfl)

set_option maxHeartbeats 4000000 in
set_option maxRecDepth 100000 in
theorem ls_common {p : Program} {l : Launch} {e : Env} {s : State} {m : MethodId} {below : List Frame} {meth : Method} {c : Code} {b L : Nat} {xs : Nat → Int32} {g : bxG} {sa : Nat → Nat} (C : LC p l s m meth c b L xs g sa) {Q : State → Prop} {ad : bxA} {σ τ : bxS} {w : bxW} {H : Heap} {locs : List Loc} {cells slots : Nat} (hI : inv σ τ) (hU : bx_U g ad σ τ w H) (hF : bx_F g s.heap H) (hlc : bx_Lc g locs) {i : Int} (hi : 0 ≤ i ∧ i + 8 ≤ L) (hc : cells + 3 ≤ 694788 ∧ slots + 12 ≤ 7011740) {ls : Array Slot} (hl : lv_has ls 8 [(4, .int (iI i)), (0, .ref b), (1, .ref (ad 0 0)), (2, .ref (ad 7 0)), (3, .ref (ad 17 0))])
    (kk : ∀ (ad : bxA) (σ τ : bxS) (w : bxW) (H : Heap) (locs : List Loc), inv σ τ → bx_U g ad σ τ w H → bx_F g s.heap H → bx_Lc g locs → ∀ ls : Array Slot, lv_has ls 8 [(4, .int (iI i)), (0, .ref b), (1, .ref (ad 0 0)), (2, .ref (ad 7 0)), (3, .ref (ad 17 0))] → W p l e room_1 s m #[Value.ref b] below meth c H locs (cells + 3) (slots + 12) Q (F0 m 1343 ls [])) : W p l e room_1 s m #[Value.ref b] below meth c H locs cells slots Q (F0 m 971 ls []) := by
  obtain ⟨⟨hx, hb, hr, hml, hown⟩, hts, hX, hbl, hlocks, hK, hT, hNc, hgs, hst, hL⟩ := C
  have hB := hI.B
  have hBt := hI.2.1
  have hM := hI.2.2.1
  have h15 := hI.2.2.2
  have hm0 := bB0 hBt
  have hmd := v_made hI
  obtain ⟨z1, hz1⟩ : ∃ z, xz xs (i + 1) = z := ⟨_, rfl⟩
  have hy1 : -2147483648 ≤ z1 ∧ z1 < 2147483648 := by rw [← hz1]; exact iR_self _
  obtain ⟨z2, hz2⟩ : ∃ z, xz xs (i + 2) = z := ⟨_, rfl⟩
  have hy2 : -2147483648 ≤ z2 ∧ z2 < 2147483648 := by rw [← hz2]; exact iR_self _
  have hth1 := v_th hI z1
  have hth2 := v_th hI z2
  by_cases hg : (0 ≤ z1 ∧ z1 < 60 ∧ τ 2 z1 0 ≠ 0) ∧ (0 ≤ z2 ∧ z2 < 60 ∧ τ 2 z2 0 ≠ 0) ∧ z1 ≠ z2
  · refine lv_aload_n hx hb dL_law_971 rfl (lv_at hl 2 rfl) ?_
    refine lv_aload_n hx hb dL_law_972 rfl (lv_at hl 1 rfl) ?_
    refine lv_iload hx hb dL_law_973 (lv_at hl 0 rfl) ?_
    refine li_iconst hx hb dL_law_975 ?_
    refine li_iadd hx hb dL_law_976 ?_
    refine bl_scr hx hb hX hbl hgs hF hlc hL (by omega) (by omega) hz1 dL_law_977 ?_
    refine lv_aload_n hx hb dL_law_978 rfl (lv_at hl 1 rfl) ?_
    refine lv_iload hx hb dL_law_979 (lv_at hl 0 rfl) ?_
    refine li_iconst hx hb dL_law_981 ?_
    refine li_iadd hx hb dL_law_982 ?_
    refine bl_scr hx hb hX hbl hgs hF hlc hL (by omega) (by omega) hz2 dL_law_983 ?_
    refine lv_aload_n hx hb dL_law_984 rfl (lv_at hl 4 rfl) ?_
    refine bk_S (As := [.ref (ad 0 0), .int (iI z1), .int (iI z2), .ref (ad 17 0)]) (rest := []) ⟨hx, hb, hml, hown, hts⟩ (lh_common_t l g ad σ τ w sa z1 z2 (by unfold iR; omega) (by unfold iR; omega) hB (by omega)) (vx_cwSW 4 hts gL_law_L_common rfl rfl rfl (by decide +kernel) ⟨Nat.le_of_ble_eq_true rfl, Nat.le_of_ble_eq_true rfl⟩) (lw_pre hK hU hT hF hNc) hlc rfl hl.1 rfl (Nat.le_of_ble_eq_true rfl) dL_law_985 ⟨by show _ ≤ 694788; omega, by show _ ≤ 7011740; omega⟩ (fun H locs hU hF1 hlc => ?_)
    have hF := hF.tr hF1
    have hU : bx_U g ad σ τ ((1 * ((iI (max 0 (min (hHi σ z1 0) (hHi σ z2 0) - max (hLo σ z1 0) (hLo σ z2 0)))).toInt64) * ((iI (max 0 (min (hHi σ z1 1) (hHi σ z2 1) - max (hLo σ z1 1) (hLo σ z2 1)))).toInt64) * ((iI (max 0 (min (hHi σ z1 2) (hHi σ z2 2) - max (hLo σ z1 2) (hLo σ z2 2)))).toInt64)), w.2) H := hU
    refine lv_istore (lv' := [(5, .int (iI 0)), (4, .int (iI i)), (0, .ref b), (1, .ref (ad 0 0)), (2, .ref (ad 7 0)), (3, .ref (ad 17 0))]) hx hb dL_law_988 hl (by decide) rfl (fun ls hl => ?_)
    refine lv_aload_n hx hb dL_law_990 rfl (lv_at hl 4 rfl) ?_
    refine lv_aload_n hx hb dL_law_991 rfl (lv_at hl 2 rfl) ?_
    refine lv_iload hx hb dL_law_992 (lv_at hl 1 rfl) ?_
    refine li_iconst hx hb dL_law_994 ?_
    refine li_iadd hx hb dL_law_995 ?_
    refine bl_scr hx hb hX hbl hgs hF hlc hL (by omega) (by omega) hz1 dL_law_996 ?_
    refine lv_aload_n hx hb dL_law_997 rfl (lv_at hl 2 rfl) ?_
    refine lv_iload hx hb dL_law_998 (lv_at hl 1 rfl) ?_
    refine li_iconst hx hb dL_law_1000 ?_
    refine li_iadd hx hb dL_law_1001 ?_
    refine bl_scr hx hb hX hbl hgs hF hlc hL (by omega) (by omega) hz2 dL_law_1002 ?_
    refine bc_VW (As := [.int (iI z1), .int (iI z2)]) (rest := []) (kd := 7) (k := 0) (ci := 2) ⟨hx, hb, hml, hown, hts⟩ (c_X2_common_t l g ad σ τ ((1 * ((iI (max 0 (min (hHi σ z1 0) (hHi σ z2 0) - max (hLo σ z1 0) (hLo σ z2 0)))).toInt64) * ((iI (max 0 (min (hHi σ z1 1) (hHi σ z2 1) - max (hLo σ z1 1) (hLo σ z2 1)))).toInt64) * ((iI (max 0 (min (hHi σ z1 2) (hHi σ z2 2) - max (hLo σ z1 2) (hLo σ z2 2)))).toInt64)), w.2) z1 z2 (by unfold iR; omega) (by unfold iR; omega) hBt hM (by omega)) (cwV 2 hts gL_law_X2_common rfl rfl rfl (by decide +kernel) ⟨Nat.le_of_ble_eq_true rfl, Nat.le_of_ble_eq_true rfl⟩) hK hU hlc (bx_L0 (by omega)) rfl rfl rfl hl.1 rfl (Nat.le_of_ble_eq_true rfl) dL_law_1003 ⟨by show _ ≤ 694788; omega, by show _ ≤ 7011740; omega⟩ (fun H locs hU hF1 hlc => ?_)
    have hF := hF.tr hF1
    refine lv_lstore (lv' := [(6, .long (1 * ((iI (max 0 (min (mH (eff τ) z1 0 1 0) (mH (eff τ) z2 0 1 0) - max (mH (eff τ) z1 0 0 0) (mH (eff τ) z2 0 0 0)))).toInt64) * ((iI (max 0 (min (mH (eff τ) z1 1 1 0) (mH (eff τ) z2 1 1 0) - max (mH (eff τ) z1 1 0 0) (mH (eff τ) z2 1 0 0)))).toInt64) * ((iI (max 0 (min (mH (eff τ) z1 2 1 0) (mH (eff τ) z2 2 1 0) - max (mH (eff τ) z1 2 0 0) (mH (eff τ) z2 2 0 0)))).toInt64))), (5, .int (iI 0)), (4, .int (iI i)), (0, .ref b), (1, .ref (ad 0 0)), (2, .ref (ad 7 0)), (3, .ref (ad 17 0))]) hx hb dL_law_1006 hl (by decide) rfl (fun ls hl => ?_)
    refine lv_aload_n hx hb dL_law_1008 rfl (lv_at hl 5 rfl) ?_
    refine bc_V (As := []) (rest := []) (kd := 7) (k := 0) (ci := 2) ⟨hx, hb, hml, hown, hts⟩ (c_X2_thrown l g ad σ τ (((1 * ((iI (max 0 (min (hHi σ z1 0) (hHi σ z2 0) - max (hLo σ z1 0) (hLo σ z2 0)))).toInt64) * ((iI (max 0 (min (hHi σ z1 1) (hHi σ z2 1) - max (hLo σ z1 1) (hLo σ z2 1)))).toInt64) * ((iI (max 0 (min (hHi σ z1 2) (hHi σ z2 2) - max (hLo σ z1 2) (hLo σ z2 2)))).toInt64)), w.2).1, 0)) (cwV 0 hts gL_law_X2_thrown rfl rfl rfl (by decide +kernel) ⟨Nat.le_of_ble_eq_true rfl, Nat.le_of_ble_eq_true rfl⟩) hK hU (bx_L0 (by omega)) rfl rfl rfl hl.1 rfl (Nat.le_of_ble_eq_true rfl) dL_law_1009 ⟨by show _ ≤ 694788; omega, by show _ ≤ 7011740; omega⟩ ?_
    refine W.eq (g2 := F0 m 1012 ls [.int (iI 0)]) rfl ?_
    refine lv_iload hx hb dL_law_1012 (lv_at hl 1 rfl) ?_
    refine li_icmp_eq (tgt := 1019) hx hb (by unfold iR; omega) (by unfold iR; omega) dL_law_1014 (by decide) (fun _ => ?_) (fun h => absurd (by decide) h)
    refine lv_iload hx hb dL_law_1019 (lv_at hl 1 rfl) ?_
    refine li_if_ne (tgt := 1035) hx hb (by unfold iR; omega) dL_law_1021 (by decide) (fun h => absurd (by decide) h) (fun _ => ?_)
    refine lv_aload_n hx hb dL_law_1024 rfl (lv_at hl 6 rfl) ?_
    refine li_iconst hx hb dL_law_1025 ?_
    refine bl_17 hx hb hK hU dL_law_1026 ?_
    refine W.eq (g2 := F0 m 1027 ls [.long (1 * ((iI (max 0 (min (hHi σ z1 0) (hHi σ z2 0) - max (hLo σ z1 0) (hLo σ z2 0)))).toInt64) * ((iI (max 0 (min (hHi σ z1 1) (hHi σ z2 1) - max (hLo σ z1 1) (hLo σ z2 1)))).toInt64) * ((iI (max 0 (min (hHi σ z1 2) (hHi σ z2 2) - max (hLo σ z1 2) (hLo σ z2 2)))).toInt64))]) rfl ?_
    refine lv_lload hx hb dL_law_1027 (lv_at hl 0 rfl) ?_
    refine bl_lcmp hx hb (by simp only [v_lo hI hg.1, v_hi hI hg.1, v_lo hI hg.2.1, v_hi hI hg.2.1]) dL_law_1029 ?_
    refine li_if_eq (tgt := 1035) hx hb (by unfold iR; omega) dL_law_1030 (by decide) (fun _ => ?_) (fun h => absurd (by decide) h)
    refine lv_goto (tgt := 1343) hx hb dL_law_1035 (by decide) ?_
    refine W.widen (k := cells + 3) (n := slots + 12) (by omega) (by omega) ?_
    exact kk ad σ τ (((1 * ((iI (max 0 (min (hHi σ z1 0) (hHi σ z2 0) - max (hLo σ z1 0) (hLo σ z2 0)))).toInt64) * ((iI (max 0 (min (hHi σ z1 1) (hHi σ z2 1) - max (hLo σ z1 1) (hLo σ z2 1)))).toInt64) * ((iI (max 0 (min (hHi σ z1 2) (hHi σ z2 2) - max (hLo σ z1 2) (hLo σ z2 2)))).toInt64)), w.2).1, 0) H locs (hI) hU hF hlc ls (lv_sub hl [2, 3, 4, 5, 6] rfl)
  · refine lv_aload_n hx hb dL_law_971 rfl (lv_at hl 2 rfl) ?_
    refine lv_aload_n hx hb dL_law_972 rfl (lv_at hl 1 rfl) ?_
    refine lv_iload hx hb dL_law_973 (lv_at hl 0 rfl) ?_
    refine li_iconst hx hb dL_law_975 ?_
    refine li_iadd hx hb dL_law_976 ?_
    refine bl_scr hx hb hX hbl hgs hF hlc hL (by omega) (by omega) hz1 dL_law_977 ?_
    refine lv_aload_n hx hb dL_law_978 rfl (lv_at hl 1 rfl) ?_
    refine lv_iload hx hb dL_law_979 (lv_at hl 0 rfl) ?_
    refine li_iconst hx hb dL_law_981 ?_
    refine li_iadd hx hb dL_law_982 ?_
    refine bl_scr hx hb hX hbl hgs hF hlc hL (by omega) (by omega) hz2 dL_law_983 ?_
    refine lv_aload_n hx hb dL_law_984 rfl (lv_at hl 4 rfl) ?_
    refine bk_S (As := [.ref (ad 0 0), .int (iI z1), .int (iI z2), .ref (ad 17 0)]) (rest := []) ⟨hx, hb, hml, hown, hts⟩ (lh_common_f l hst g ad σ τ w sa z1 z2 (by unfold iR; omega) (by unfold iR; omega) hB (by omega)) (vx_cwSW 4 hts gL_law_L_common rfl rfl rfl (by decide +kernel) ⟨Nat.le_of_ble_eq_true rfl, Nat.le_of_ble_eq_true rfl⟩) (lw_pre hK hU hT hF hNc) hlc rfl hl.1 rfl (Nat.le_of_ble_eq_true rfl) dL_law_985 ⟨by show _ ≤ 694788; omega, by show _ ≤ 7011740; omega⟩ (fun H locs hU hF1 hlc => ?_)
    have hF := hF.tr hF1
    have hU : bx_U g ad σ τ w H := hU
    refine lv_istore (lv' := [(5, .int (iI 1)), (4, .int (iI i)), (0, .ref b), (1, .ref (ad 0 0)), (2, .ref (ad 7 0)), (3, .ref (ad 17 0))]) hx hb dL_law_988 hl (by decide) rfl (fun ls hl => ?_)
    refine lv_aload_n hx hb dL_law_990 rfl (lv_at hl 4 rfl) ?_
    refine lv_aload_n hx hb dL_law_991 rfl (lv_at hl 2 rfl) ?_
    refine lv_iload hx hb dL_law_992 (lv_at hl 1 rfl) ?_
    refine li_iconst hx hb dL_law_994 ?_
    refine li_iadd hx hb dL_law_995 ?_
    refine bl_scr hx hb hX hbl hgs hF hlc hL (by omega) (by omega) hz1 dL_law_996 ?_
    refine lv_aload_n hx hb dL_law_997 rfl (lv_at hl 2 rfl) ?_
    refine lv_iload hx hb dL_law_998 (lv_at hl 1 rfl) ?_
    refine li_iconst hx hb dL_law_1000 ?_
    refine li_iadd hx hb dL_law_1001 ?_
    refine bl_scr hx hb hX hbl hgs hF hlc hL (by omega) (by omega) hz2 dL_law_1002 ?_
    refine bc_VW (As := [.int (iI z1), .int (iI z2)]) (rest := []) (kd := 7) (k := 0) (ci := 2) ⟨hx, hb, hml, hown, hts⟩ (c_X2_common_f l g ad σ τ w z1 z2 (by unfold iR; omega) (by unfold iR; omega) hBt hM (by omega)) (cwV 2 hts gL_law_X2_common rfl rfl rfl (by decide +kernel) ⟨Nat.le_of_ble_eq_true rfl, Nat.le_of_ble_eq_true rfl⟩) hK hU hlc (bx_L0 (by omega)) rfl rfl rfl hl.1 rfl (Nat.le_of_ble_eq_true rfl) dL_law_1003 ⟨by show _ ≤ 694788; omega, by show _ ≤ 7011740; omega⟩ (fun H locs hU hF1 hlc => ?_)
    have hF := hF.tr hF1
    refine lv_lstore (lv' := [(6, .long 0), (5, .int (iI 1)), (4, .int (iI i)), (0, .ref b), (1, .ref (ad 0 0)), (2, .ref (ad 7 0)), (3, .ref (ad 17 0))]) hx hb dL_law_1006 hl (by decide) rfl (fun ls hl => ?_)
    refine lv_aload_n hx hb dL_law_1008 rfl (lv_at hl 5 rfl) ?_
    refine bc_V (As := []) (rest := []) (kd := 7) (k := 0) (ci := 2) ⟨hx, hb, hml, hown, hts⟩ (c_X2_thrown l g ad σ τ (w.1, 1)) (cwV 0 hts gL_law_X2_thrown rfl rfl rfl (by decide +kernel) ⟨Nat.le_of_ble_eq_true rfl, Nat.le_of_ble_eq_true rfl⟩) hK hU (bx_L0 (by omega)) rfl rfl rfl hl.1 rfl (Nat.le_of_ble_eq_true rfl) dL_law_1009 ⟨by show _ ≤ 694788; omega, by show _ ≤ 7011740; omega⟩ ?_
    refine W.eq (g2 := F0 m 1012 ls [.int (iI 1)]) rfl ?_
    refine lv_iload hx hb dL_law_1012 (lv_at hl 1 rfl) ?_
    refine li_icmp_eq (tgt := 1019) hx hb (by unfold iR; omega) (by unfold iR; omega) dL_law_1014 (by decide) (fun _ => ?_) (fun h => absurd (by decide) h)
    refine lv_iload hx hb dL_law_1019 (lv_at hl 1 rfl) ?_
    refine li_if_ne (tgt := 1035) hx hb (by unfold iR; omega) dL_law_1021 (by decide) (fun _ => ?_) (fun h => absurd h (by decide))
    refine lv_goto (tgt := 1343) hx hb dL_law_1035 (by decide) ?_
    refine W.widen (k := cells + 3) (n := slots + 12) (by omega) (by omega) ?_
    exact kk ad σ τ (w.1, 1) H locs (hI) hU hF hlc ls (lv_sub hl [2, 3, 4, 5, 6] rfl)

set_option maxHeartbeats 4000000 in
set_option maxRecDepth 100000 in
theorem ls_inside {p : Program} {l : Launch} {e : Env} {s : State} {m : MethodId} {below : List Frame} {meth : Method} {c : Code} {b L : Nat} {xs : Nat → Int32} {g : bxG} {sa : Nat → Nat} (C : LC p l s m meth c b L xs g sa) {Q : State → Prop} {ad : bxA} {σ τ : bxS} {w : bxW} {H : Heap} {locs : List Loc} {cells slots : Nat} (hI : inv σ τ) (hU : bx_U g ad σ τ w H) (hF : bx_F g s.heap H) (hlc : bx_Lc g locs) {i : Int} (hi : 0 ≤ i ∧ i + 8 ≤ L) (hc : cells + 3 ≤ 694788 ∧ slots + 12 ≤ 7011740) {ls : Array Slot} (hl : lv_has ls 8 [(4, .int (iI i)), (0, .ref b), (1, .ref (ad 0 0)), (2, .ref (ad 7 0)), (3, .ref (ad 17 0))])
    (kk : ∀ (ad : bxA) (σ τ : bxS) (w : bxW) (H : Heap) (locs : List Loc), inv σ τ → bx_U g ad σ τ w H → bx_F g s.heap H → bx_Lc g locs → ∀ ls : Array Slot, lv_has ls 8 [(4, .int (iI i)), (0, .ref b), (1, .ref (ad 0 0)), (2, .ref (ad 7 0)), (3, .ref (ad 17 0))] → W p l e room_1 s m #[Value.ref b] below meth c H locs (cells + 3) (slots + 12) Q (F0 m 1343 ls [])) : W p l e room_1 s m #[Value.ref b] below meth c H locs cells slots Q (F0 m 1038 ls []) := by
  obtain ⟨⟨hx, hb, hr, hml, hown⟩, hts, hX, hbl, hlocks, hK, hT, hNc, hgs, hst, hL⟩ := C
  have hB := hI.B
  have hBt := hI.2.1
  have hM := hI.2.2.1
  have h15 := hI.2.2.2
  have hm0 := bB0 hBt
  have hmd := v_made hI
  obtain ⟨z1, hz1⟩ : ∃ z, xz xs (i + 1) = z := ⟨_, rfl⟩
  have hy1 : -2147483648 ≤ z1 ∧ z1 < 2147483648 := by rw [← hz1]; exact iR_self _
  obtain ⟨z2, hz2⟩ : ∃ z, xz xs (i + 2) = z := ⟨_, rfl⟩
  have hy2 : -2147483648 ≤ z2 ∧ z2 < 2147483648 := by rw [← hz2]; exact iR_self _
  obtain ⟨z3, hz3⟩ : ∃ z, xz xs (i + 3) = z := ⟨_, rfl⟩
  have hy3 : -2147483648 ≤ z3 ∧ z3 < 2147483648 := by rw [← hz3]; exact iR_self _
  obtain ⟨z4, hz4⟩ : ∃ z, xz xs (i + 4) = z := ⟨_, rfl⟩
  have hy4 : -2147483648 ≤ z4 ∧ z4 < 2147483648 := by rw [← hz4]; exact iR_self _
  obtain ⟨z5, hz5⟩ : ∃ z, xz xs (i + 5) = z := ⟨_, rfl⟩
  have hy5 : -2147483648 ≤ z5 ∧ z5 < 2147483648 := by rw [← hz5]; exact iR_self _
  obtain ⟨z6, hz6⟩ : ∃ z, xz xs (i + 6) = z := ⟨_, rfl⟩
  have hy6 : -2147483648 ≤ z6 ∧ z6 < 2147483648 := by rw [← hz6]; exact iR_self _
  obtain ⟨z7, hz7⟩ : ∃ z, xz xs (i + 7) = z := ⟨_, rfl⟩
  have hy7 : -2147483648 ≤ z7 ∧ z7 < 2147483648 := by rw [← hz7]; exact iR_self _
  by_cases hg : (-2000 ≤ z1 ∧ z1 ≤ 2000 ∧ -2000 ≤ z4 ∧ z4 ≤ 2000 ∧ z1 < z4) ∧ (-2000 ≤ z2 ∧ z2 ≤ 2000 ∧ -2000 ≤ z5 ∧ z5 ≤ 2000 ∧ z2 < z5) ∧ (-2000 ≤ z3 ∧ z3 ≤ 2000 ∧ -2000 ≤ z6 ∧ z6 ≤ 2000 ∧ z3 < z6) ∧ 0 ≤ z7
  · refine lv_aload_n hx hb dL_law_1038 rfl (lv_at hl 2 rfl) ?_
    refine lv_aload_n hx hb dL_law_1039 rfl (lv_at hl 1 rfl) ?_
    refine lv_iload hx hb dL_law_1040 (lv_at hl 0 rfl) ?_
    refine li_iconst hx hb dL_law_1042 ?_
    refine li_iadd hx hb dL_law_1043 ?_
    refine bl_scr hx hb hX hbl hgs hF hlc hL (by omega) (by omega) hz1 dL_law_1044 ?_
    refine lv_aload_n hx hb dL_law_1045 rfl (lv_at hl 1 rfl) ?_
    refine lv_iload hx hb dL_law_1046 (lv_at hl 0 rfl) ?_
    refine li_iconst hx hb dL_law_1048 ?_
    refine li_iadd hx hb dL_law_1049 ?_
    refine bl_scr hx hb hX hbl hgs hF hlc hL (by omega) (by omega) hz2 dL_law_1050 ?_
    refine lv_aload_n hx hb dL_law_1051 rfl (lv_at hl 1 rfl) ?_
    refine lv_iload hx hb dL_law_1052 (lv_at hl 0 rfl) ?_
    refine li_iconst hx hb dL_law_1054 ?_
    refine li_iadd hx hb dL_law_1055 ?_
    refine bl_scr hx hb hX hbl hgs hF hlc hL (by omega) (by omega) hz3 dL_law_1056 ?_
    refine lv_aload_n hx hb dL_law_1057 rfl (lv_at hl 1 rfl) ?_
    refine lv_iload hx hb dL_law_1058 (lv_at hl 0 rfl) ?_
    refine li_iconst hx hb dL_law_1060 ?_
    refine li_iadd hx hb dL_law_1061 ?_
    refine bl_scr hx hb hX hbl hgs hF hlc hL (by omega) (by omega) hz4 dL_law_1062 ?_
    refine lv_aload_n hx hb dL_law_1063 rfl (lv_at hl 1 rfl) ?_
    refine lv_iload hx hb dL_law_1064 (lv_at hl 0 rfl) ?_
    refine li_iconst hx hb dL_law_1066 ?_
    refine li_iadd hx hb dL_law_1067 ?_
    refine bl_scr hx hb hX hbl hgs hF hlc hL (by omega) (by omega) hz5 dL_law_1068 ?_
    refine lv_aload_n hx hb dL_law_1069 rfl (lv_at hl 1 rfl) ?_
    refine lv_iload hx hb dL_law_1070 (lv_at hl 0 rfl) ?_
    refine li_bipush hx hb dL_law_1072 (by decide) ?_
    refine li_iadd hx hb dL_law_1074 ?_
    refine bl_scr hx hb hX hbl hgs hF hlc hL (by omega) (by omega) hz6 dL_law_1075 ?_
    refine lv_aload_n hx hb dL_law_1076 rfl (lv_at hl 1 rfl) ?_
    refine lv_iload hx hb dL_law_1077 (lv_at hl 0 rfl) ?_
    refine li_bipush hx hb dL_law_1079 (by decide) ?_
    refine li_iadd hx hb dL_law_1081 ?_
    refine bl_scr hx hb hX hbl hgs hF hlc hL (by omega) (by omega) hz7 dL_law_1082 ?_
    refine lv_aload_n hx hb dL_law_1083 rfl (lv_at hl 4 rfl) ?_
    refine bk_S (As := [.ref (ad 0 0), .int (iI z1), .int (iI z2), .int (iI z3), .int (iI z4), .int (iI z5), .int (iI z6), .int (iI z7), .ref (ad 17 0)]) (rest := []) ⟨hx, hb, hml, hown, hts⟩ (lh_inside_t l g ad σ τ w sa z1 z2 z3 z4 z5 z6 z7 (by unfold iR; omega) (by unfold iR; omega) (by unfold iR; omega) (by unfold iR; omega) (by unfold iR; omega) (by unfold iR; omega) (by unfold iR; omega) hB (by omega)) (vx_cwSW 9 hts gL_law_L_inside rfl rfl rfl (by decide +kernel) ⟨Nat.le_of_ble_eq_true rfl, Nat.le_of_ble_eq_true rfl⟩) (lw_pre hK hU hT hF hNc) hlc rfl hl.1 rfl (Nat.le_of_ble_eq_true rfl) dL_law_1084 ⟨by show _ ≤ 694788; omega, by show _ ≤ 7011740; omega⟩ (fun H locs hU hF1 hlc => ?_)
    have hF := hF.tr hF1
    have hU : bx_U g ad σ τ ((iI (nth (insP σ z1 z2 z3 z4 z5 z6) 0 (σ 0 0 0) z7)).toInt64, w.2) H := hU
    refine lv_istore (lv' := [(5, .int (iI 0)), (4, .int (iI i)), (0, .ref b), (1, .ref (ad 0 0)), (2, .ref (ad 7 0)), (3, .ref (ad 17 0))]) hx hb dL_law_1087 hl (by decide) rfl (fun ls hl => ?_)
    refine lv_aload_n hx hb dL_law_1089 rfl (lv_at hl 4 rfl) ?_
    refine lv_aload_n hx hb dL_law_1090 rfl (lv_at hl 2 rfl) ?_
    refine lv_iload hx hb dL_law_1091 (lv_at hl 1 rfl) ?_
    refine li_iconst hx hb dL_law_1093 ?_
    refine li_iadd hx hb dL_law_1094 ?_
    refine bl_scr hx hb hX hbl hgs hF hlc hL (by omega) (by omega) hz1 dL_law_1095 ?_
    refine lv_aload_n hx hb dL_law_1096 rfl (lv_at hl 2 rfl) ?_
    refine lv_iload hx hb dL_law_1097 (lv_at hl 1 rfl) ?_
    refine li_iconst hx hb dL_law_1099 ?_
    refine li_iadd hx hb dL_law_1100 ?_
    refine bl_scr hx hb hX hbl hgs hF hlc hL (by omega) (by omega) hz2 dL_law_1101 ?_
    refine lv_aload_n hx hb dL_law_1102 rfl (lv_at hl 2 rfl) ?_
    refine lv_iload hx hb dL_law_1103 (lv_at hl 1 rfl) ?_
    refine li_iconst hx hb dL_law_1105 ?_
    refine li_iadd hx hb dL_law_1106 ?_
    refine bl_scr hx hb hX hbl hgs hF hlc hL (by omega) (by omega) hz3 dL_law_1107 ?_
    refine lv_aload_n hx hb dL_law_1108 rfl (lv_at hl 2 rfl) ?_
    refine lv_iload hx hb dL_law_1109 (lv_at hl 1 rfl) ?_
    refine li_iconst hx hb dL_law_1111 ?_
    refine li_iadd hx hb dL_law_1112 ?_
    refine bl_scr hx hb hX hbl hgs hF hlc hL (by omega) (by omega) hz4 dL_law_1113 ?_
    refine lv_aload_n hx hb dL_law_1114 rfl (lv_at hl 2 rfl) ?_
    refine lv_iload hx hb dL_law_1115 (lv_at hl 1 rfl) ?_
    refine li_iconst hx hb dL_law_1117 ?_
    refine li_iadd hx hb dL_law_1118 ?_
    refine bl_scr hx hb hX hbl hgs hF hlc hL (by omega) (by omega) hz5 dL_law_1119 ?_
    refine lv_aload_n hx hb dL_law_1120 rfl (lv_at hl 2 rfl) ?_
    refine lv_iload hx hb dL_law_1121 (lv_at hl 1 rfl) ?_
    refine li_bipush hx hb dL_law_1123 (by decide) ?_
    refine li_iadd hx hb dL_law_1125 ?_
    refine bl_scr hx hb hX hbl hgs hF hlc hL (by omega) (by omega) hz6 dL_law_1126 ?_
    refine lv_aload_n hx hb dL_law_1127 rfl (lv_at hl 2 rfl) ?_
    refine lv_iload hx hb dL_law_1128 (lv_at hl 1 rfl) ?_
    refine li_bipush hx hb dL_law_1130 (by decide) ?_
    refine li_iadd hx hb dL_law_1132 ?_
    refine bl_scr hx hb hX hbl hgs hF hlc hL (by omega) (by omega) hz7 dL_law_1133 ?_
    refine bc_VW (As := [.int (iI z1), .int (iI z2), .int (iI z3), .int (iI z4), .int (iI z5), .int (iI z6), .int (iI z7)]) (rest := []) (kd := 7) (k := 0) (ci := 2) ⟨hx, hb, hml, hown, hts⟩ (c_X2_inside_t l g ad σ τ ((iI (nth (insP σ z1 z2 z3 z4 z5 z6) 0 (σ 0 0 0) z7)).toInt64, w.2) z1 z2 z3 z4 z5 z6 z7 (by unfold iR; omega) (by unfold iR; omega) (by unfold iR; omega) (by unfold iR; omega) (by unfold iR; omega) (by unfold iR; omega) (by unfold iR; omega) hBt hM (by omega)) (cwV 7 hts gL_law_X2_inside rfl rfl rfl (by decide +kernel) ⟨Nat.le_of_ble_eq_true rfl, Nat.le_of_ble_eq_true rfl⟩) hK hU hlc (bx_L0 (by omega)) rfl rfl rfl hl.1 rfl (Nat.le_of_ble_eq_true rfl) dL_law_1134 ⟨by show _ ≤ 694788; omega, by show _ ≤ 7011740; omega⟩ (fun H locs hU hF1 hlc => ?_)
    have hF := hF.tr hF1
    refine lv_istore (lv' := [(6, .int (iI (nth (insM (eff τ) z1 z2 z3 z4 z5 z6) 0 (τ 0 0 0) z7))), (5, .int (iI 0)), (4, .int (iI i)), (0, .ref b), (1, .ref (ad 0 0)), (2, .ref (ad 7 0)), (3, .ref (ad 17 0))]) hx hb dL_law_1137 hl (by decide) rfl (fun ls hl => ?_)
    refine lv_aload_n hx hb dL_law_1139 rfl (lv_at hl 5 rfl) ?_
    refine bc_V (As := []) (rest := []) (kd := 7) (k := 0) (ci := 2) ⟨hx, hb, hml, hown, hts⟩ (c_X2_thrown l g ad σ τ (((iI (nth (insP σ z1 z2 z3 z4 z5 z6) 0 (σ 0 0 0) z7)).toInt64, w.2).1, 0)) (cwV 0 hts gL_law_X2_thrown rfl rfl rfl (by decide +kernel) ⟨Nat.le_of_ble_eq_true rfl, Nat.le_of_ble_eq_true rfl⟩) hK hU (bx_L0 (by omega)) rfl rfl rfl hl.1 rfl (Nat.le_of_ble_eq_true rfl) dL_law_1140 ⟨by show _ ≤ 694788; omega, by show _ ≤ 7011740; omega⟩ ?_
    refine W.eq (g2 := F0 m 1143 ls [.int (iI 0)]) rfl ?_
    refine lv_iload hx hb dL_law_1143 (lv_at hl 1 rfl) ?_
    refine li_icmp_eq (tgt := 1150) hx hb (by unfold iR; omega) (by unfold iR; omega) dL_law_1145 (by decide) (fun _ => ?_) (fun h => absurd (by decide) h)
    refine lv_iload hx hb dL_law_1150 (lv_at hl 1 rfl) ?_
    refine li_if_ne (tgt := 1167) hx hb (by unfold iR; omega) dL_law_1152 (by decide) (fun h => absurd (by decide) h) (fun _ => ?_)
    refine lv_aload_n hx hb dL_law_1155 rfl (lv_at hl 6 rfl) ?_
    refine li_iconst hx hb dL_law_1156 ?_
    refine bl_17 hx hb hK hU dL_law_1157 ?_
    refine W.eq (g2 := F0 m 1158 ls [.long ((iI (nth (insP σ z1 z2 z3 z4 z5 z6) 0 (σ 0 0 0) z7)).toInt64)]) rfl ?_
    refine lv_iload hx hb dL_law_1158 (lv_at hl 0 rfl) ?_
    refine lv_i2l (v := (iI (nth (insM (eff τ) z1 z2 z3 z4 z5 z6) 0 (τ 0 0 0) z7)).toInt64) hx hb dL_law_1160 rfl ?_
    refine bl_lcmp hx hb (congrArg (fun z => (iI z).toInt64) (v_inside hI z1 z2 z3 z4 z5 z6 z7)) dL_law_1161 ?_
    refine li_if_eq (tgt := 1167) hx hb (by unfold iR; omega) dL_law_1162 (by decide) (fun _ => ?_) (fun h => absurd (by decide) h)
    refine lv_goto (tgt := 1343) hx hb dL_law_1167 (by decide) ?_
    refine W.widen (k := cells + 3) (n := slots + 12) (by omega) (by omega) ?_
    exact kk ad σ τ (((iI (nth (insP σ z1 z2 z3 z4 z5 z6) 0 (σ 0 0 0) z7)).toInt64, w.2).1, 0) H locs (hI) hU hF hlc ls (lv_sub hl [2, 3, 4, 5, 6] rfl)
  · refine lv_aload_n hx hb dL_law_1038 rfl (lv_at hl 2 rfl) ?_
    refine lv_aload_n hx hb dL_law_1039 rfl (lv_at hl 1 rfl) ?_
    refine lv_iload hx hb dL_law_1040 (lv_at hl 0 rfl) ?_
    refine li_iconst hx hb dL_law_1042 ?_
    refine li_iadd hx hb dL_law_1043 ?_
    refine bl_scr hx hb hX hbl hgs hF hlc hL (by omega) (by omega) hz1 dL_law_1044 ?_
    refine lv_aload_n hx hb dL_law_1045 rfl (lv_at hl 1 rfl) ?_
    refine lv_iload hx hb dL_law_1046 (lv_at hl 0 rfl) ?_
    refine li_iconst hx hb dL_law_1048 ?_
    refine li_iadd hx hb dL_law_1049 ?_
    refine bl_scr hx hb hX hbl hgs hF hlc hL (by omega) (by omega) hz2 dL_law_1050 ?_
    refine lv_aload_n hx hb dL_law_1051 rfl (lv_at hl 1 rfl) ?_
    refine lv_iload hx hb dL_law_1052 (lv_at hl 0 rfl) ?_
    refine li_iconst hx hb dL_law_1054 ?_
    refine li_iadd hx hb dL_law_1055 ?_
    refine bl_scr hx hb hX hbl hgs hF hlc hL (by omega) (by omega) hz3 dL_law_1056 ?_
    refine lv_aload_n hx hb dL_law_1057 rfl (lv_at hl 1 rfl) ?_
    refine lv_iload hx hb dL_law_1058 (lv_at hl 0 rfl) ?_
    refine li_iconst hx hb dL_law_1060 ?_
    refine li_iadd hx hb dL_law_1061 ?_
    refine bl_scr hx hb hX hbl hgs hF hlc hL (by omega) (by omega) hz4 dL_law_1062 ?_
    refine lv_aload_n hx hb dL_law_1063 rfl (lv_at hl 1 rfl) ?_
    refine lv_iload hx hb dL_law_1064 (lv_at hl 0 rfl) ?_
    refine li_iconst hx hb dL_law_1066 ?_
    refine li_iadd hx hb dL_law_1067 ?_
    refine bl_scr hx hb hX hbl hgs hF hlc hL (by omega) (by omega) hz5 dL_law_1068 ?_
    refine lv_aload_n hx hb dL_law_1069 rfl (lv_at hl 1 rfl) ?_
    refine lv_iload hx hb dL_law_1070 (lv_at hl 0 rfl) ?_
    refine li_bipush hx hb dL_law_1072 (by decide) ?_
    refine li_iadd hx hb dL_law_1074 ?_
    refine bl_scr hx hb hX hbl hgs hF hlc hL (by omega) (by omega) hz6 dL_law_1075 ?_
    refine lv_aload_n hx hb dL_law_1076 rfl (lv_at hl 1 rfl) ?_
    refine lv_iload hx hb dL_law_1077 (lv_at hl 0 rfl) ?_
    refine li_bipush hx hb dL_law_1079 (by decide) ?_
    refine li_iadd hx hb dL_law_1081 ?_
    refine bl_scr hx hb hX hbl hgs hF hlc hL (by omega) (by omega) hz7 dL_law_1082 ?_
    refine lv_aload_n hx hb dL_law_1083 rfl (lv_at hl 4 rfl) ?_
    refine bk_S (As := [.ref (ad 0 0), .int (iI z1), .int (iI z2), .int (iI z3), .int (iI z4), .int (iI z5), .int (iI z6), .int (iI z7), .ref (ad 17 0)]) (rest := []) ⟨hx, hb, hml, hown, hts⟩ (lh_inside_f l hst g ad σ τ w sa z1 z2 z3 z4 z5 z6 z7 (by unfold iR; omega) (by unfold iR; omega) (by unfold iR; omega) (by unfold iR; omega) (by unfold iR; omega) (by unfold iR; omega) (by unfold iR; omega) hB (by omega)) (vx_cwSW 9 hts gL_law_L_inside rfl rfl rfl (by decide +kernel) ⟨Nat.le_of_ble_eq_true rfl, Nat.le_of_ble_eq_true rfl⟩) (lw_pre hK hU hT hF hNc) hlc rfl hl.1 rfl (Nat.le_of_ble_eq_true rfl) dL_law_1084 ⟨by show _ ≤ 694788; omega, by show _ ≤ 7011740; omega⟩ (fun H locs hU hF1 hlc => ?_)
    have hF := hF.tr hF1
    have hU : bx_U g ad σ τ w H := hU
    refine lv_istore (lv' := [(5, .int (iI 1)), (4, .int (iI i)), (0, .ref b), (1, .ref (ad 0 0)), (2, .ref (ad 7 0)), (3, .ref (ad 17 0))]) hx hb dL_law_1087 hl (by decide) rfl (fun ls hl => ?_)
    refine lv_aload_n hx hb dL_law_1089 rfl (lv_at hl 4 rfl) ?_
    refine lv_aload_n hx hb dL_law_1090 rfl (lv_at hl 2 rfl) ?_
    refine lv_iload hx hb dL_law_1091 (lv_at hl 1 rfl) ?_
    refine li_iconst hx hb dL_law_1093 ?_
    refine li_iadd hx hb dL_law_1094 ?_
    refine bl_scr hx hb hX hbl hgs hF hlc hL (by omega) (by omega) hz1 dL_law_1095 ?_
    refine lv_aload_n hx hb dL_law_1096 rfl (lv_at hl 2 rfl) ?_
    refine lv_iload hx hb dL_law_1097 (lv_at hl 1 rfl) ?_
    refine li_iconst hx hb dL_law_1099 ?_
    refine li_iadd hx hb dL_law_1100 ?_
    refine bl_scr hx hb hX hbl hgs hF hlc hL (by omega) (by omega) hz2 dL_law_1101 ?_
    refine lv_aload_n hx hb dL_law_1102 rfl (lv_at hl 2 rfl) ?_
    refine lv_iload hx hb dL_law_1103 (lv_at hl 1 rfl) ?_
    refine li_iconst hx hb dL_law_1105 ?_
    refine li_iadd hx hb dL_law_1106 ?_
    refine bl_scr hx hb hX hbl hgs hF hlc hL (by omega) (by omega) hz3 dL_law_1107 ?_
    refine lv_aload_n hx hb dL_law_1108 rfl (lv_at hl 2 rfl) ?_
    refine lv_iload hx hb dL_law_1109 (lv_at hl 1 rfl) ?_
    refine li_iconst hx hb dL_law_1111 ?_
    refine li_iadd hx hb dL_law_1112 ?_
    refine bl_scr hx hb hX hbl hgs hF hlc hL (by omega) (by omega) hz4 dL_law_1113 ?_
    refine lv_aload_n hx hb dL_law_1114 rfl (lv_at hl 2 rfl) ?_
    refine lv_iload hx hb dL_law_1115 (lv_at hl 1 rfl) ?_
    refine li_iconst hx hb dL_law_1117 ?_
    refine li_iadd hx hb dL_law_1118 ?_
    refine bl_scr hx hb hX hbl hgs hF hlc hL (by omega) (by omega) hz5 dL_law_1119 ?_
    refine lv_aload_n hx hb dL_law_1120 rfl (lv_at hl 2 rfl) ?_
    refine lv_iload hx hb dL_law_1121 (lv_at hl 1 rfl) ?_
    refine li_bipush hx hb dL_law_1123 (by decide) ?_
    refine li_iadd hx hb dL_law_1125 ?_
    refine bl_scr hx hb hX hbl hgs hF hlc hL (by omega) (by omega) hz6 dL_law_1126 ?_
    refine lv_aload_n hx hb dL_law_1127 rfl (lv_at hl 2 rfl) ?_
    refine lv_iload hx hb dL_law_1128 (lv_at hl 1 rfl) ?_
    refine li_bipush hx hb dL_law_1130 (by decide) ?_
    refine li_iadd hx hb dL_law_1132 ?_
    refine bl_scr hx hb hX hbl hgs hF hlc hL (by omega) (by omega) hz7 dL_law_1133 ?_
    refine bc_VW (As := [.int (iI z1), .int (iI z2), .int (iI z3), .int (iI z4), .int (iI z5), .int (iI z6), .int (iI z7)]) (rest := []) (kd := 7) (k := 0) (ci := 2) ⟨hx, hb, hml, hown, hts⟩ (c_X2_inside_f l g ad σ τ w z1 z2 z3 z4 z5 z6 z7 (by unfold iR; omega) (by unfold iR; omega) (by unfold iR; omega) (by unfold iR; omega) (by unfold iR; omega) (by unfold iR; omega) (by unfold iR; omega) hBt hM (by omega)) (cwV 7 hts gL_law_X2_inside rfl rfl rfl (by decide +kernel) ⟨Nat.le_of_ble_eq_true rfl, Nat.le_of_ble_eq_true rfl⟩) hK hU hlc (bx_L0 (by omega)) rfl rfl rfl hl.1 rfl (Nat.le_of_ble_eq_true rfl) dL_law_1134 ⟨by show _ ≤ 694788; omega, by show _ ≤ 7011740; omega⟩ (fun H locs hU hF1 hlc => ?_)
    have hF := hF.tr hF1
    refine lv_istore (lv' := [(6, .int (iI 0)), (5, .int (iI 1)), (4, .int (iI i)), (0, .ref b), (1, .ref (ad 0 0)), (2, .ref (ad 7 0)), (3, .ref (ad 17 0))]) hx hb dL_law_1137 hl (by decide) rfl (fun ls hl => ?_)
    refine lv_aload_n hx hb dL_law_1139 rfl (lv_at hl 5 rfl) ?_
    refine bc_V (As := []) (rest := []) (kd := 7) (k := 0) (ci := 2) ⟨hx, hb, hml, hown, hts⟩ (c_X2_thrown l g ad σ τ (w.1, 1)) (cwV 0 hts gL_law_X2_thrown rfl rfl rfl (by decide +kernel) ⟨Nat.le_of_ble_eq_true rfl, Nat.le_of_ble_eq_true rfl⟩) hK hU (bx_L0 (by omega)) rfl rfl rfl hl.1 rfl (Nat.le_of_ble_eq_true rfl) dL_law_1140 ⟨by show _ ≤ 694788; omega, by show _ ≤ 7011740; omega⟩ ?_
    refine W.eq (g2 := F0 m 1143 ls [.int (iI 1)]) rfl ?_
    refine lv_iload hx hb dL_law_1143 (lv_at hl 1 rfl) ?_
    refine li_icmp_eq (tgt := 1150) hx hb (by unfold iR; omega) (by unfold iR; omega) dL_law_1145 (by decide) (fun _ => ?_) (fun h => absurd (by decide) h)
    refine lv_iload hx hb dL_law_1150 (lv_at hl 1 rfl) ?_
    refine li_if_ne (tgt := 1167) hx hb (by unfold iR; omega) dL_law_1152 (by decide) (fun _ => ?_) (fun h => absurd h (by decide))
    refine lv_goto (tgt := 1343) hx hb dL_law_1167 (by decide) ?_
    refine W.widen (k := cells + 3) (n := slots + 12) (by omega) (by omega) ?_
    exact kk ad σ τ (w.1, 1) H locs (hI) hU hF hlc ls (lv_sub hl [2, 3, 4, 5, 6] rfl)

set_option maxHeartbeats 4000000 in
set_option maxRecDepth 100000 in
theorem ls_shift {p : Program} {l : Launch} {e : Env} {s : State} {m : MethodId} {below : List Frame} {meth : Method} {c : Code} {b L : Nat} {xs : Nat → Int32} {g : bxG} {sa : Nat → Nat} (C : LC p l s m meth c b L xs g sa) {Q : State → Prop} {ad : bxA} {σ τ : bxS} {w : bxW} {H : Heap} {locs : List Loc} {cells slots : Nat} (hI : inv σ τ) (hU : bx_U g ad σ τ w H) (hF : bx_F g s.heap H) (hlc : bx_Lc g locs) {i : Int} (hi : 0 ≤ i ∧ i + 8 ≤ L) (hc : cells + 3 ≤ 694788 ∧ slots + 12 ≤ 7011740) {ls : Array Slot} (hl : lv_has ls 8 [(4, .int (iI i)), (0, .ref b), (1, .ref (ad 0 0)), (2, .ref (ad 7 0)), (3, .ref (ad 17 0))])
    (kk : ∀ (ad : bxA) (σ τ : bxS) (w : bxW) (H : Heap) (locs : List Loc), inv σ τ → bx_U g ad σ τ w H → bx_F g s.heap H → bx_Lc g locs → ∀ ls : Array Slot, lv_has ls 8 [(4, .int (iI i)), (0, .ref b), (1, .ref (ad 0 0)), (2, .ref (ad 7 0)), (3, .ref (ad 17 0))] → W p l e room_1 s m #[Value.ref b] below meth c H locs (cells + 3) (slots + 12) Q (F0 m 1343 ls [])) : W p l e room_1 s m #[Value.ref b] below meth c H locs cells slots Q (F0 m 1170 ls []) := by
  obtain ⟨⟨hx, hb, hr, hml, hown⟩, hts, hX, hbl, hlocks, hK, hT, hNc, hgs, hst, hL⟩ := C
  have hB := hI.B
  have hBt := hI.2.1
  have hM := hI.2.2.1
  have h15 := hI.2.2.2
  have hm0 := bB0 hBt
  have hmd := v_made hI
  obtain ⟨z1, hz1⟩ : ∃ z, xz xs (i + 1) = z := ⟨_, rfl⟩
  have hy1 : -2147483648 ≤ z1 ∧ z1 < 2147483648 := by rw [← hz1]; exact iR_self _
  obtain ⟨z2, hz2⟩ : ∃ z, xz xs (i + 2) = z := ⟨_, rfl⟩
  have hy2 : -2147483648 ≤ z2 ∧ z2 < 2147483648 := by rw [← hz2]; exact iR_self _
  obtain ⟨z3, hz3⟩ : ∃ z, xz xs (i + 3) = z := ⟨_, rfl⟩
  have hy3 : -2147483648 ≤ z3 ∧ z3 < 2147483648 := by rw [← hz3]; exact iR_self _
  have hth1 := v_th hI z1
  by_cases hng : ¬ ((0 ≤ z1 ∧ z1 < 60 ∧ τ 2 z1 0 ≠ 0) ∧ (0 ≤ z2 ∧ z2 ≤ 2) ∧ 0 ≤ z3 ∧ z3 ≤ 1000)
  · refine lv_aload_n hx hb dL_law_1170 rfl (lv_at hl 2 rfl) ?_
    refine lv_aload_n hx hb dL_law_1171 rfl (lv_at hl 1 rfl) ?_
    refine lv_iload hx hb dL_law_1172 (lv_at hl 0 rfl) ?_
    refine li_iconst hx hb dL_law_1174 ?_
    refine li_iadd hx hb dL_law_1175 ?_
    refine bl_scr hx hb hX hbl hgs hF hlc hL (by omega) (by omega) hz1 dL_law_1176 ?_
    refine lv_aload_n hx hb dL_law_1177 rfl (lv_at hl 1 rfl) ?_
    refine lv_iload hx hb dL_law_1178 (lv_at hl 0 rfl) ?_
    refine li_iconst hx hb dL_law_1180 ?_
    refine li_iadd hx hb dL_law_1181 ?_
    refine bl_scr hx hb hX hbl hgs hF hlc hL (by omega) (by omega) hz2 dL_law_1182 ?_
    refine lv_aload_n hx hb dL_law_1183 rfl (lv_at hl 1 rfl) ?_
    refine lv_iload hx hb dL_law_1184 (lv_at hl 0 rfl) ?_
    refine li_iconst hx hb dL_law_1186 ?_
    refine li_iadd hx hb dL_law_1187 ?_
    refine bl_scr hx hb hX hbl hgs hF hlc hL (by omega) (by omega) hz3 dL_law_1188 ?_
    refine lv_aload_n hx hb dL_law_1189 rfl (lv_at hl 4 rfl) ?_
    refine bk_S (As := [.ref (ad 0 0), .int (iI z1), .int (iI z2), .int (iI z3), .ref (ad 17 0)]) (rest := []) ⟨hx, hb, hml, hown, hts⟩ (lh_shift_f l hst g ad σ τ w sa z1 z2 z3 (by unfold iR; omega) (by unfold iR; omega) (by unfold iR; omega) hB (by omega)) (vx_cwSW 5 hts gL_law_L_shift rfl rfl rfl (by decide +kernel) ⟨Nat.le_of_ble_eq_true rfl, Nat.le_of_ble_eq_true rfl⟩) (lw_pre hK hU hT hF hNc) hlc rfl hl.1 rfl (Nat.le_of_ble_eq_true rfl) dL_law_1190 ⟨by show _ ≤ 694788; omega, by show _ ≤ 7011740; omega⟩ (fun H locs hU hF1 hlc => ?_)
    have hF := hF.tr hF1
    have hU : bx_U g ad σ τ w H := hU
    refine lv_istore (lv' := [(5, .int (iI 1)), (4, .int (iI i)), (0, .ref b), (1, .ref (ad 0 0)), (2, .ref (ad 7 0)), (3, .ref (ad 17 0))]) hx hb dL_law_1193 hl (by decide) rfl (fun ls hl => ?_)
    refine lv_aload_n hx hb dL_law_1195 rfl (lv_at hl 4 rfl) ?_
    refine lv_aload_n hx hb dL_law_1196 rfl (lv_at hl 2 rfl) ?_
    refine lv_iload hx hb dL_law_1197 (lv_at hl 1 rfl) ?_
    refine li_iconst hx hb dL_law_1199 ?_
    refine li_iadd hx hb dL_law_1200 ?_
    refine bl_scr hx hb hX hbl hgs hF hlc hL (by omega) (by omega) hz1 dL_law_1201 ?_
    refine lv_aload_n hx hb dL_law_1202 rfl (lv_at hl 2 rfl) ?_
    refine lv_iload hx hb dL_law_1203 (lv_at hl 1 rfl) ?_
    refine li_iconst hx hb dL_law_1205 ?_
    refine li_iadd hx hb dL_law_1206 ?_
    refine bl_scr hx hb hX hbl hgs hF hlc hL (by omega) (by omega) hz2 dL_law_1207 ?_
    refine lv_aload_n hx hb dL_law_1208 rfl (lv_at hl 2 rfl) ?_
    refine lv_iload hx hb dL_law_1209 (lv_at hl 1 rfl) ?_
    refine li_iconst hx hb dL_law_1211 ?_
    refine li_iadd hx hb dL_law_1212 ?_
    refine bl_scr hx hb hX hbl hgs hF hlc hL (by omega) (by omega) hz3 dL_law_1213 ?_
    refine bc_VW (As := [.int (iI z1), .int (iI z2), .int (iI z3)]) (rest := []) (kd := 7) (k := 0) (ci := 2) ⟨hx, hb, hml, hown, hts⟩ (c_X2_shift_f l g ad σ τ w z1 z2 z3 (by unfold iR; omega) (by unfold iR; omega) (by unfold iR; omega) hBt (by omega)) (cwV 3 hts gL_law_X2_shift rfl rfl rfl (by decide +kernel) ⟨Nat.le_of_ble_eq_true rfl, Nat.le_of_ble_eq_true rfl⟩) hK hU hlc (bx_L0 (by omega)) rfl rfl rfl hl.1 rfl (Nat.le_of_ble_eq_true rfl) dL_law_1214 ⟨by show _ ≤ 694788; omega, by show _ ≤ 7011740; omega⟩ (fun H locs hU hF1 hlc => ?_)
    have hF := hF.tr hF1
    refine lv_istore (lv' := [(6, .int (iI 0)), (5, .int (iI 1)), (4, .int (iI i)), (0, .ref b), (1, .ref (ad 0 0)), (2, .ref (ad 7 0)), (3, .ref (ad 17 0))]) hx hb dL_law_1217 hl (by decide) rfl (fun ls hl => ?_)
    refine lv_aload_n hx hb dL_law_1219 rfl (lv_at hl 5 rfl) ?_
    refine bc_V (As := []) (rest := []) (kd := 7) (k := 0) (ci := 2) ⟨hx, hb, hml, hown, hts⟩ (c_X2_thrown l g ad σ τ (w.1, 1)) (cwV 0 hts gL_law_X2_thrown rfl rfl rfl (by decide +kernel) ⟨Nat.le_of_ble_eq_true rfl, Nat.le_of_ble_eq_true rfl⟩) hK hU (bx_L0 (by omega)) rfl rfl rfl hl.1 rfl (Nat.le_of_ble_eq_true rfl) dL_law_1220 ⟨by show _ ≤ 694788; omega, by show _ ≤ 7011740; omega⟩ ?_
    refine W.eq (g2 := F0 m 1223 ls [.int (iI 1)]) rfl ?_
    refine lv_iload hx hb dL_law_1223 (lv_at hl 1 rfl) ?_
    refine li_icmp_eq (tgt := 1230) hx hb (by unfold iR; omega) (by unfold iR; omega) dL_law_1225 (by decide) (fun _ => ?_) (fun h => absurd (by decide) h)
    refine lv_iload hx hb dL_law_1230 (lv_at hl 1 rfl) ?_
    refine li_if_ne (tgt := 1247) hx hb (by unfold iR; omega) dL_law_1232 (by decide) (fun _ => ?_) (fun h => absurd h (by decide))
    refine lv_goto (tgt := 1343) hx hb dL_law_1247 (by decide) ?_
    refine W.widen (k := cells + 3) (n := slots + 12) (by omega) (by omega) ?_
    exact kk ad σ τ (w.1, 1) H locs (hI) hU hF hlc ls (lv_sub hl [2, 3, 4, 5, 6] rfl)
  · refine lv_aload_n hx hb dL_law_1170 rfl (lv_at hl 2 rfl) ?_
    refine lv_aload_n hx hb dL_law_1171 rfl (lv_at hl 1 rfl) ?_
    refine lv_iload hx hb dL_law_1172 (lv_at hl 0 rfl) ?_
    refine li_iconst hx hb dL_law_1174 ?_
    refine li_iadd hx hb dL_law_1175 ?_
    refine bl_scr hx hb hX hbl hgs hF hlc hL (by omega) (by omega) hz1 dL_law_1176 ?_
    refine lv_aload_n hx hb dL_law_1177 rfl (lv_at hl 1 rfl) ?_
    refine lv_iload hx hb dL_law_1178 (lv_at hl 0 rfl) ?_
    refine li_iconst hx hb dL_law_1180 ?_
    refine li_iadd hx hb dL_law_1181 ?_
    refine bl_scr hx hb hX hbl hgs hF hlc hL (by omega) (by omega) hz2 dL_law_1182 ?_
    refine lv_aload_n hx hb dL_law_1183 rfl (lv_at hl 1 rfl) ?_
    refine lv_iload hx hb dL_law_1184 (lv_at hl 0 rfl) ?_
    refine li_iconst hx hb dL_law_1186 ?_
    refine li_iadd hx hb dL_law_1187 ?_
    refine bl_scr hx hb hX hbl hgs hF hlc hL (by omega) (by omega) hz3 dL_law_1188 ?_
    refine lv_aload_n hx hb dL_law_1189 rfl (lv_at hl 4 rfl) ?_
    refine bk_S (As := [.ref (ad 0 0), .int (iI z1), .int (iI z2), .int (iI z3), .ref (ad 17 0)]) (rest := []) ⟨hx, hb, hml, hown, hts⟩ (lh_shift_t l g ad σ τ w sa z1 z2 z3 (by unfold iR; omega) (by unfold iR; omega) (by unfold iR; omega) hB (by omega)) (vx_cwSW 5 hts gL_law_L_shift rfl rfl rfl (by decide +kernel) ⟨Nat.le_of_ble_eq_true rfl, Nat.le_of_ble_eq_true rfl⟩) (lw_pre hK hU hT hF hNc) hlc rfl hl.1 rfl (Nat.le_of_ble_eq_true rfl) dL_law_1190 ⟨by show _ ≤ 694788; omega, by show _ ≤ 7011740; omega⟩ (fun H locs hU hF1 hlc => ?_)
    have hF := hF.tr hF1
    have hU : bx_U g ad (setF (setF σ 12 (fb σ z1 z2 (fun i => bLo σ z1 i z2) (fun t => σ 12 t 0) (σ 0 0 0))) 13 (fb σ z1 z2 (fun i => bHi σ z1 i z2) (fun t => σ 13 t 0) (σ 0 0 0))) τ ((iI (shR (fsh (fb σ z1 z2 (fun i => bLo σ z1 i z2) (fun t => σ 12 t 0) (σ 0 0 0)) (fb σ z1 z2 (fun i => bHi σ z1 i z2) (fun t => σ 13 t 0) (σ 0 0 0)) (cnt (blkP σ z1 z2) 0 (σ 0 0 0)) 1) (fsh (fb σ z1 z2 (fun i => bLo σ z1 i z2) (fun t => σ 12 t 0) (σ 0 0 0)) (fb σ z1 z2 (fun i => bHi σ z1 i z2) (fun t => σ 13 t 0) (σ 0 0 0)) (cnt (blkP σ z1 z2) 0 (σ 0 0 0)) 0) z3 (stS σ z1 z2))).toInt64, w.2) H := hU
    refine lv_istore (lv' := [(5, .int (iI 0)), (4, .int (iI i)), (0, .ref b), (1, .ref (ad 0 0)), (2, .ref (ad 7 0)), (3, .ref (ad 17 0))]) hx hb dL_law_1193 hl (by decide) rfl (fun ls hl => ?_)
    refine lv_aload_n hx hb dL_law_1195 rfl (lv_at hl 4 rfl) ?_
    refine lv_aload_n hx hb dL_law_1196 rfl (lv_at hl 2 rfl) ?_
    refine lv_iload hx hb dL_law_1197 (lv_at hl 1 rfl) ?_
    refine li_iconst hx hb dL_law_1199 ?_
    refine li_iadd hx hb dL_law_1200 ?_
    refine bl_scr hx hb hX hbl hgs hF hlc hL (by omega) (by omega) hz1 dL_law_1201 ?_
    refine lv_aload_n hx hb dL_law_1202 rfl (lv_at hl 2 rfl) ?_
    refine lv_iload hx hb dL_law_1203 (lv_at hl 1 rfl) ?_
    refine li_iconst hx hb dL_law_1205 ?_
    refine li_iadd hx hb dL_law_1206 ?_
    refine bl_scr hx hb hX hbl hgs hF hlc hL (by omega) (by omega) hz2 dL_law_1207 ?_
    refine lv_aload_n hx hb dL_law_1208 rfl (lv_at hl 2 rfl) ?_
    refine lv_iload hx hb dL_law_1209 (lv_at hl 1 rfl) ?_
    refine li_iconst hx hb dL_law_1211 ?_
    refine li_iadd hx hb dL_law_1212 ?_
    refine bl_scr hx hb hX hbl hgs hF hlc hL (by omega) (by omega) hz3 dL_law_1213 ?_
    refine bc_VH (As := [.int (iI z1), .int (iI z2), .int (iI z3)]) (rest := []) (kd := 7) (k := 0) (ci := 2) ⟨hx, hb, hml, hown, hts⟩ (c_X2_shift_t l g ad (setF (setF σ 12 (fb σ z1 z2 (fun i => bLo σ z1 i z2) (fun t => σ 12 t 0) (σ 0 0 0))) 13 (fb σ z1 z2 (fun i => bHi σ z1 i z2) (fun t => σ 13 t 0) (σ 0 0 0))) τ ((iI (shR (fsh (fb σ z1 z2 (fun i => bLo σ z1 i z2) (fun t => σ 12 t 0) (σ 0 0 0)) (fb σ z1 z2 (fun i => bHi σ z1 i z2) (fun t => σ 13 t 0) (σ 0 0 0)) (cnt (blkP σ z1 z2) 0 (σ 0 0 0)) 1) (fsh (fb σ z1 z2 (fun i => bLo σ z1 i z2) (fun t => σ 12 t 0) (σ 0 0 0)) (fb σ z1 z2 (fun i => bHi σ z1 i z2) (fun t => σ 13 t 0) (σ 0 0 0)) (cnt (blkP σ z1 z2) 0 (σ 0 0 0)) 0) z3 (stS σ z1 z2))).toInt64, w.2) z1 z2 z3 (by unfold iR; omega) (by unfold iR; omega) (by unfold iR; omega) hBt hM (by omega) (by omega)) (cwV 3 hts gL_law_X2_shift rfl rfl rfl (by decide +kernel) ⟨Nat.le_of_ble_eq_true rfl, Nat.le_of_ble_eq_true rfl⟩) hK hU hlc (bx_L0 (by omega)) rfl rfl rfl hl.1 rfl (Nat.le_of_ble_eq_true rfl) dL_law_1214 ⟨by show _ ≤ 694788; omega, by show _ ≤ 7011740; omega⟩ (fun H locs hP hF1 hlc => ?_)
    have hF := hF.tr hF1
    obtain ⟨t1, hq1, hU⟩ := hP
    refine lv_istore (lv' := [(6, .int (iI (msh (frA τ z1 z2) z3 0))), (5, .int (iI 0)), (4, .int (iI i)), (0, .ref b), (1, .ref (ad 0 0)), (2, .ref (ad 7 0)), (3, .ref (ad 17 0))]) hx hb dL_law_1217 hl (by decide) rfl (fun ls hl => ?_)
    refine lv_aload_n hx hb dL_law_1219 rfl (lv_at hl 5 rfl) ?_
    refine bc_V (As := []) (rest := []) (kd := 7) (k := 0) (ci := 2) ⟨hx, hb, hml, hown, hts⟩ (c_X2_thrown l g ad (setF (setF σ 12 (fb σ z1 z2 (fun i => bLo σ z1 i z2) (fun t => σ 12 t 0) (σ 0 0 0))) 13 (fb σ z1 z2 (fun i => bHi σ z1 i z2) (fun t => σ 13 t 0) (σ 0 0 0))) t1 (((iI (shR (fsh (fb σ z1 z2 (fun i => bLo σ z1 i z2) (fun t => σ 12 t 0) (σ 0 0 0)) (fb σ z1 z2 (fun i => bHi σ z1 i z2) (fun t => σ 13 t 0) (σ 0 0 0)) (cnt (blkP σ z1 z2) 0 (σ 0 0 0)) 1) (fsh (fb σ z1 z2 (fun i => bLo σ z1 i z2) (fun t => σ 12 t 0) (σ 0 0 0)) (fb σ z1 z2 (fun i => bHi σ z1 i z2) (fun t => σ 13 t 0) (σ 0 0 0)) (cnt (blkP σ z1 z2) 0 (σ 0 0 0)) 0) z3 (stS σ z1 z2))).toInt64, w.2).1, 0)) (cwV 0 hts gL_law_X2_thrown rfl rfl rfl (by decide +kernel) ⟨Nat.le_of_ble_eq_true rfl, Nat.le_of_ble_eq_true rfl⟩) hK hU (bx_L0 (by omega)) rfl rfl rfl hl.1 rfl (Nat.le_of_ble_eq_true rfl) dL_law_1220 ⟨by show _ ≤ 694788; omega, by show _ ≤ 7011740; omega⟩ ?_
    refine W.eq (g2 := F0 m 1223 ls [.int (iI 0)]) rfl ?_
    refine lv_iload hx hb dL_law_1223 (lv_at hl 1 rfl) ?_
    refine li_icmp_eq (tgt := 1230) hx hb (by unfold iR; omega) (by unfold iR; omega) dL_law_1225 (by decide) (fun _ => ?_) (fun h => absurd (by decide) h)
    refine lv_iload hx hb dL_law_1230 (lv_at hl 1 rfl) ?_
    refine li_if_ne (tgt := 1247) hx hb (by unfold iR; omega) dL_law_1232 (by decide) (fun h => absurd (by decide) h) (fun _ => ?_)
    refine lv_aload_n hx hb dL_law_1235 rfl (lv_at hl 6 rfl) ?_
    refine li_iconst hx hb dL_law_1236 ?_
    refine bl_17 hx hb hK hU dL_law_1237 ?_
    refine W.eq (g2 := F0 m 1238 ls [.long ((iI (shR (fsh (fb σ z1 z2 (fun i => bLo σ z1 i z2) (fun t => σ 12 t 0) (σ 0 0 0)) (fb σ z1 z2 (fun i => bHi σ z1 i z2) (fun t => σ 13 t 0) (σ 0 0 0)) (cnt (blkP σ z1 z2) 0 (σ 0 0 0)) 1) (fsh (fb σ z1 z2 (fun i => bLo σ z1 i z2) (fun t => σ 12 t 0) (σ 0 0 0)) (fb σ z1 z2 (fun i => bHi σ z1 i z2) (fun t => σ 13 t 0) (σ 0 0 0)) (cnt (blkP σ z1 z2) 0 (σ 0 0 0)) 0) z3 (stS σ z1 z2))).toInt64)]) rfl ?_
    refine lv_iload hx hb dL_law_1238 (lv_at hl 0 rfl) ?_
    refine lv_i2l (v := (iI (msh (frA τ z1 z2) z3 0)).toInt64) hx hb dL_law_1240 rfl ?_
    refine bl_lcmp hx hb (congrArg (fun z => (iI z).toInt64) (v_shift hI (p := z1) (a := z2) (mo := z3) ⟨by omega, by omega, by omega⟩ ⟨by omega, by omega⟩ (by omega) _ _)) dL_law_1241 ?_
    refine li_if_eq (tgt := 1247) hx hb (by unfold iR; omega) dL_law_1242 (by decide) (fun _ => ?_) (fun h => absurd (by decide) h)
    refine lv_goto (tgt := 1343) hx hb dL_law_1247 (by decide) ?_
    refine W.widen (k := cells + 3) (n := slots + 12) (by omega) (by omega) ?_
    exact kk ad (setF (setF σ 12 (fb σ z1 z2 (fun i => bLo σ z1 i z2) (fun t => σ 12 t 0) (σ 0 0 0))) 13 (fb σ z1 z2 (fun i => bHi σ z1 i z2) (fun t => σ 13 t 0) (σ 0 0 0))) t1 (((iI (shR (fsh (fb σ z1 z2 (fun i => bLo σ z1 i z2) (fun t => σ 12 t 0) (σ 0 0 0)) (fb σ z1 z2 (fun i => bHi σ z1 i z2) (fun t => σ 13 t 0) (σ 0 0 0)) (cnt (blkP σ z1 z2) 0 (σ 0 0 0)) 1) (fsh (fb σ z1 z2 (fun i => bLo σ z1 i z2) (fun t => σ 12 t 0) (σ 0 0 0)) (fb σ z1 z2 (fun i => bHi σ z1 i z2) (fun t => σ 13 t 0) (σ 0 0 0)) (cnt (blkP σ z1 z2) 0 (σ 0 0 0)) 0) z3 (stS σ z1 z2))).toInt64, w.2).1, 0) H locs (inv_mv (inv_c hI (ag_set2 σ _ _)) hq1) hU hF hlc ls (lv_sub hl [2, 3, 4, 5, 6] rfl)

set_option maxHeartbeats 4000000 in
set_option maxRecDepth 100000 in
theorem ls_hull {p : Program} {l : Launch} {e : Env} {s : State} {m : MethodId} {below : List Frame} {meth : Method} {c : Code} {b L : Nat} {xs : Nat → Int32} {g : bxG} {sa : Nat → Nat} (C : LC p l s m meth c b L xs g sa) {Q : State → Prop} {ad : bxA} {σ τ : bxS} {w : bxW} {H : Heap} {locs : List Loc} {cells slots : Nat} (hI : inv σ τ) (hU : bx_U g ad σ τ w H) (hF : bx_F g s.heap H) (hlc : bx_Lc g locs) {i : Int} (hi : 0 ≤ i ∧ i + 8 ≤ L) (hc : cells + 3 ≤ 694788 ∧ slots + 12 ≤ 7011740) {ls : Array Slot} (hl : lv_has ls 8 [(4, .int (iI i)), (0, .ref b), (1, .ref (ad 0 0)), (2, .ref (ad 7 0)), (3, .ref (ad 17 0))])
    (kk : ∀ (ad : bxA) (σ τ : bxS) (w : bxW) (H : Heap) (locs : List Loc), inv σ τ → bx_U g ad σ τ w H → bx_F g s.heap H → bx_Lc g locs → ∀ ls : Array Slot, lv_has ls 8 [(4, .int (iI i)), (0, .ref b), (1, .ref (ad 0 0)), (2, .ref (ad 7 0)), (3, .ref (ad 17 0))] → W p l e room_1 s m #[Value.ref b] below meth c H locs (cells + 3) (slots + 12) Q (F0 m 1343 ls [])) : W p l e room_1 s m #[Value.ref b] below meth c H locs cells slots Q (F0 m 1250 ls []) := by
  obtain ⟨⟨hx, hb, hr, hml, hown⟩, hts, hX, hbl, hlocks, hK, hT, hNc, hgs, hst, hL⟩ := C
  have hB := hI.B
  have hBt := hI.2.1
  have hM := hI.2.2.1
  have h15 := hI.2.2.2
  have hm0 := bB0 hBt
  have hmd := v_made hI
  obtain ⟨z1, hz1⟩ : ∃ z, xz xs (i + 1) = z := ⟨_, rfl⟩
  have hy1 : -2147483648 ≤ z1 ∧ z1 < 2147483648 := by rw [← hz1]; exact iR_self _
  obtain ⟨z2, hz2⟩ : ∃ z, xz xs (i + 2) = z := ⟨_, rfl⟩
  have hy2 : -2147483648 ≤ z2 ∧ z2 < 2147483648 := by rw [← hz2]; exact iR_self _
  obtain ⟨z3, hz3⟩ : ∃ z, xz xs (i + 3) = z := ⟨_, rfl⟩
  have hy3 : -2147483648 ≤ z3 ∧ z3 < 2147483648 := by rw [← hz3]; exact iR_self _
  have hth1 := v_th hI z1
  by_cases hg : (0 ≤ z1 ∧ z1 < 60 ∧ τ 2 z1 0 ≠ 0) ∧ (0 ≤ z2 ∧ z2 ≤ 2) ∧ 0 ≤ z3 ∧ z3 ≤ 1
  · refine lv_aload_n hx hb dL_law_1250 rfl (lv_at hl 2 rfl) ?_
    refine lv_aload_n hx hb dL_law_1251 rfl (lv_at hl 1 rfl) ?_
    refine lv_iload hx hb dL_law_1252 (lv_at hl 0 rfl) ?_
    refine li_iconst hx hb dL_law_1254 ?_
    refine li_iadd hx hb dL_law_1255 ?_
    refine bl_scr hx hb hX hbl hgs hF hlc hL (by omega) (by omega) hz1 dL_law_1256 ?_
    refine lv_aload_n hx hb dL_law_1257 rfl (lv_at hl 1 rfl) ?_
    refine lv_iload hx hb dL_law_1258 (lv_at hl 0 rfl) ?_
    refine li_iconst hx hb dL_law_1260 ?_
    refine li_iadd hx hb dL_law_1261 ?_
    refine bl_scr hx hb hX hbl hgs hF hlc hL (by omega) (by omega) hz2 dL_law_1262 ?_
    refine lv_aload_n hx hb dL_law_1263 rfl (lv_at hl 1 rfl) ?_
    refine lv_iload hx hb dL_law_1264 (lv_at hl 0 rfl) ?_
    refine li_iconst hx hb dL_law_1266 ?_
    refine li_iadd hx hb dL_law_1267 ?_
    refine bl_scr hx hb hX hbl hgs hF hlc hL (by omega) (by omega) hz3 dL_law_1268 ?_
    refine lv_aload_n hx hb dL_law_1269 rfl (lv_at hl 4 rfl) ?_
    refine bk_S (As := [.ref (ad 0 0), .int (iI z1), .int (iI z2), .int (iI z3), .ref (ad 17 0)]) (rest := []) ⟨hx, hb, hml, hown, hts⟩ (lh_hull_t l g ad σ τ w sa z1 z2 z3 (by unfold iR; omega) (by unfold iR; omega) (by unfold iR; omega) hB (by omega)) (vx_cwSW 5 hts gL_law_L_hull rfl rfl rfl (by decide +kernel) ⟨Nat.le_of_ble_eq_true rfl, Nat.le_of_ble_eq_true rfl⟩) (lw_pre hK hU hT hF hNc) hlc rfl hl.1 rfl (Nat.le_of_ble_eq_true rfl) dL_law_1270 ⟨by show _ ≤ 694788; omega, by show _ ≤ 7011740; omega⟩ (fun H locs hU hF1 hlc => ?_)
    have hF := hF.tr hF1
    have hU : bx_U g ad σ τ ((iI (if z3 = 0 then hLo σ z1 z2 else hHi σ z1 z2)).toInt64, w.2) H := hU
    refine lv_istore (lv' := [(5, .int (iI 0)), (4, .int (iI i)), (0, .ref b), (1, .ref (ad 0 0)), (2, .ref (ad 7 0)), (3, .ref (ad 17 0))]) hx hb dL_law_1273 hl (by decide) rfl (fun ls hl => ?_)
    refine lv_aload_n hx hb dL_law_1275 rfl (lv_at hl 4 rfl) ?_
    refine lv_aload_n hx hb dL_law_1276 rfl (lv_at hl 2 rfl) ?_
    refine lv_iload hx hb dL_law_1277 (lv_at hl 1 rfl) ?_
    refine li_iconst hx hb dL_law_1279 ?_
    refine li_iadd hx hb dL_law_1280 ?_
    refine bl_scr hx hb hX hbl hgs hF hlc hL (by omega) (by omega) hz1 dL_law_1281 ?_
    refine lv_aload_n hx hb dL_law_1282 rfl (lv_at hl 2 rfl) ?_
    refine lv_iload hx hb dL_law_1283 (lv_at hl 1 rfl) ?_
    refine li_iconst hx hb dL_law_1285 ?_
    refine li_iadd hx hb dL_law_1286 ?_
    refine bl_scr hx hb hX hbl hgs hF hlc hL (by omega) (by omega) hz2 dL_law_1287 ?_
    refine lv_aload_n hx hb dL_law_1288 rfl (lv_at hl 2 rfl) ?_
    refine lv_iload hx hb dL_law_1289 (lv_at hl 1 rfl) ?_
    refine li_iconst hx hb dL_law_1291 ?_
    refine li_iadd hx hb dL_law_1292 ?_
    refine bl_scr hx hb hX hbl hgs hF hlc hL (by omega) (by omega) hz3 dL_law_1293 ?_
    refine bc_VW (As := [.int (iI z1), .int (iI z2), .int (iI z3)]) (rest := []) (kd := 7) (k := 0) (ci := 2) ⟨hx, hb, hml, hown, hts⟩ (c_X2_hull_t l g ad σ τ ((iI (if z3 = 0 then hLo σ z1 z2 else hHi σ z1 z2)).toInt64, w.2) z1 z2 z3 (by unfold iR; omega) (by unfold iR; omega) (by unfold iR; omega) hBt hM (by omega)) (cwV 3 hts gL_law_X2_hull rfl rfl rfl (by decide +kernel) ⟨Nat.le_of_ble_eq_true rfl, Nat.le_of_ble_eq_true rfl⟩) hK hU hlc (bx_L0 (by omega)) rfl rfl rfl hl.1 rfl (Nat.le_of_ble_eq_true rfl) dL_law_1294 ⟨by show _ ≤ 694788; omega, by show _ ≤ 7011740; omega⟩ (fun H locs hU hF1 hlc => ?_)
    have hF := hF.tr hF1
    refine lv_istore (lv' := [(6, .int (iI (if z3 = 0 then mH (eff τ) z1 z2 0 0 else mH (eff τ) z1 z2 1 0))), (5, .int (iI 0)), (4, .int (iI i)), (0, .ref b), (1, .ref (ad 0 0)), (2, .ref (ad 7 0)), (3, .ref (ad 17 0))]) hx hb dL_law_1297 hl (by decide) rfl (fun ls hl => ?_)
    refine lv_aload_n hx hb dL_law_1299 rfl (lv_at hl 5 rfl) ?_
    refine bc_V (As := []) (rest := []) (kd := 7) (k := 0) (ci := 2) ⟨hx, hb, hml, hown, hts⟩ (c_X2_thrown l g ad σ τ (((iI (if z3 = 0 then hLo σ z1 z2 else hHi σ z1 z2)).toInt64, w.2).1, 0)) (cwV 0 hts gL_law_X2_thrown rfl rfl rfl (by decide +kernel) ⟨Nat.le_of_ble_eq_true rfl, Nat.le_of_ble_eq_true rfl⟩) hK hU (bx_L0 (by omega)) rfl rfl rfl hl.1 rfl (Nat.le_of_ble_eq_true rfl) dL_law_1300 ⟨by show _ ≤ 694788; omega, by show _ ≤ 7011740; omega⟩ ?_
    refine W.eq (g2 := F0 m 1303 ls [.int (iI 0)]) rfl ?_
    refine lv_iload hx hb dL_law_1303 (lv_at hl 1 rfl) ?_
    refine li_icmp_eq (tgt := 1310) hx hb (by unfold iR; omega) (by unfold iR; omega) dL_law_1305 (by decide) (fun _ => ?_) (fun h => absurd (by decide) h)
    refine lv_iload hx hb dL_law_1310 (lv_at hl 1 rfl) ?_
    refine li_if_ne (tgt := 1327) hx hb (by unfold iR; omega) dL_law_1312 (by decide) (fun h => absurd (by decide) h) (fun _ => ?_)
    refine lv_aload_n hx hb dL_law_1315 rfl (lv_at hl 6 rfl) ?_
    refine li_iconst hx hb dL_law_1316 ?_
    refine bl_17 hx hb hK hU dL_law_1317 ?_
    refine W.eq (g2 := F0 m 1318 ls [.long ((iI (if z3 = 0 then hLo σ z1 z2 else hHi σ z1 z2)).toInt64)]) rfl ?_
    refine lv_iload hx hb dL_law_1318 (lv_at hl 0 rfl) ?_
    refine lv_i2l (v := (iI (if z3 = 0 then mH (eff τ) z1 z2 0 0 else mH (eff τ) z1 z2 1 0)).toInt64) hx hb dL_law_1320 rfl ?_
    refine bl_lcmp hx hb (congrArg (fun z => (iI z).toInt64) (v_hull hI ⟨by omega, by omega, by omega⟩ z2 z3)) dL_law_1321 ?_
    refine li_if_eq (tgt := 1327) hx hb (by unfold iR; omega) dL_law_1322 (by decide) (fun _ => ?_) (fun h => absurd (by decide) h)
    refine lv_goto (tgt := 1343) hx hb dL_law_1327 (by decide) ?_
    refine W.widen (k := cells + 3) (n := slots + 12) (by omega) (by omega) ?_
    exact kk ad σ τ (((iI (if z3 = 0 then hLo σ z1 z2 else hHi σ z1 z2)).toInt64, w.2).1, 0) H locs (hI) hU hF hlc ls (lv_sub hl [2, 3, 4, 5, 6] rfl)
  · refine lv_aload_n hx hb dL_law_1250 rfl (lv_at hl 2 rfl) ?_
    refine lv_aload_n hx hb dL_law_1251 rfl (lv_at hl 1 rfl) ?_
    refine lv_iload hx hb dL_law_1252 (lv_at hl 0 rfl) ?_
    refine li_iconst hx hb dL_law_1254 ?_
    refine li_iadd hx hb dL_law_1255 ?_
    refine bl_scr hx hb hX hbl hgs hF hlc hL (by omega) (by omega) hz1 dL_law_1256 ?_
    refine lv_aload_n hx hb dL_law_1257 rfl (lv_at hl 1 rfl) ?_
    refine lv_iload hx hb dL_law_1258 (lv_at hl 0 rfl) ?_
    refine li_iconst hx hb dL_law_1260 ?_
    refine li_iadd hx hb dL_law_1261 ?_
    refine bl_scr hx hb hX hbl hgs hF hlc hL (by omega) (by omega) hz2 dL_law_1262 ?_
    refine lv_aload_n hx hb dL_law_1263 rfl (lv_at hl 1 rfl) ?_
    refine lv_iload hx hb dL_law_1264 (lv_at hl 0 rfl) ?_
    refine li_iconst hx hb dL_law_1266 ?_
    refine li_iadd hx hb dL_law_1267 ?_
    refine bl_scr hx hb hX hbl hgs hF hlc hL (by omega) (by omega) hz3 dL_law_1268 ?_
    refine lv_aload_n hx hb dL_law_1269 rfl (lv_at hl 4 rfl) ?_
    refine bk_S (As := [.ref (ad 0 0), .int (iI z1), .int (iI z2), .int (iI z3), .ref (ad 17 0)]) (rest := []) ⟨hx, hb, hml, hown, hts⟩ (lh_hull_f l hst g ad σ τ w sa z1 z2 z3 (by unfold iR; omega) (by unfold iR; omega) (by unfold iR; omega) hB (by omega)) (vx_cwSW 5 hts gL_law_L_hull rfl rfl rfl (by decide +kernel) ⟨Nat.le_of_ble_eq_true rfl, Nat.le_of_ble_eq_true rfl⟩) (lw_pre hK hU hT hF hNc) hlc rfl hl.1 rfl (Nat.le_of_ble_eq_true rfl) dL_law_1270 ⟨by show _ ≤ 694788; omega, by show _ ≤ 7011740; omega⟩ (fun H locs hU hF1 hlc => ?_)
    have hF := hF.tr hF1
    have hU : bx_U g ad σ τ w H := hU
    refine lv_istore (lv' := [(5, .int (iI 1)), (4, .int (iI i)), (0, .ref b), (1, .ref (ad 0 0)), (2, .ref (ad 7 0)), (3, .ref (ad 17 0))]) hx hb dL_law_1273 hl (by decide) rfl (fun ls hl => ?_)
    refine lv_aload_n hx hb dL_law_1275 rfl (lv_at hl 4 rfl) ?_
    refine lv_aload_n hx hb dL_law_1276 rfl (lv_at hl 2 rfl) ?_
    refine lv_iload hx hb dL_law_1277 (lv_at hl 1 rfl) ?_
    refine li_iconst hx hb dL_law_1279 ?_
    refine li_iadd hx hb dL_law_1280 ?_
    refine bl_scr hx hb hX hbl hgs hF hlc hL (by omega) (by omega) hz1 dL_law_1281 ?_
    refine lv_aload_n hx hb dL_law_1282 rfl (lv_at hl 2 rfl) ?_
    refine lv_iload hx hb dL_law_1283 (lv_at hl 1 rfl) ?_
    refine li_iconst hx hb dL_law_1285 ?_
    refine li_iadd hx hb dL_law_1286 ?_
    refine bl_scr hx hb hX hbl hgs hF hlc hL (by omega) (by omega) hz2 dL_law_1287 ?_
    refine lv_aload_n hx hb dL_law_1288 rfl (lv_at hl 2 rfl) ?_
    refine lv_iload hx hb dL_law_1289 (lv_at hl 1 rfl) ?_
    refine li_iconst hx hb dL_law_1291 ?_
    refine li_iadd hx hb dL_law_1292 ?_
    refine bl_scr hx hb hX hbl hgs hF hlc hL (by omega) (by omega) hz3 dL_law_1293 ?_
    refine bc_VW (As := [.int (iI z1), .int (iI z2), .int (iI z3)]) (rest := []) (kd := 7) (k := 0) (ci := 2) ⟨hx, hb, hml, hown, hts⟩ (c_X2_hull_f l g ad σ τ w z1 z2 z3 (by unfold iR; omega) (by unfold iR; omega) (by unfold iR; omega) hBt hM (by omega)) (cwV 3 hts gL_law_X2_hull rfl rfl rfl (by decide +kernel) ⟨Nat.le_of_ble_eq_true rfl, Nat.le_of_ble_eq_true rfl⟩) hK hU hlc (bx_L0 (by omega)) rfl rfl rfl hl.1 rfl (Nat.le_of_ble_eq_true rfl) dL_law_1294 ⟨by show _ ≤ 694788; omega, by show _ ≤ 7011740; omega⟩ (fun H locs hU hF1 hlc => ?_)
    have hF := hF.tr hF1
    refine lv_istore (lv' := [(6, .int (iI 0)), (5, .int (iI 1)), (4, .int (iI i)), (0, .ref b), (1, .ref (ad 0 0)), (2, .ref (ad 7 0)), (3, .ref (ad 17 0))]) hx hb dL_law_1297 hl (by decide) rfl (fun ls hl => ?_)
    refine lv_aload_n hx hb dL_law_1299 rfl (lv_at hl 5 rfl) ?_
    refine bc_V (As := []) (rest := []) (kd := 7) (k := 0) (ci := 2) ⟨hx, hb, hml, hown, hts⟩ (c_X2_thrown l g ad σ τ (w.1, 1)) (cwV 0 hts gL_law_X2_thrown rfl rfl rfl (by decide +kernel) ⟨Nat.le_of_ble_eq_true rfl, Nat.le_of_ble_eq_true rfl⟩) hK hU (bx_L0 (by omega)) rfl rfl rfl hl.1 rfl (Nat.le_of_ble_eq_true rfl) dL_law_1300 ⟨by show _ ≤ 694788; omega, by show _ ≤ 7011740; omega⟩ ?_
    refine W.eq (g2 := F0 m 1303 ls [.int (iI 1)]) rfl ?_
    refine lv_iload hx hb dL_law_1303 (lv_at hl 1 rfl) ?_
    refine li_icmp_eq (tgt := 1310) hx hb (by unfold iR; omega) (by unfold iR; omega) dL_law_1305 (by decide) (fun _ => ?_) (fun h => absurd (by decide) h)
    refine lv_iload hx hb dL_law_1310 (lv_at hl 1 rfl) ?_
    refine li_if_ne (tgt := 1327) hx hb (by unfold iR; omega) dL_law_1312 (by decide) (fun _ => ?_) (fun h => absurd h (by decide))
    refine lv_goto (tgt := 1343) hx hb dL_law_1327 (by decide) ?_
    refine W.widen (k := cells + 3) (n := slots + 12) (by omega) (by omega) ?_
    exact kk ad σ τ (w.1, 1) H locs (hI) hU hF hlc ls (lv_sub hl [2, 3, 4, 5, 6] rfl)

set_option maxHeartbeats 4000000 in
set_option maxRecDepth 100000 in
theorem ls_parts {p : Program} {l : Launch} {e : Env} {s : State} {m : MethodId} {below : List Frame} {meth : Method} {c : Code} {b L : Nat} {xs : Nat → Int32} {g : bxG} {sa : Nat → Nat} (C : LC p l s m meth c b L xs g sa) {Q : State → Prop} {ad : bxA} {σ τ : bxS} {w : bxW} {H : Heap} {locs : List Loc} {cells slots : Nat} (hI : inv σ τ) (hU : bx_U g ad σ τ w H) (hF : bx_F g s.heap H) (hlc : bx_Lc g locs) {i : Int} (hi : 0 ≤ i ∧ i + 8 ≤ L) (hc : cells + 3 ≤ 694788 ∧ slots + 12 ≤ 7011740) {ls : Array Slot} (hl : lv_has ls 8 [(4, .int (iI i)), (0, .ref b), (1, .ref (ad 0 0)), (2, .ref (ad 7 0)), (3, .ref (ad 17 0))])
    (kk : ∀ (ad : bxA) (σ τ : bxS) (w : bxW) (H : Heap) (locs : List Loc), inv σ τ → bx_U g ad σ τ w H → bx_F g s.heap H → bx_Lc g locs → ∀ ls : Array Slot, lv_has ls 8 [(4, .int (iI i)), (0, .ref b), (1, .ref (ad 0 0)), (2, .ref (ad 7 0)), (3, .ref (ad 17 0))] → W p l e room_1 s m #[Value.ref b] below meth c H locs (cells + 3) (slots + 12) Q (F0 m 1343 ls [])) : W p l e room_1 s m #[Value.ref b] below meth c H locs cells slots Q (F0 m 1330 ls []) := by
  obtain ⟨⟨hx, hb, hr, hml, hown⟩, hts, hX, hbl, hlocks, hK, hT, hNc, hgs, hst, hL⟩ := C
  have hB := hI.B
  have hBt := hI.2.1
  have hM := hI.2.2.1
  have h15 := hI.2.2.2
  have hm0 := bB0 hBt
  have hmd := v_made hI
  refine lv_aload_n hx hb dL_law_1330 rfl (lv_at hl 2 rfl) ?_
  refine bc_V (As := []) (rest := []) (kd := 0) (k := 0) (ci := 1) ⟨hx, hb, hml, hown, hts⟩ (c_X1_parts l g ad σ τ w ) (cwV 0 hts gL_law_X1_parts rfl rfl rfl (by decide +kernel) ⟨Nat.le_of_ble_eq_true rfl, Nat.le_of_ble_eq_true rfl⟩) hK hU (bx_L0 (by omega)) rfl rfl rfl hl.1 rfl (Nat.le_of_ble_eq_true rfl) dL_law_1331 ⟨by show _ ≤ 694788; omega, by show _ ≤ 7011740; omega⟩ ?_
  refine lv_aload_n hx hb dL_law_1334 rfl (lv_at hl 3 rfl) ?_
  refine bc_VW (As := []) (rest := [.int (iI (σ 1 0 0))]) (kd := 7) (k := 0) (ci := 2) ⟨hx, hb, hml, hown, hts⟩ (c_X2_parts_t l g ad σ τ w ) (cwV 0 hts gL_law_X2_parts rfl rfl rfl (by decide +kernel) ⟨Nat.le_of_ble_eq_true rfl, Nat.le_of_ble_eq_true rfl⟩) hK hU hlc (bx_L0 (by omega)) rfl rfl rfl hl.1 rfl (Nat.le_of_ble_eq_true rfl) dL_law_1335 ⟨by show _ ≤ 694788; omega, by show _ ≤ 7011740; omega⟩ (fun H locs hU hF1 hlc => ?_)
  have hF := hF.tr hF1
  refine bl_same (tgt := 1343) hx hb (by rw [hI.1 1 (by omega)]) dL_law_1338 (by decide) ?_
  refine W.widen (k := cells + 3) (n := slots + 12) (by omega) (by omega) ?_
  exact kk ad σ τ (w.1, 0) H locs (hI) hU hF hlc ls (lv_sub hl [0, 1, 2, 3, 4] rfl)
