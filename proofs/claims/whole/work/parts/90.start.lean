def s0S : bxS := fun _ _ _ => 0
def s0T : bxS := fun f _ _ => if f = 15 then -1 else 0
theorem inv_0 : inv s0S s0T := by
  refine ⟨fun f hf => ?_, ⟨⟨by decide, by decide⟩, fun k _ _ => Or.inl rfl, fun i _ _ => Or.inl rfl, fun k hk => absurd rfl hk.2.2⟩, ⟨⟨by decide, by decide⟩, ⟨by decide, by decide⟩, by decide, by decide⟩, rfl⟩
  funext i a
  show 0 = if f = 15 then (-1 : Int) else 0
  rw [if_neg (by omega)]
theorem bx_start {g : bxG} {H : Heap} (adr : Nat → Nat) (ws : va_W) (hws : ∀ kd, kd < 18 → ws[kd]? = some (adr kd, bx_E g (fun kd _ => adr kd) s0S s0T (0, 0) kd 0)) (hP : va_P g.1 vwCl ws H) (hD : va_D (bq_fr g) ws) : bx_U g (fun kd _ => adr kd) s0S s0T (0, 0) H := by
  have hL : ∀ kd k, bx_L s0S kd k → kd < 18 ∧ k = 0 := fun kd k h => h.elim id (fun q => absurd (q.2.2.2.2) (fun z => z.elim (fun z => z rfl) (fun z => z rfl)))
  refine ⟨fun kd k h => ?_, fun kd k kd' k' h h' e => ?_, fun kd k h => ?_⟩
  · obtain ⟨h1, rfl⟩ := hL kd k h
    exact hP kd _ (hws kd h1)
  · obtain ⟨h1, rfl⟩ := hL kd k h
    obtain ⟨h2, rfl⟩ := hL kd' k' h'
    exact ⟨hD.1 kd kd' _ _ (hws kd h1) (hws kd' h2) e, rfl⟩
  · obtain ⟨h1, rfl⟩ := hL kd k h
    exact hD.2 kd _ (hws kd h1)
theorem arr_of {s : State} {a : ClassId} {k : Class} {comp : ClassId} {ty : FieldType} (h1 : s.vm.classes[a]? = some k) (h2 : k.kind = .array comp ty) : ArrOfT s a ty := fun n z => ⟨fun _ h => (by cases h), k, h1, comp, h2⟩
set_option maxHeartbeats 4000000 in
set_option maxRecDepth 100000 in
theorem lw_known {s : State} {b : Nat} (hts0 : ∀ w ∈ lw_tbl, w.before #[Value.ref b] s = true) : ∃ g : bxG, g.2.2 = s.heap.size ∧ bx_K g s ∧ va_AO RX0 s := by
  have T9 : ∀ (k : Nat) (w : Cond), lw_tbl[k]? = some w → w.before #[Value.ref b] s = true := fun k w h => hts0 w (List.mem_of_getElem? h)
  have hts : ∀ w ∈ wsL_law, w.before #[Value.ref b] s = true := fun w h => hts0 w (lw_in w h)
  obtain ⟨c0, i0, hK0⟩ := u_known (C := RX0) (T := TX0) (N := 6) (n := 6) hts inlX0 (T9 244 _ (by decide +kernel))
  obtain ⟨c1, i1, hK1⟩ := u_known (C := RX1) (T := TX1) (N := 8) (n := 8) hts inlX1 (T9 39 _ (by decide +kernel))
  obtain ⟨c2, i2, hK2⟩ := u_known (C := RX2) (T := TX2) (N := 15) (n := 15) hts inlX2 (T9 429 _ (by decide +kernel))
  obtain ⟨a0, k0, p0, x0, y0, w0⟩ := Cond.arrayClass_spec (T9 74 (.arrayClass .int) (by decide +kernel))
  obtain ⟨a1, k1, p1, x1, y1, w1⟩ := Cond.arrayClass_spec (T9 73 (.arrayClass .boolean) (by decide +kernel))
  obtain ⟨a3, k3, p3, x3, y3, w3⟩ := Cond.arrayClass_spec (T9 617 (.arrayClass .long) (by decide +kernel))
  have hAO : va_AO RX0 s := va_AO.of (T9 47 (.arrayOver (.object RX0)) (by decide +kernel))
  obtain ⟨p2, a2, k2, v2, -, y2, w2, x2⟩ := Cond.arrayOver_spec (va_AO.use (A := #[]) hAO)
  refine ⟨((fun k => if k = 0 then c0 else if k = 1 then c1 else c2, fun k => if k = 0 then i0 else if k = 1 then i1 else i2), fun k => if k = 0 then a0 else if k = 1 then a1 else if k = 2 then a2 else a3, s.heap.size), rfl, ⟨?_, ?_⟩, hAO⟩
  · intro k q hq
    match k, hq with
    | 0, hq => cases hq; exact hK0
    | 1, hq => cases hq; exact hK1
    | 2, hq => cases hq; exact hK2
    | k + 3, hq => simp at hq
  · intro k q hq
    match k, hq with
    | 0, hq => cases hq; exact ⟨arr_of y0 w0, x0⟩
    | 1, hq => cases hq; exact ⟨arr_of y1 w1, x1⟩
    | 2, hq => cases hq; exact ⟨arr_of y2 w2, k2, p2, y2, w2, v2, x2⟩
    | 3, hq => cases hq; exact ⟨arr_of y3 w3, x3⟩
    | k + 4, hq => simp [bx_T] at hq
set_option maxHeartbeats 4000000 in
set_option maxRecDepth 100000 in
theorem lw_throws {s : State} {b : Nat} (hts0 : ∀ w ∈ lw_tbl, w.before #[Value.ref b] s = true) (hgv : (Jvm.Cond.and given_1 narrow_1).before #[Value.ref b] s = true) {g : bxG} (hgs : g.2.2 = s.heap.size) : (∃ sa : Nat → Nat, bt_K g sa s s.heap) ∧ va_Nc bt_ise bt_iae s := by
  have T9 : ∀ (k : Nat) (w : Cond), lw_tbl[k]? = some w → w.before #[Value.ref b] s = true := fun k w h => hts0 w (List.mem_of_getElem? h)
  have hs := flat_of_before _ hgv
  have hA : ∀ a : Nat, a < s.heap.size → ¬ bq_fr g a := fun a h q => by have h9 : g.2.2 ≤ a := q; omega
  obtain ⟨s0, _, _, _, q0, -⟩ := Cond.exactly_spec (args := #[Value.ref b]) (first := s) (o := none) (s := s) (idx := []) (t := .string "ClashBoxes" 140) (cls := "java/lang/String") (hs _ (by decide +kernel))
  obtain ⟨s1, _, _, _, q1, -⟩ := Cond.exactly_spec (args := #[Value.ref b]) (first := s) (o := none) (s := s) (idx := []) (t := .string "ClashBoxes" 150) (cls := "java/lang/String") (hs _ (by decide +kernel))
  obtain ⟨s2, _, _, _, q2, -⟩ := Cond.exactly_spec (args := #[Value.ref b]) (first := s) (o := none) (s := s) (idx := []) (t := .string "ClashBoxes" 147) (cls := "java/lang/String") (hs _ (by decide +kernel))
  refine ⟨⟨fun k => if k = 0 then s0 else if k = 1 then s1 else s2, fun w hw => va_tabs (bt_ot w hw) rfl (hts0 w (lwp bt_N [156, 230, 158, 160, 162] (by decide +kernel) w hw)), ?_, ?_, ?_, ?_, ?_⟩, ?_⟩
  · exact vx_Zqof (args := #[Value.ref b]) (T9 181 _ (by decide +kernel)) (T9 31 _ (by decide +kernel)) (hs _ (by decide +kernel)) hA
  · exact vx_Zqof (args := #[Value.ref b]) (T9 183 _ (by decide +kernel)) (T9 31 _ (by decide +kernel)) (hs _ (by decide +kernel)) hA
  · exact vk_R.of (A := #[Value.ref b]) (T9 194 _ (by decide +kernel)) q0
  · exact vk_R.of (A := #[Value.ref b]) (T9 303 _ (by decide +kernel)) q1
  · exact vk_R.of (A := #[Value.ref b]) (T9 237 _ (by decide +kernel)) q2
  · exact va_Nc.of (args := #[Value.ref b]) (hs _ (by decide +kernel))
set_option maxHeartbeats 4000000 in
set_option maxRecDepth 100000 in
theorem whole_start {p : Program} {e : Env} {s : State} {m : MethodId} {below : List Frame} {meth : Method} {c : Code} (l : Launch) (hst : l.stackTraces = false) {b L : Nat} {xs : Nat → Int32} (hL : L ≤ 4096) (C0 : lw_At p s m meth c b L xs) : W p l e room_1 s m #[Value.ref b] below meth c s.heap [] 0 0 (lw_Z below #[Value.ref b] s) (entryFrame m ([Value.ref b] : List Value).toArray 8) := by
  obtain ⟨hx, hb, hr, hml, hown, hts0, hX, hbl, hlocks, hgv⟩ := id C0
  have hts : ∀ w ∈ wsL_law, w.before #[Value.ref b] s = true := fun w h => hts0 w (lw_in w h)
  have T9 : ∀ (k : Nat) (w : Cond), lw_tbl[k]? = some w → w.before #[Value.ref b] s = true := fun k w h => hts0 w (List.mem_of_getElem? h)
  obtain ⟨g, hgs, hK, hAO⟩ := lw_known hts0
  obtain ⟨⟨sa, hT⟩, hNc⟩ := lw_throws hts0 hgv hgs
  have C : LC p l s m meth c b L xs g sa := ⟨⟨hx, hb, hr, hml, hown⟩, hts, hX, hbl, hlocks, hK, hT, hNc, hgs, hst, hL⟩
  have hA : ∀ q : Nat, s.heap.size ≤ q → bq_fr g q := fun q h => by show g.2.2 ≤ q; omega
  have hS : va_S (bq_fr g) s.heap s.heap [] := va_S.rf
  have hKv : va_K g.1 vwCl (bx_T g) s := hK
  have hP : va_P g.1 vwCl [] s.heap := fun k q h => by simp at h
  have hD : va_D (bq_fr g) [] := ⟨fun i j p q h => by simp at h, fun k q h => by simp at h⟩
  have hl := lv_entry ([.ref b]) (n := 8) (Nat.le_of_ble_eq_true rfl)
  rw [lg_entry_eq]
  generalize (lg_sl ([.ref b]) ++ List.replicate (8 - (lg_sl ([.ref b])).length) Slot.unset).toArray = ls at hl ⊢
  have hl : lv_has ls 8 [(0, .ref b)] := hl
  refine va_new (ci := 1) (fs := [.null, .null, .int 0, .int 0, .null, .null, .null, .null]) (C := RX1) (T := TX1) (N := 8) hx hb hts inlX1 tyX1 tyX1_ok hown (T9 38 _ (by decide +kernel)) (T9 39 _ (by decide +kernel)) (T9 29 _ (by decide +kernel)) hKv hP hD hS hA rfl (fun j hj => by rcases (show j = 0 ∨ j = 1 ∨ j = 2 ∨ j = 3 ∨ j = 4 ∨ j = 5 ∨ j = 6 ∨ j = 7 by omega) with rfl | rfl | rfl | rfl | rfl | rfl | rfl | rfl <;> rfl) (Nat.le_of_ble_eq_true rfl) (Nat.le_of_ble_eq_true rfl) dL_law_0 (fun qx H hP hD hS => ?_)
  have hP : va_P g.1 vwCl [(qx, .inr (1, [.null, .null, .int 0, .int 0, .null, .null, .null, .null]))] H := hP
  have hD : va_D (bq_fr g) [(qx, .inr (1, [.null, .null, .int 0, .int 0, .null, .null, .null, .null]))] := hD
  refine W.widen (k := 1) (n := 8) (by omega) (by omega) ?_
  refine lv_dup hx hb dL_law_3 rfl ?_
  have hFc := va_free (wc := [(qx, .inr (1, [.null, .null, .int 0, .int 0, .null, .null, .null, .null]))]) hD hS hA [0] rfl
  refine va_callv (va_runI (As := []) (rest := [.ref qx]) ⟨hx, hb, hml, hown, hts⟩ (c_X1_init l g qx H.size) (cwI 0 hts gL_law_X1_init rfl rfl rfl (T9 29 _ (by decide +kernel)) (T9 40 _ (by decide +kernel)) (T9 41 _ (by decide +kernel)) rfl (by decide +kernel) ⟨Nat.le_of_ble_eq_true rfl, Nat.le_of_ble_eq_true rfl⟩) ⟨fun a U g mk q => by obtain ⟨q0, q1, qP, qK, qD, qA⟩ := q; exact ⟨q0, q1, qP, va_K.moved (u := U) (U := U.calling g mk a) (Vm.Alike.refl U.vm) qK, qD, va_AO.moved (u := U) (U := U.calling g mk a) (Vm.Alike.refl U.vm) qA⟩, fun U hU hW => ⟨rfl, by rw [hU], by rw [hU]; exact hP, va_K.moved hW.alike hKv, hD.weaken (fun _ _ _ _ => trivial), va_AO.moved hW.alike hAO⟩⟩ rfl rfl hl.1 rfl (lv_room (Nat.le_of_ble_eq_true rfl)) dL_law_4 ⟨Nat.le_of_ble_eq_true rfl, Nat.le_of_ble_eq_true rfl⟩) hS (fun q _ h => hFc q h) hFc (fun u t H1 locs ht hvm hw hB hz1 hk1 hS => ?_)
  obtain ⟨hP1, hD1⟩ := hB
  rw [ht] at hP1
  obtain ⟨hP, hD⟩ := va_join (wr := []) (w1 := [(qx, .inr (1, [.ref (u 1), .ref (u 2), .int (iI 0), .int (iI 0), .ref (u 3), .ref (u 4), .ref (u 5), .ref (u 6)])), (u 1, .inl (g.2.1 2, 60, .inr (.inr (.inr (.inr (fun _ => none)))))), (u 2, .inl (g.2.1 1, 64, .inl (fun _ => 0))), (u 3, .inl (g.2.1 0, 60, .inl (fun _ => 0))), (u 4, .inl (g.2.1 0, 60, .inl (fun _ => 0))), (u 5, .inl (g.2.1 0, 60, .inl (fun _ => 0))), (u 6, .inl (g.2.1 0, 60, .inl (fun _ => 0)))]) hP hD [0] [] rfl rfl (by decide) (by decide) hk1 hFc hP1 hD1
  generalize H1 = H at hP hS ⊢
  have hP : va_P g.1 vwCl [(qx, .inr (1, [.ref (u 1), .ref (u 2), .int (iI 0), .int (iI 0), .ref (u 3), .ref (u 4), .ref (u 5), .ref (u 6)])), (u 1, .inl (g.2.1 2, 60, .inr (.inr (.inr (.inr (fun _ => none)))))), (u 2, .inl (g.2.1 1, 64, .inl (fun _ => 0))), (u 3, .inl (g.2.1 0, 60, .inl (fun _ => 0))), (u 4, .inl (g.2.1 0, 60, .inl (fun _ => 0))), (u 5, .inl (g.2.1 0, 60, .inl (fun _ => 0))), (u 6, .inl (g.2.1 0, 60, .inl (fun _ => 0)))] H := hP
  have hD : va_D (bq_fr g) [(qx, .inr (1, [.ref (u 1), .ref (u 2), .int (iI 0), .int (iI 0), .ref (u 3), .ref (u 4), .ref (u 5), .ref (u 6)])), (u 1, .inl (g.2.1 2, 60, .inr (.inr (.inr (.inr (fun _ => none)))))), (u 2, .inl (g.2.1 1, 64, .inl (fun _ => 0))), (u 3, .inl (g.2.1 0, 60, .inl (fun _ => 0))), (u 4, .inl (g.2.1 0, 60, .inl (fun _ => 0))), (u 5, .inl (g.2.1 0, 60, .inl (fun _ => 0))), (u 6, .inl (g.2.1 0, 60, .inl (fun _ => 0)))] := hD
  refine W.widen (k := 7) (n := 372) (by omega) (by omega) ?_
  refine lv_astore_n (lv' := [(1, .ref qx), (0, .ref b)]) hx hb dL_law_7 rfl hl (by decide) rfl (fun ls hl => ?_)
  refine va_new (ci := 2) (fs := [.int 0, .int 0, .int 0, .null, .null, .null, .null, .null, .null, .null, .null, .null, .int 0, .int 0, .int 0]) (C := RX2) (T := TX2) (N := 15) hx hb hts inlX2 tyX2 tyX2_ok hown (T9 428 _ (by decide +kernel)) (T9 429 _ (by decide +kernel)) (T9 30 _ (by decide +kernel)) hKv hP hD hS hA rfl (fun j hj => by rcases (show j = 0 ∨ j = 1 ∨ j = 2 ∨ j = 3 ∨ j = 4 ∨ j = 5 ∨ j = 6 ∨ j = 7 ∨ j = 8 ∨ j = 9 ∨ j = 10 ∨ j = 11 ∨ j = 12 ∨ j = 13 ∨ j = 14 by omega) with rfl | rfl | rfl | rfl | rfl | rfl | rfl | rfl | rfl | rfl | rfl | rfl | rfl | rfl | rfl <;> rfl) (Nat.le_of_ble_eq_true rfl) (Nat.le_of_ble_eq_true rfl) dL_law_8 (fun qm H hP hD hS => ?_)
  have hP : va_P g.1 vwCl [(qx, .inr (1, [.ref (u 1), .ref (u 2), .int (iI 0), .int (iI 0), .ref (u 3), .ref (u 4), .ref (u 5), .ref (u 6)])), (u 1, .inl (g.2.1 2, 60, .inr (.inr (.inr (.inr (fun _ => none)))))), (u 2, .inl (g.2.1 1, 64, .inl (fun _ => 0))), (u 3, .inl (g.2.1 0, 60, .inl (fun _ => 0))), (u 4, .inl (g.2.1 0, 60, .inl (fun _ => 0))), (u 5, .inl (g.2.1 0, 60, .inl (fun _ => 0))), (u 6, .inl (g.2.1 0, 60, .inl (fun _ => 0))), (qm, .inr (2, [.int 0, .int 0, .int 0, .null, .null, .null, .null, .null, .null, .null, .null, .null, .int 0, .int 0, .int 0]))] H := hP
  have hD : va_D (bq_fr g) [(qx, .inr (1, [.ref (u 1), .ref (u 2), .int (iI 0), .int (iI 0), .ref (u 3), .ref (u 4), .ref (u 5), .ref (u 6)])), (u 1, .inl (g.2.1 2, 60, .inr (.inr (.inr (.inr (fun _ => none)))))), (u 2, .inl (g.2.1 1, 64, .inl (fun _ => 0))), (u 3, .inl (g.2.1 0, 60, .inl (fun _ => 0))), (u 4, .inl (g.2.1 0, 60, .inl (fun _ => 0))), (u 5, .inl (g.2.1 0, 60, .inl (fun _ => 0))), (u 6, .inl (g.2.1 0, 60, .inl (fun _ => 0))), (qm, .inr (2, [.int 0, .int 0, .int 0, .null, .null, .null, .null, .null, .null, .null, .null, .null, .int 0, .int 0, .int 0]))] := hD
  refine W.widen (k := 8) (n := 387) (by omega) (by omega) ?_
  refine lv_dup hx hb dL_law_11 rfl ?_
  have hPc := hP.sub (ws' := [(qm, .inr (2, [.int 0, .int 0, .int 0, .null, .null, .null, .null, .null, .null, .null, .null, .null, .int 0, .int 0, .int 0]))]) [7] rfl
  have hDc := hD.sub (ws' := [(qm, .inr (2, [.int 0, .int 0, .int 0, .null, .null, .null, .null, .null, .null, .null, .null, .null, .int 0, .int 0, .int 0]))]) [7] (by decide) rfl
  have hFc := va_free (wc := [(qm, .inr (2, [.int 0, .int 0, .int 0, .null, .null, .null, .null, .null, .null, .null, .null, .null, .int 0, .int 0, .int 0]))]) hD hS hA [7] rfl
  refine va_callv (va_runI (As := []) (rest := [.ref qm]) ⟨hx, hb, hml, hown, hts⟩ (c_X2_init l g qm H.size) (cwI 0 hts gL_law_X2_init rfl rfl rfl (T9 30 _ (by decide +kernel)) (T9 430 _ (by decide +kernel)) (T9 431 _ (by decide +kernel)) rfl (by decide +kernel) ⟨Nat.le_of_ble_eq_true rfl, Nat.le_of_ble_eq_true rfl⟩) ⟨fun a U g mk q => by obtain ⟨q0, q1, qP, qK, qD⟩ := q; exact ⟨q0, q1, qP, va_K.moved (u := U) (U := U.calling g mk a) (Vm.Alike.refl U.vm) qK, qD⟩, fun U hU hW => ⟨rfl, by rw [hU], by rw [hU]; exact hPc, va_K.moved hW.alike hKv, hDc.weaken (fun _ _ _ _ => trivial)⟩⟩ rfl rfl hl.1 rfl (lv_room (Nat.le_of_ble_eq_true rfl)) dL_law_12 ⟨Nat.le_of_ble_eq_true rfl, Nat.le_of_ble_eq_true rfl⟩) hS (fun q _ h => hFc q h) hFc (fun v t H1 locs ht hvm hw hB hz1 hk1 hS => ?_)
  obtain ⟨hP1, hD1⟩ := hB
  rw [ht] at hP1
  obtain ⟨hP, hD⟩ := va_join (wr := [(qx, .inr (1, [.ref (u 1), .ref (u 2), .int (iI 0), .int (iI 0), .ref (u 3), .ref (u 4), .ref (u 5), .ref (u 6)])), (u 1, .inl (g.2.1 2, 60, .inr (.inr (.inr (.inr (fun _ => none)))))), (u 2, .inl (g.2.1 1, 64, .inl (fun _ => 0))), (u 3, .inl (g.2.1 0, 60, .inl (fun _ => 0))), (u 4, .inl (g.2.1 0, 60, .inl (fun _ => 0))), (u 5, .inl (g.2.1 0, 60, .inl (fun _ => 0))), (u 6, .inl (g.2.1 0, 60, .inl (fun _ => 0)))]) (w1 := [(qm, .inr (2, [.int 0, .int 0, .int 0, .ref (v 1), .ref (v 2), .ref (v 3), .ref (v 4), .ref (v 5), .ref (v 6), .ref (v 7), .ref (v 8), .ref (v 9), .int (iI (-1)), .int 0, .int 0])), (v 1, .inl (g.2.1 1, 60, .inl (fun _ => 0))), (v 2, .inl (g.2.1 0, 60, .inl (fun _ => 0))), (v 3, .inl (g.2.1 0, 60, .inl (fun _ => 0))), (v 4, .inl (g.2.1 0, 60, .inl (fun _ => 0))), (v 5, .inl (g.2.1 0, 60, .inl (fun _ => 0))), (v 6, .inl (g.2.1 0, 180, .inl (fun _ => 0))), (v 7, .inl (g.2.1 0, 180, .inl (fun _ => 0))), (v 8, .inl (g.2.1 1, 64, .inl (fun _ => 0))), (v 9, .inl (g.2.1 0, 60, .inl (fun _ => 0)))]) hP hD [7] [0, 1, 2, 3, 4, 5, 6] rfl rfl (by decide) (by decide) hk1 hFc hP1 hD1
  generalize H1 = H at hP hS ⊢
  have hP : va_P g.1 vwCl [(qx, .inr (1, [.ref (u 1), .ref (u 2), .int (iI 0), .int (iI 0), .ref (u 3), .ref (u 4), .ref (u 5), .ref (u 6)])), (u 1, .inl (g.2.1 2, 60, .inr (.inr (.inr (.inr (fun _ => none)))))), (u 2, .inl (g.2.1 1, 64, .inl (fun _ => 0))), (u 3, .inl (g.2.1 0, 60, .inl (fun _ => 0))), (u 4, .inl (g.2.1 0, 60, .inl (fun _ => 0))), (u 5, .inl (g.2.1 0, 60, .inl (fun _ => 0))), (u 6, .inl (g.2.1 0, 60, .inl (fun _ => 0))), (qm, .inr (2, [.int 0, .int 0, .int 0, .ref (v 1), .ref (v 2), .ref (v 3), .ref (v 4), .ref (v 5), .ref (v 6), .ref (v 7), .ref (v 8), .ref (v 9), .int (iI (-1)), .int 0, .int 0])), (v 1, .inl (g.2.1 1, 60, .inl (fun _ => 0))), (v 2, .inl (g.2.1 0, 60, .inl (fun _ => 0))), (v 3, .inl (g.2.1 0, 60, .inl (fun _ => 0))), (v 4, .inl (g.2.1 0, 60, .inl (fun _ => 0))), (v 5, .inl (g.2.1 0, 60, .inl (fun _ => 0))), (v 6, .inl (g.2.1 0, 180, .inl (fun _ => 0))), (v 7, .inl (g.2.1 0, 180, .inl (fun _ => 0))), (v 8, .inl (g.2.1 1, 64, .inl (fun _ => 0))), (v 9, .inl (g.2.1 0, 60, .inl (fun _ => 0)))] H := hP
  have hD : va_D (bq_fr g) [(qx, .inr (1, [.ref (u 1), .ref (u 2), .int (iI 0), .int (iI 0), .ref (u 3), .ref (u 4), .ref (u 5), .ref (u 6)])), (u 1, .inl (g.2.1 2, 60, .inr (.inr (.inr (.inr (fun _ => none)))))), (u 2, .inl (g.2.1 1, 64, .inl (fun _ => 0))), (u 3, .inl (g.2.1 0, 60, .inl (fun _ => 0))), (u 4, .inl (g.2.1 0, 60, .inl (fun _ => 0))), (u 5, .inl (g.2.1 0, 60, .inl (fun _ => 0))), (u 6, .inl (g.2.1 0, 60, .inl (fun _ => 0))), (qm, .inr (2, [.int 0, .int 0, .int 0, .ref (v 1), .ref (v 2), .ref (v 3), .ref (v 4), .ref (v 5), .ref (v 6), .ref (v 7), .ref (v 8), .ref (v 9), .int (iI (-1)), .int 0, .int 0])), (v 1, .inl (g.2.1 1, 60, .inl (fun _ => 0))), (v 2, .inl (g.2.1 0, 60, .inl (fun _ => 0))), (v 3, .inl (g.2.1 0, 60, .inl (fun _ => 0))), (v 4, .inl (g.2.1 0, 60, .inl (fun _ => 0))), (v 5, .inl (g.2.1 0, 60, .inl (fun _ => 0))), (v 6, .inl (g.2.1 0, 180, .inl (fun _ => 0))), (v 7, .inl (g.2.1 0, 180, .inl (fun _ => 0))), (v 8, .inl (g.2.1 1, 64, .inl (fun _ => 0))), (v 9, .inl (g.2.1 0, 60, .inl (fun _ => 0)))] := hD
  refine W.widen (k := 17) (n := 1171) (by omega) (by omega) ?_
  refine lv_astore_n (lv' := [(2, .ref qm), (1, .ref qx), (0, .ref b)]) hx hb dL_law_15 rfl hl (by decide) rfl (fun ls hl => ?_)
  refine li_iconst hx hb dL_law_16 ?_
  refine va_newa (atype := .long) (a0 := (1, .inr (.inl (fun _ => 0)))) hx hb (T9 617 (.arrayClass .long) (by decide +kernel)) rfl hKv hP hD hS hA (fun _ => rfl) (by decide) (by decide) (by decide) (Nat.le_of_ble_eq_true rfl) (Nat.le_of_ble_eq_true rfl) dL_law_17 (fun qo cA H hK9 hP hD hS => ?_)
  have e9 : cA = g.2.1 3 := Option.some.inj ((hK9.2 4 (cA, .long) rfl).2.symm.trans (hKv.2 3 (g.2.1 3, .long) rfl).2)
  subst e9
  have hP : va_P g.1 vwCl [(qx, .inr (1, [.ref (u 1), .ref (u 2), .int (iI 0), .int (iI 0), .ref (u 3), .ref (u 4), .ref (u 5), .ref (u 6)])), (u 1, .inl (g.2.1 2, 60, .inr (.inr (.inr (.inr (fun _ => none)))))), (u 2, .inl (g.2.1 1, 64, .inl (fun _ => 0))), (u 3, .inl (g.2.1 0, 60, .inl (fun _ => 0))), (u 4, .inl (g.2.1 0, 60, .inl (fun _ => 0))), (u 5, .inl (g.2.1 0, 60, .inl (fun _ => 0))), (u 6, .inl (g.2.1 0, 60, .inl (fun _ => 0))), (qm, .inr (2, [.int 0, .int 0, .int 0, .ref (v 1), .ref (v 2), .ref (v 3), .ref (v 4), .ref (v 5), .ref (v 6), .ref (v 7), .ref (v 8), .ref (v 9), .int (iI (-1)), .int 0, .int 0])), (v 1, .inl (g.2.1 1, 60, .inl (fun _ => 0))), (v 2, .inl (g.2.1 0, 60, .inl (fun _ => 0))), (v 3, .inl (g.2.1 0, 60, .inl (fun _ => 0))), (v 4, .inl (g.2.1 0, 60, .inl (fun _ => 0))), (v 5, .inl (g.2.1 0, 60, .inl (fun _ => 0))), (v 6, .inl (g.2.1 0, 180, .inl (fun _ => 0))), (v 7, .inl (g.2.1 0, 180, .inl (fun _ => 0))), (v 8, .inl (g.2.1 1, 64, .inl (fun _ => 0))), (v 9, .inl (g.2.1 0, 60, .inl (fun _ => 0))), (qo, .inl (g.2.1 3, 1, .inr (.inl (fun _ => 0))))] H := hP
  have hD : va_D (bq_fr g) [(qx, .inr (1, [.ref (u 1), .ref (u 2), .int (iI 0), .int (iI 0), .ref (u 3), .ref (u 4), .ref (u 5), .ref (u 6)])), (u 1, .inl (g.2.1 2, 60, .inr (.inr (.inr (.inr (fun _ => none)))))), (u 2, .inl (g.2.1 1, 64, .inl (fun _ => 0))), (u 3, .inl (g.2.1 0, 60, .inl (fun _ => 0))), (u 4, .inl (g.2.1 0, 60, .inl (fun _ => 0))), (u 5, .inl (g.2.1 0, 60, .inl (fun _ => 0))), (u 6, .inl (g.2.1 0, 60, .inl (fun _ => 0))), (qm, .inr (2, [.int 0, .int 0, .int 0, .ref (v 1), .ref (v 2), .ref (v 3), .ref (v 4), .ref (v 5), .ref (v 6), .ref (v 7), .ref (v 8), .ref (v 9), .int (iI (-1)), .int 0, .int 0])), (v 1, .inl (g.2.1 1, 60, .inl (fun _ => 0))), (v 2, .inl (g.2.1 0, 60, .inl (fun _ => 0))), (v 3, .inl (g.2.1 0, 60, .inl (fun _ => 0))), (v 4, .inl (g.2.1 0, 60, .inl (fun _ => 0))), (v 5, .inl (g.2.1 0, 60, .inl (fun _ => 0))), (v 6, .inl (g.2.1 0, 180, .inl (fun _ => 0))), (v 7, .inl (g.2.1 0, 180, .inl (fun _ => 0))), (v 8, .inl (g.2.1 1, 64, .inl (fun _ => 0))), (v 9, .inl (g.2.1 0, 60, .inl (fun _ => 0))), (qo, .inl (g.2.1 3, 1, .inr (.inl (fun _ => 0))))] := hD
  refine lv_astore_n (lv' := [(3, .ref qo), (2, .ref qm), (1, .ref qx), (0, .ref b)]) hx hb dL_law_19 rfl hl (by decide) rfl (fun ls hl => ?_)
  refine li_iconst hx hb dL_law_20 ?_
  refine lv_istore (lv' := [(4, .int (iI 0)), (3, .ref qo), (2, .ref qm), (1, .ref qx), (0, .ref b)]) hx hb dL_law_21 hl (by decide) rfl (fun ls hl => ?_)
  have hU : bx_U g (fun kd _ => ([qx, u 1, u 2, u 3, u 4, u 5, u 6, qm, v 1, v 2, v 3, v 4, v 5, v 6, v 7, v 8, v 9, qo] : List Nat).getD kd 0) s0S s0T (0, 0) H := by
    refine bx_start (fun kd => ([qx, u 1, u 2, u 3, u 4, u 5, u 6, qm, v 1, v 2, v 3, v 4, v 5, v 6, v 7, v 8, v 9, qo] : List Nat).getD kd 0) _ (fun kd hk => ?_) hP hD
    rcases (by omega : kd = 0 ∨ kd = 1 ∨ kd = 2 ∨ kd = 3 ∨ kd = 4 ∨ kd = 5 ∨ kd = 6 ∨ kd = 7 ∨ kd = 8 ∨ kd = 9 ∨ kd = 10 ∨ kd = 11 ∨ kd = 12 ∨ kd = 13 ∨ kd = 14 ∨ kd = 15 ∨ kd = 16 ∨ kd = 17) with rfl | rfl | rfl | rfl | rfl | rfl | rfl | rfl | rfl | rfl | rfl | rfl | rfl | rfl | rfl | rfl | rfl | rfl <;> rfl
  refine W.widen (k := 20 + 3 * 0) (n := 1200 + 12 * 0) (by omega) (by omega) ?_
  exact lw_loop C 512 0 (by omega) (by omega) (fun kd _ => ([qx, u 1, u 2, u 3, u 4, u 5, u 6, qm, v 1, v 2, v 3, v 4, v 5, v 6, v 7, v 8, v 9, qo] : List Nat).getD kd 0) s0S s0T (0, 0) H _ inv_0 hU ⟨hS.1, fun q hq => hS.2.1 q (by omega) (fun z => by have h9 : g.2.2 ≤ q := z; omega)⟩ hS.2.2 ls (lv_sub hl [0, 4, 3, 2, 1] rfl)
