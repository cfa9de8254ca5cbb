/-! the law's walk: what holds all along, its own instructions -/
def xz (xs : Nat → Int32) (i : Int) : Int := (xs i.toNat).toInt
def LC (p : Program) (l : Launch) (s : State) (m : MethodId) (meth : Method) (c : Code) (b L : Nat) (xs : Nat → Int32) (g : bxG) (sa : Nat → Nat) : Prop :=
  (p.tables.exec = Jvm.exec ∧ c.code = code ∧ meth.sig.returnType = ret ∧ c.maxLocals = 8 ∧ s.vm.findClass RL = some m.cls) ∧ (∀ w ∈ wsL_law, w.before #[Value.ref b] s = true) ∧ va_X b L xs s s.heap ∧ b < s.heap.size ∧ meth.locks = false ∧ bx_K g s ∧ bt_K g sa s s.heap ∧ va_Nc bt_ise bt_iae s ∧ g.2.2 = s.heap.size ∧ l.stackTraces = false ∧ L ≤ 4096
section LWR
variable {p : Program} {l : Launch} {e : Env} {R : Room} {s : State} {m : MethodId} {args : Array Value} {below : List Frame} {meth : Method} {c : Code} {H : Heap} {locs : List Loc} {cells slots : Nat} {Q : State → Prop}
variable {cc : ByteArray} {pc : Nat} {ls : Array Slot} {rest As : List Value} {g : bxG} {ad : bxA} {σ τ : bxS} {w : bxW} {sa : Nat → Nat} {b L : Nat} {xs : Nat → Int32}
theorem bl_scr (hx : p.tables.exec = Jvm.exec) (hb : c.code = cc) (hX : va_X b L xs s s.heap) (hbl : b < s.heap.size) (hgs : g.2.2 = s.heap.size) (hF : bx_F g s.heap H) (hlc : bx_Lc g locs) (hL : L ≤ 4096) {i z : Int} (h0 : 0 ≤ i) (h1 : i < L) (hz : xz xs i = z) (hdg : decode cc pc = .ok (.iaload, 1))
    (kk : W p l e R s m args below meth c H locs cells slots Q (F0 m (pc + 1) ls (.int (iI z) :: rest))) : W p l e R s m args below meth c H locs cells slots Q (F0 m pc ls (.int (iI i) :: .ref b :: rest)) := by
  refine va_sld (A := bq_fr g) hx hb hX hbl (fun q => by have h9 : g.2.2 ≤ b := q; omega) ⟨hF.1, fun x _ h => hF.2 x (Nat.not_le.mp h), hlc⟩ (iI_in h0 h1 (by omega)) hdg ?_
  rw [iI_clamp h0 (by omega)]
  have e9 : xs i.toNat = iI z := by rw [← hz]; exact (iI_self _).symm
  rw [e9]
  exact kk
theorem bl_slen (hx : p.tables.exec = Jvm.exec) (hb : c.code = cc) (hX : va_X b L xs s s.heap) (hbl : b < s.heap.size) (hgs : g.2.2 = s.heap.size) (hF : bx_F g s.heap H) (hlc : bx_Lc g locs) (hdg : decode cc pc = .ok (.arraylength, 1))
    (kk : W p l e R s m args below meth c H locs cells slots Q (F0 m (pc + 1) ls (.int (iI L) :: rest))) : W p l e R s m args below meth c H locs cells slots Q (F0 m pc ls (.ref b :: rest)) :=
  va_slen (A := bq_fr g) hx hb hX hbl (fun q => by have h9 : g.2.2 ≤ b := q; omega) ⟨hF.1, fun x _ h => hF.2 x (Nat.not_le.mp h), hlc⟩ hdg kk
theorem bl_lcmp (hx : p.tables.exec = Jvm.exec) (hb : c.code = cc) {x y : Int64} (h : x = y) (hdg : decode cc pc = .ok (.lcmp, 1))
    (kk : W p l e R s m args below meth c H locs cells slots Q (F0 m (pc + 1) ls (.int (iI 0) :: rest))) : W p l e R s m args below meth c H locs cells slots Q (F0 m pc ls (.long y :: .long x :: rest)) := by
  subst h
  refine W.lcmp hx hb hdg ?_
  have e9 : lg_cmp x x = iI 0 := by simp [lg_cmp, iI_0]
  rw [e9]
  exact kk
theorem bl_same (hx : p.tables.exec = Jvm.exec) (hb : c.code = cc) {x y : Int} (h : x = y) {off : Int} {tgt : Nat} (hdg : decode cc pc = .ok (.if_icmp .eq off, 3)) (ht : (pc : Int) + off = (tgt : Int))
    (kk : W p l e R s m args below meth c H locs cells slots Q (F0 m tgt ls rest)) : W p l e R s m args below meth c H locs cells slots Q (F0 m pc ls (.int (iI y) :: .int (iI x) :: rest)) := by
  subst h
  exact lv_icmp_eq hx hb hdg ht (fun _ => kk) (fun q => absurd rfl q)
theorem lw_pre (hK : bx_K g s) (hU : bx_U g ad σ τ w H) (hT : bt_K g sa s s.heap) (hF : bx_F g s.heap H) (hNc : va_Nc bt_ise bt_iae s) : PreS s H (va_Pc As (fun U => bt_J g ad σ τ w sa U)) As :=
  ⟨bt_jblind, fun U hU1 hW1 => ⟨rfl, ⟨⟨by rw [hU1]; exact hU, hK.moved hW1.alike⟩, by rw [hU1]; exact (hT.kept hF).warm hW1⟩, va_Nc.moved hW1.alike hNc⟩⟩
end LWR
theorem inv_margin {σ τ : bxS} (hI : inv σ τ) {p z : Int} (hz : 0 ≤ z ∧ z ≤ 50) : inv (up3 σ 4 p 0 z) (up3 τ 4 p 0 z) := inv_up hI (by omega) (bB_margin hI.2.1 hz)
theorem inv_free {σ τ : bxS} (hI : inv σ τ) {a b z : Int} (hz : z = 0 ∨ z = 1) : inv (up3 (up3 σ 9 (a * 8 + b) 0 z) 9 (b * 8 + a) 0 z) (up3 (up3 τ 9 (8 * a + b) 0 z) 9 (8 * b + a) 0 z) := by
  rw [show a * 8 + b = 8 * a + b by omega, show b * 8 + a = 8 * b + a by omega]
  exact inv_up (inv_up hI (by omega) (bB_free hI.2.1 hz)) (by omega) (bB_free (bB_free hI.2.1 hz) hz)
theorem inv_move {σ τ : bxS} (hI : inv σ τ) {p a d : Int} (hp : 0 ≤ p ∧ p < 60 ∧ τ 2 p 0 ≠ 0) (ha : 0 ≤ a ∧ a < 3) : inv (if 0 ≤ σ 7 p a + d ∧ σ 8 p a + d ≤ 1000 then up3 (up3 σ 7 p a (σ 7 p a + d)) 8 p a (σ 8 p a + d) else σ) (if 0 ≤ τ 7 p a + d ∧ τ 8 p a + d ≤ 1000 then up3 (up3 τ 7 p a (τ 7 p a + d)) 8 p a (τ 8 p a + d) else τ) := by
  rw [hI.1 7 (by omega), hI.1 8 (by omega)]
  by_cases hs : 0 ≤ τ 7 p a + d ∧ τ 8 p a + d ≤ 1000
  · rw [if_pos hs, if_pos hs]
    exact ⟨ag_up (ag_up hI.1 _ _ _ _) _ _ _ _, bB_move hI.2.1 hp ha hs, bM_up (bM_up hI.2.2.1 (by omega) _ _ _) (by omega) _ _ _, hI.2.2.2⟩
  · rw [if_neg hs, if_neg hs]; exact hI
theorem inv_drop {σ τ : bxS} (hI : inv σ τ) (p : Int) : inv (up3 (up3 σ 2 p 0 0) 1 0 0 (σ 1 0 0 - 1)) (up3 (up3 τ 2 p 0 0) 1 0 0 (τ 1 0 0 - 1)) := by
  rw [hI.1 1 (by omega)]
  exact ⟨ag_up (ag_up hI.1 _ _ _ _) _ _ _ _, bB_drop hI.2.1 p _, bM_up (bM_up hI.2.2.1 (by omega) _ _ _) (by omega) _ _ _, hI.2.2.2⟩
