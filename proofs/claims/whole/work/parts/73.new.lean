def set3 (σ : bxS) (f : Nat) (K z : Int) : bxS := fun f' i a => if f' = f then (if i = K ∧ 0 ≤ a ∧ a < 3 then z else σ f' i a) else σ f' i a
def newS (σ : bxS) (K k ax r : Int) : bxS := set3 (set3 (up3 (up3 (up3 (up3 (up3 σ 3 K 0 k) 4 K 0 0) 5 K 0 ax) 6 K 0 r) 14 K 0 1) 7 K 0) 8 K 0
theorem newS_n (σ : bxS) {K i : Int} (h : i ≠ K) (k ax r : Int) (f : Nat) (a : Int) : newS σ K k ax r f i a = σ f i a := by
  simp [newS, set3, up3, h]
theorem newS_14 (σ : bxS) (K k ax r : Int) : newS σ K k ax r 14 K 0 ≠ 0 := by
  simp [newS, set3, up3]
theorem arrV_ext (cI : ClassId) {N : Nat} {f f' : Nat → Value} (h : ∀ j, j < N → f j = f' j) : arrV cI N f = arrV cI N f' := by
  unfold arrV
  congr 2
  funext j
  exact h j.val j.isLt
def adN (ad : bxA) (K : Int) (q q1 q2 : Nat) : bxA := fun kd k => if kd = 20 ∧ k = K then q else if kd = 21 ∧ k = K then q1 else if kd = 22 ∧ k = K then q2 else ad kd k
theorem adN_n (ad : bxA) {K k : Int} (h : k ≠ K) (q q1 q2 kd : Nat) : adN ad K q q1 q2 kd k = ad kd k := by simp [adN, h]
theorem adN_0 (ad : bxA) (K : Int) (q q1 q2 : Nat) {kd : Nat} (h : kd < 18) (k : Int) : adN ad K q q1 q2 kd k = ad kd k := by
  unfold adN
  rw [if_neg (by omega), if_neg (by omega), if_neg (by omega)]
theorem adN_20 (ad : bxA) (K : Int) (q q1 q2 : Nat) : adN ad K q q1 q2 20 K = q := by simp [adN]
theorem adN_21 (ad : bxA) (K : Int) (q q1 q2 : Nat) : adN ad K q q1 q2 21 K = q1 := by simp [adN]
theorem adN_22 (ad : bxA) (K : Int) (q q1 q2 : Nat) : adN ad K q q1 q2 22 K = q2 := by simp [adN]

section BXN
variable {p : Program} {l : Launch} {e : Env} {R : Room} {s : State} {m : MethodId} {args : Array Value} {below : List Frame} {meth : Method} {c : Code} {H : Heap} {locs : List Loc} {cells slots : Nat} {Q : State → Prop}
variable {cc : ByteArray} {pc : Nat} {ls : Array Slot} {rest : List Value} {g : bxG} {ad : bxA} {σ τ σ' τ' : bxS} {w w' : bxW} {kd : Nat} {k : Int}

theorem bg_X0_least_n (hx : p.tables.exec = Jvm.exec) (hb : c.code = cc) {own : String} {index : Nat} {Ts : List Cond} (hts : ∀ w ∈ Ts, w.before args s = true) (hin : ∀ w ∈ wsX00, w ∈ Ts) (hown : s.vm.findClass own = some m.cls) (hK : bx_K g s) (hU : bx_U g ad σ τ w H) (hp : 0 ≤ k ∧ k < 60 ∧ σ 14 k 0 ≠ 0) (hlink : (Cond.fieldLink own index (TX0 3).1 (TX0 3).2.1 (TX0 3).2.2.1).before args s = true) (hdg : decode cc pc = .ok (.getfield index, 3))
    (kk : W p l e R s m args below meth c H locs cells slots Q (F0 m (pc + 3) ls (.ref (ad 21 k) :: rest))) : W p l e R s m args below meth c H locs cells slots Q (F0 m pc ls (.ref (ad 20 k) :: rest)) :=
  bx_get (ci := 0) (T := TX0) (C := RX0) (N := 6) hx hb hts hin hown hK hU (bx_Ln (by omega) (by omega) hp) rfl rfl 3 (by omega) hlink rfl hdg kk

theorem bg_X0_greatest_n (hx : p.tables.exec = Jvm.exec) (hb : c.code = cc) {own : String} {index : Nat} {Ts : List Cond} (hts : ∀ w ∈ Ts, w.before args s = true) (hin : ∀ w ∈ wsX00, w ∈ Ts) (hown : s.vm.findClass own = some m.cls) (hK : bx_K g s) (hU : bx_U g ad σ τ w H) (hp : 0 ≤ k ∧ k < 60 ∧ σ 14 k 0 ≠ 0) (hlink : (Cond.fieldLink own index (TX0 4).1 (TX0 4).2.1 (TX0 4).2.2.1).before args s = true) (hdg : decode cc pc = .ok (.getfield index, 3))
    (kk : W p l e R s m args below meth c H locs cells slots Q (F0 m (pc + 3) ls (.ref (ad 22 k) :: rest))) : W p l e R s m args below meth c H locs cells slots Q (F0 m pc ls (.ref (ad 20 k) :: rest)) :=
  bx_get (ci := 0) (T := TX0) (C := RX0) (N := 6) hx hb hts hin hown hK hU (bx_Ln (by omega) (by omega) hp) rfl rfl 4 (by omega) hlink rfl hdg kk

theorem bs_21_n (hx : p.tables.exec = Jvm.exec) (hb : c.code = cc) (hK : bx_K g s) (hU : bx_U g ad σ τ w H) (hlc : bx_Lc g locs) {k i z : Int} (hp : 0 ≤ k ∧ k < 60 ∧ σ 14 k 0 ≠ 0) (h0 : 0 ≤ i) (h1 : i < 3) (hdg : decode cc pc = .ok (.iastore, 1))
    (kk : ∀ (H1 : Heap) (locs1 : List Loc), bx_U g ad (up3 σ 7 k i z) τ w H1 → bx_F g H H1 → bx_Lc g locs1 → W p l e R s m args below meth c H1 locs1 cells slots Q (F0 m (pc + 1) ls rest)) : W p l e R s m args below meth c H locs cells slots Q (F0 m pc ls (.int (iI z) :: .int (iI i) :: .ref (ad 21 k) :: rest)) :=
  bx_ist (n := 3) (f := fun j : Nat => iI (σ 7 k (j : Int))) hx hb hK hU hlc (bx_Ln (by omega) (by omega) hp) rfl h0 h1 (by omega) (bf_c7 g ad σ τ w k i z) (by rw [bx_upd2 σ 7 k h0 z]; rfl) hdg kk

theorem bs_22_n (hx : p.tables.exec = Jvm.exec) (hb : c.code = cc) (hK : bx_K g s) (hU : bx_U g ad σ τ w H) (hlc : bx_Lc g locs) {k i z : Int} (hp : 0 ≤ k ∧ k < 60 ∧ σ 14 k 0 ≠ 0) (h0 : 0 ≤ i) (h1 : i < 3) (hdg : decode cc pc = .ok (.iastore, 1))
    (kk : ∀ (H1 : Heap) (locs1 : List Loc), bx_U g ad (up3 σ 8 k i z) τ w H1 → bx_F g H H1 → bx_Lc g locs1 → W p l e R s m args below meth c H1 locs1 cells slots Q (F0 m (pc + 1) ls rest)) : W p l e R s m args below meth c H locs cells slots Q (F0 m pc ls (.int (iI z) :: .int (iI i) :: .ref (ad 22 k) :: rest)) :=
  bx_ist (n := 3) (f := fun j : Nat => iI (σ 8 k (j : Int))) hx hb hK hU hlc (bx_Ln (by omega) (by omega) hp) rfl h0 h1 (by omega) (bf_c8 g ad σ τ w k i z) (by rw [bx_upd2 σ 8 k h0 z]; rfl) hdg kk

theorem bf_c2r (g : bxG) (ad : bxA) (σ τ : bxS) (w : bxW) (i : Int) (hp : 0 ≤ i ∧ i < 60 ∧ σ 14 i 0 ≠ 0) : bx_Fr g ad σ τ w (up3 σ 2 i 0 1) τ w 1 0 := by
  refine ⟨fun kd' k' hl hne => ?_, fun kd' k' hl => ?_⟩
  · rcases hl with ⟨h1, rfl⟩ | ⟨h1, h2, -⟩
    · rcases (by omega : kd' = 0 ∨ kd' = 1 ∨ kd' = 2 ∨ kd' = 3 ∨ kd' = 4 ∨ kd' = 5 ∨ kd' = 6 ∨ kd' = 7 ∨ kd' = 8 ∨ kd' = 9 ∨ kd' = 10 ∨ kd' = 11 ∨ kd' = 12 ∨ kd' = 13 ∨ kd' = 14 ∨ kd' = 15 ∨ kd' = 16 ∨ kd' = 17) with rfl | rfl | rfl | rfl | rfl | rfl | rfl | rfl | rfl | rfl | rfl | rfl | rfl | rfl | rfl | rfl | rfl | rfl <;> first | rfl | exact absurd ⟨rfl, rfl⟩ hne
    · rcases (by omega : kd' = 20 ∨ kd' = 21 ∨ kd' = 22) with rfl | rfl | rfl <;> rfl
  · rcases hl with h | ⟨h1, h2, h3, h4, h5⟩
    · exact Or.inl h
    · refine Or.inr ⟨h1, h2, h3, h4, ?_⟩
      by_cases hk : k' = i
      · subst hk; exact Or.inr hp.2.2
      · rcases h5 with h5 | h5
        · rw [up3_i _ _ hk] at h5; exact Or.inl h5
        · exact Or.inr h5
theorem bx_updr (σ : bxS) (ad : bxA) {i : Int} (h0 : 0 ≤ i) : va_up (fun j : Nat => if σ 2 (j : Int) 0 = 0 then none else some (ad 20 (j : Int))) i.toNat (some (ad 20 i)) = fun j : Nat => if up3 σ 2 i 0 1 2 (j : Int) 0 = 0 then none else some (ad 20 (j : Int)) := by
  funext j
  by_cases hj : j = i.toNat
  · have h2 : (j : Int) = i := by omega
    rw [h2, up3_s, if_neg (by omega)]
    simp [va_up, hj]
  · have h2 : (j : Int) ≠ i := by omega
    rw [up3_i _ _ h2]
    simp [va_up, hj]
theorem bx_qstR (hx : p.tables.exec = Jvm.exec) (hb : c.code = cc) (hK : bx_K g s) (hU : bx_U g ad σ τ w H) (hlc : bx_Lc g locs) (hl : bx_L σ kd k) {n : Nat} {f : Nat → Option Nat} (he : bx_E g ad σ τ w kd k = .inl (g.2.1 2, n, .inr (.inr (.inr (.inr f))))) {i : Int} (h0 : 0 ≤ i) (h1 : i < n) (hn : n < 2147483648) {vs : List Value} {v : Nat} (hv : va_at g.1 vwCl (v, .inr (0, vs)) H)
    (hF : bx_Fr g ad σ τ w σ' τ' w' kd k) (he' : bx_E g ad σ' τ' w' kd k = .inl (g.2.1 2, n, .inr (.inr (.inr (.inr (va_up f i.toNat (some v))))))) (hdg : decode cc pc = .ok (.aastore, 1))
    (kk : ∀ (H1 : Heap) (locs1 : List Loc), bx_U g ad σ' τ' w' H1 → bx_F g H H1 → bx_Lc g locs1 → W p l e R s m args below meth c H1 locs1 cells slots Q (F0 m (pc + 1) ls rest)) : W p l e R s m args below meth c H locs cells slots Q (F0 m pc ls (.ref v :: .int (iI i) :: .ref (ad kd k) :: rest)) := by
  have hin := iI_in h0 h1 hn
  have hlt : (iI i).toNatClampNeg < n := Nat.not_le.mp fun q => hin (Or.inr q)
  have h00 : ¬ iI i < 0 := fun q => hin (Or.inl q)
  obtain ⟨r', hr', cellV, g1, g2, g3, -⟩ := hv
  have hcls := (hK.1 0 (RX0, TX0, 6) rfl).2
  obtain ⟨kA, comp, k1, k2, k3, -⟩ := (hK.2 2 (g.2.1 2, .object RX0) rfl).2
  have hcomp : comp = g.1.1 0 := Option.some.inj (k3.symm.trans hcls.1)
  subst hcomp
  obtain ⟨kC, hkC, -⟩ := hcls.2
  refine W.aast hx hb (bx_P hU hl he 0 _ rfl) (fun q h => by cases h) (fun h => by cases h) k1 k2 rfl hkC ⟨h00, by show _ < (arrV _ _ _).slots.size; rw [arrV_size]; exact hlt⟩ g1 (fun q h => by rw [g3] at h; cases h) (by rw [g2]; exact hkC) (by rw [g2]; exact va_assign hcls) rfl rfl hdg fun H1 e2 z2 oq => ?_
  refine kk H1 _ (hU.set hl hF he' ?_ oq) (bx_F.put hU hl z2 oq) (hlc.add (hU.2.2 kd k hl))
  show H1[ad kd k]? = some (vp_cell _ _)
  rw [e2, vp_cell_q, vp_cell_q, arrV_store, iI_clamp h0 (by omega)]
  congr 2
  funext q
  by_cases hq : q = i.toNat
  · subst hq
    simp [updV, va_up, va_rf]
  · simp [updV, va_up, hq]
theorem bs_rowR (hx : p.tables.exec = Jvm.exec) (hb : c.code = cc) (hK : bx_K g s) (hU : bx_U g ad σ τ w H) (hlc : bx_Lc g locs) {i : Int} (hp : 0 ≤ i ∧ i < 60 ∧ σ 14 i 0 ≠ 0) (hdg : decode cc pc = .ok (.aastore, 1))
    (kk : ∀ (H1 : Heap) (locs1 : List Loc), bx_U g ad (up3 σ 2 i 0 1) τ w H1 → bx_F g H H1 → bx_Lc g locs1 → W p l e R s m args below meth c H1 locs1 cells slots Q (F0 m (pc + 1) ls rest)) : W p l e R s m args below meth c H locs cells slots Q (F0 m pc ls (.ref (ad 20 i) :: .int (iI i) :: .ref (ad 1 0) :: rest)) :=
  bx_qstR (n := 60) (f := fun j : Nat => if σ 2 (j : Int) 0 = 0 then none else some (ad 20 (j : Int))) hx hb hK hU hlc (bx_L0 (by omega)) rfl hp.1 hp.2.1 (by omega) (hU.1 20 i (bx_Ln (by omega) (by omega) hp)) (bf_c2r g ad σ τ w i hp) (by rw [bx_updr σ ad hp.1]; rfl) hdg kk
theorem bn_new (hx : p.tables.exec = Jvm.exec) (hb : c.code = cc) {own : String} {index : Nat} {Ts : List Cond} (hts : ∀ w ∈ Ts, w.before args s = true) (hin : ∀ w ∈ wsX00, w ∈ Ts) (hown : s.vm.findClass own = some m.cls) (hcl : (Cond.classLink own index RX0).before args s = true) (hinst : (Cond.instantiable RX0 6).before args s = true) (hini : (Cond.initialized RX0).before args s = true) (hK : bx_K g s) (hU : bx_U g ad σ τ w H) (hcells : cells + 1 ≤ R.cells) (hslots : slots + 6 ≤ R.slots) (hdg : decode cc pc = .ok (.new index, 3))
    (kk : ∀ (q : Nat) (H1 : Heap), bx_U g ad σ τ w H1 → bx_F g H H1 → va_P g.1 vwCl [(q, .inr (0, [.int 0, .int 0, .int 0, .null, .null, .int 0]))] H1 → (∀ kd k, bx_L σ kd k → ad kd k ≠ q) → g.2.2 ≤ q → W p l e R s m args below meth c H1 locs (cells + 1) (slots + 6) Q (F0 m (pc + 3) ls (.ref q :: rest))) : W p l e R s m args below meth c H locs cells slots Q (F0 m pc ls rest) := by
  have hKn := hK.1 0 (RX0, TX0, 6) rfl
  refine W.newcK hx hb hown hcl hinst hini rfl hdg hcells hslots hKn.2.1 rfl fun H1 kC hkC e1 z1 o1 => ?_
  refine kk H.size H1 (hU.grow (fun q hq => o1 q hq)) ⟨by omega, fun q hq => o1 q (Nat.lt_of_lt_of_le hq (bx_lo hU))⟩ (fun k x hx => ?_) (fun kd k hl e => ?_) (bx_lo hU)
  · cases k with
    | zero =>
      cases hx
      refine ⟨(RX0, TX0, 6), rfl, (u_born tyX0 hts hin hKn hkC e1 tyX0_ok).to (fun j hj => ?_)⟩
      rcases (show j = 0 ∨ j = 1 ∨ j = 2 ∨ j = 3 ∨ j = 4 ∨ j = 5 by omega) with rfl | rfl | rfl | rfl | rfl | rfl <;> rfl
    | succ k => simp at hx
  · have := (hU.1 kd k hl).lt
    omega
/-- three new cells become part K of the universe -/
theorem bn_ext {H : Heap} (hU : bx_U g ad σ τ w H) {K k ax r : Int} {q q1 q2 : Nat} (hK0 : 0 ≤ K ∧ K < 60) (h2 : σ 2 K 0 = 0) (hn : ∀ kd k, bx_L σ kd k → ad kd k ≠ q ∧ ad kd k ≠ q1 ∧ ad kd k ≠ q2) (hg : g.2.2 ≤ q ∧ g.2.2 ≤ q1 ∧ g.2.2 ≤ q2) (hd : q ≠ q1 ∧ q ≠ q2 ∧ q1 ≠ q2)
    (hP : va_P g.1 vwCl [(q, .inr (0, [.int (iI k), .int (iI ax), .int (iI r), .ref q1, .ref q2, .int (iI 0)])), (q1, .inl (g.2.1 0, 3, .inl (fun _ => 0))), (q2, .inl (g.2.1 0, 3, .inl (fun _ => 0)))] H) : bx_U g (adN ad K q q1 q2) (newS σ K k ax r) τ w H := by
  have hL : ∀ kd k', bx_L (newS σ K k ax r) kd k' → (k' = K ∧ (kd = 20 ∨ kd = 21 ∨ kd = 22)) ∨ (bx_L σ kd k' ∧ adN ad K q q1 q2 kd k' = ad kd k' ∧ (kd < 18 ∨ k' ≠ K)) := by
    intro kd k' hl
    rcases hl with ⟨h, rfl⟩ | ⟨h1, h3, h4, h5, h6⟩
    · exact Or.inr ⟨Or.inl ⟨h, rfl⟩, adN_0 _ _ _ _ _ h _, Or.inl h⟩
    · by_cases e : k' = K
      · exact Or.inl ⟨e, by omega⟩
      · rw [newS_n σ e, newS_n σ e] at h6
        exact Or.inr ⟨Or.inr ⟨h1, h3, h4, h5, h6⟩, adN_n _ e _ _ _ _, Or.inr e⟩
  have hE : ∀ kd k', bx_L σ kd k' → (kd < 18 ∨ k' ≠ K) → bx_E g (adN ad K q q1 q2) (newS σ K k ax r) τ w kd k' = bx_E g ad σ τ w kd k' := by
    intro kd k' hl hc
    rcases hl with ⟨h, rfl⟩ | ⟨h1, h3, h4, h5, h6⟩
    · rcases (by omega : kd = 0 ∨ kd = 1 ∨ kd = 2 ∨ kd = 3 ∨ kd = 4 ∨ kd = 5 ∨ kd = 6 ∨ kd = 7 ∨ kd = 8 ∨ kd = 9 ∨ kd = 10 ∨ kd = 11 ∨ kd = 12 ∨ kd = 13 ∨ kd = 14 ∨ kd = 15 ∨ kd = 16 ∨ kd = 17) with rfl | rfl | rfl | rfl | rfl | rfl | rfl | rfl | rfl | rfl | rfl | rfl | rfl | rfl | rfl | rfl | rfl | rfl
      rotate_left
      · show Sum.inl (g.2.1 2, 60, Sum.inr (Sum.inr (Sum.inr (Sum.inr (fun j : Nat => if σ 2 (j : Int) 0 = 0 then none else some (adN ad K q q1 q2 20 (j : Int))))))) = Sum.inl (g.2.1 2, 60, Sum.inr (Sum.inr (Sum.inr (Sum.inr (fun j : Nat => if σ 2 (j : Int) 0 = 0 then none else some (ad 20 (j : Int)))))))
        congr 7
        funext j
        by_cases e : (j : Int) = K
        · rw [e, if_pos h2, if_pos h2]
        · rw [adN_n _ e]
      all_goals rfl
    · have e : k' ≠ K := by omega
      rcases (by omega : kd = 20 ∨ kd = 21 ∨ kd = 22) with rfl | rfl | rfl
      · show Sum.inr (0, [Value.int (iI (newS σ K k ax r 3 k' 0)), .int (iI (newS σ K k ax r 5 k' 0)), .int (iI (newS σ K k ax r 6 k' 0)), .ref (adN ad K q q1 q2 21 k'), .ref (adN ad K q q1 q2 22 k'), .int (iI (newS σ K k ax r 4 k' 0))]) = _
        rw [newS_n σ e, newS_n σ e, newS_n σ e, newS_n σ e, adN_n _ e, adN_n _ e]
        rfl
      · show Sum.inl (g.2.1 0, 3, Sum.inl (fun j : Nat => iI (newS σ K k ax r 7 k' j))) = Sum.inl (g.2.1 0, 3, Sum.inl (fun j : Nat => iI (σ 7 k' j)))
        congr 4
        funext j
        rw [newS_n σ e]
      · show Sum.inl (g.2.1 0, 3, Sum.inl (fun j : Nat => iI (newS σ K k ax r 8 k' j))) = Sum.inl (g.2.1 0, 3, Sum.inl (fun j : Nat => iI (σ 8 k' j)))
        congr 4
        funext j
        rw [newS_n σ e]
  refine ⟨fun kd k' hl => ?_, fun kd k' kd2 k2 hl hl2 e => ?_, fun kd k' hl => ?_⟩
  · rcases hL kd k' hl with ⟨rfl, hk⟩ | ⟨h1, h3, h4⟩
    · rcases hk with rfl | rfl | rfl
      · rw [adN_20]
        have e1 : bx_E g (adN ad k' q q1 q2) (newS σ k' k ax r) τ w 20 k' = .inr (0, [.int (iI k), .int (iI ax), .int (iI r), .ref q1, .ref q2, .int (iI 0)]) := by
          simp [bx_E, newS, set3, up3, adN_21, adN_22]
        rw [e1]
        exact hP 0 _ rfl
      · rw [adN_21]
        have h9 : H[q1]? = some (vp_cell (g.2.1 0) (3, .inl (fun _ => 0))) := hP 1 _ rfl
        show H[q1]? = some (vp_cell (g.2.1 0) (3, .inl (fun j : Nat => iI (newS σ k' k ax r 7 k' j))))
        rw [h9, vp_cell_i, vp_cell_i]
        congr 1
        refine arrV_ext _ (fun j hj => ?_)
        have e8 : newS σ k' k ax r 7 k' (j : Int) = 0 := by simp [newS, set3, up3]; omega
        rw [e8, iI_0]
      · rw [adN_22]
        have h9 : H[q2]? = some (vp_cell (g.2.1 0) (3, .inl (fun _ => 0))) := hP 2 _ rfl
        show H[q2]? = some (vp_cell (g.2.1 0) (3, .inl (fun j : Nat => iI (newS σ k' k ax r 8 k' j))))
        rw [h9, vp_cell_i, vp_cell_i]
        congr 1
        refine arrV_ext _ (fun j hj => ?_)
        have e8 : newS σ k' k ax r 8 k' (j : Int) = 0 := by simp [newS, set3, up3]; omega
        rw [e8, iI_0]
    · rw [h3, hE kd k' h1 h4]
      exact hU.1 kd k' h1
  · rcases hL kd k' hl with ⟨rfl, hk⟩ | ⟨h1, h3, -⟩
    · rcases hL kd2 k2 hl2 with ⟨rfl, hk2⟩ | ⟨h5, h6, -⟩
      · rcases hk with rfl | rfl | rfl <;> rcases hk2 with rfl | rfl | rfl <;> simp only [adN_20, adN_21, adN_22] at e <;> first | exact ⟨rfl, rfl⟩ | (exfalso; omega)
      · rw [h6] at e
        have := hn kd2 k2 h5
        rcases hk with rfl | rfl | rfl <;> simp only [adN_20, adN_21, adN_22] at e <;> (exfalso; omega)
    · rcases hL kd2 k2 hl2 with ⟨rfl, hk2⟩ | ⟨h5, h6, -⟩
      · rw [h3] at e
        have := hn kd k' h1
        rcases hk2 with rfl | rfl | rfl <;> simp only [adN_20, adN_21, adN_22] at e <;> (exfalso; omega)
      · rw [h3, h6] at e
        exact hU.2.1 kd k' kd2 k2 h1 h5 e
  · rcases hL kd k' hl with ⟨rfl, hk⟩ | ⟨h1, h3, -⟩
    · rcases hk with rfl | rfl | rfl
      · rw [adN_20]; exact hg.1
      · rw [adN_21]; exact hg.2.1
      · rw [adN_22]; exact hg.2.2
    · rw [h3]; exact hU.2.2 kd k' h1
end BXN
