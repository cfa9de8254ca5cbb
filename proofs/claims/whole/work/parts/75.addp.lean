def setC (σ : bxS) (p a f t : Int) : bxS := up3 (up3 σ 7 p a f) 8 p a t
def addC (σ : bxS) : bxS := up3 (up3 (up3 σ 2 (σ 0 0 0) 0 1) 0 0 0 (σ 0 0 0 + 1)) 1 0 0 (σ 1 0 0 + 1)
def boxC (σ : bxS) (k x y z dx dy dz : Int) : bxS := addC (setC (setC (setC (newS σ (σ 0 0 0) k (-1) 0) (σ 0 0 0) 0 x (x + dx)) (σ 0 0 0) 1 y (y + dy)) (σ 0 0 0) 2 z (z + dz))
def tubC (σ : bxS) (k a f n u v r : Int) : bxS := addC (setC (setC (setC (newS σ (σ 0 0 0) k a r) (σ 0 0 0) a f (f + n)) (σ 0 0 0) (uA a) u u) (σ 0 0 0) (vA a) v v)
def adS (ad ad' : bxA) : Prop := ∀ kd, kd < 18 → ad' kd 0 = ad kd 0
section BNI
variable {p : Program} {l : Launch} {e : Env} {R : Room} {s : State} {m : MethodId} {args : Array Value} {below : List Frame} {meth : Method} {c : Code} {H : Heap} {locs : List Loc} {cells slots : Nat} {Q : State → Prop}
variable {cc : ByteArray} {pc : Nat} {ls : Array Slot} {rest st0 : List Value} {g : bxG} {ad : bxA} {σ τ : bxS} {w : bxW} {Ts : List Cond} {own : String} {nL index : Nat}
theorem va_D1 (A : Nat → Prop) {x : Nat × va_E} (h : A x.1) : va_D A [x] := by
  have one : ∀ (i : Nat) (q : Nat × va_E), [x][i]? = some q → i = 0 ∧ q = x := by
    intro i q hq
    cases i with
    | zero => cases hq; exact ⟨rfl, rfl⟩
    | succ i => simp at hq
  refine ⟨fun i j p q h1 h2 _ => ?_, fun k q hq => ?_⟩
  · rw [(one i p h1).1, (one j q h2).1]
  · rw [(one k q hq).2]; exact h
theorem bn_init (S : CallFix p m c cc nL s args Ts own) (cw : CallB R s args own index yX0_init cX0_init 4 none wsX0_init ({ frames := 1, cells := 2, slots := 6, locals := 12 }) 2 6 3 ∧ yX0_init.name = "<init>" ∧ (Cond.instanceMethod yX0_init).before args s = true) (hK : bx_K g s) (hU : bx_U g ad σ τ w H) (hF : bx_F g s.heap H) (hlc : bx_Lc g locs) {q : Nat} (hP : va_P g.1 vwCl [(q, .inr (0, [.int 0, .int 0, .int 0, .null, .null, .int 0]))] H) (hn : ∀ kd k, bx_L σ kd k → ad kd k ≠ q) (hg : g.2.2 ≤ q) {K k ax r : Int} (hK0 : 0 ≤ K ∧ K < 60) (h2 : σ 2 K 0 = 0)
    (hsize : ls.size = nL) (hstack : st0 = [.int (iI r), .int (iI ax), .int (iI k), .ref q] ++ rest) (hW : (rest.map fun v => v.category).sum ≤ 8) (hdg : decode cc pc = .ok (.invokespecial index, 3)) (hf : cells + 2 ≤ R.cells ∧ slots + 6 ≤ R.slots)
    (kk : ∀ (ad' : bxA) (H1 : Heap) (locs1 : List Loc), adS ad ad' → ad' 20 K = q → bx_U g ad' (newS σ K k ax r) τ w H1 → bx_F g H H1 → bx_Lc g locs1 → W p l e R s m args below meth c H1 locs1 (cells + 2) (slots + 6) Q (F0 m (pc + 3) ls rest)) : W p l e R s m args below meth c H locs cells slots Q (F0 m pc ls st0) := by
  have hS : va_S (bq_fr g) s.heap H locs := ⟨hF.1, fun x _ h => hF.2 x (Nat.not_le.mp h), hlc⟩
  have hql : q < H.size := (hP 0 _ rfl).lt
  have one : ∀ (i x : Nat) (ex : va_E), ([(q, .inr (0, [.int 0, .int 0, .int 0, .null, .null, .int 0]))] : va_W)[i]? = some (x, ex) → x = q := by
    intro i x ex hx
    cases i with
    | zero => cases hx; rfl
    | succ i => simp at hx
  refine va_callv (A0 := bq_fr g) (H0 := s.heap) (va_runI (As := [.int (iI k), .int (iI ax), .int (iI r)]) (rest := rest) S (c_X0_init l g q H.size k ax r) cw ⟨fun a U g mk q => by obtain ⟨q0, q1, qP, qK, qD⟩ := q; exact ⟨q0, q1, qP, va_K.moved (u := U) (U := U.calling g mk a) (Vm.Alike.refl U.vm) qK, qD⟩, fun U hU1 hW1 => ⟨rfl, by rw [hU1], by rw [hU1]; exact hP, va_K.moved hW1.alike hK, va_D1 _ trivial⟩⟩ rfl rfl hsize hstack (lv_room hW) hdg hf) hS (fun x hx hA => ?_) (fun x hA => ?_) (fun u t H1 locs1 ht hvm _ hB hz1 hk1 hS1 => ?_)
  · rcases hA with ⟨i, ex, hi⟩ | hA
    · rw [one i x ex hi]; exact hg
    · omega
  · rcases hA with ⟨i, ex, hi⟩ | hA
    · rw [one i x ex hi]; exact hg
    · exact Nat.le_trans (bx_lo hU) hA
  · obtain ⟨hB1, hB2⟩ := hB
    rw [ht] at hB1
    have nA : ∀ x, x < H.size → x ≠ q → ¬ va_A [(q, .inr (0, [.int 0, .int 0, .int 0, .null, .null, .int 0]))] H.size x := by
      intro x h1 h3 hA
      rcases hA with ⟨i, ex, hi⟩ | hA
      · exact h3 (one i x ex hi)
      · omega
    have inA : ∀ x, va_A [(q, .inr (0, [.int 0, .int 0, .int 0, .null, .null, .int 0]))] H.size x → x ≠ q → H.size ≤ x := by
      intro x hA h3
      rcases hA with ⟨i, ex, hi⟩ | hA
      · exact absurd (one i x ex hi) h3
      · exact hA
    have d1 : u 1 ≠ q := fun h => by have := hB2.1 1 0 _ _ rfl rfl h; omega
    have d2 : u 2 ≠ q := fun h => by have := hB2.1 2 0 _ _ rfl rfl h; omega
    have d3 : u 1 ≠ u 2 := fun h => by have := hB2.1 1 2 _ _ rfl rfl h; omega
    have a1 : H.size ≤ u 1 := inA _ (hB2.2 1 _ rfl) d1
    have a2 : H.size ≤ u 2 := inA _ (hB2.2 2 _ rfl) d2
    have hU1 : bx_U g ad σ τ w H1 := ⟨fun kd k hl => (hU.1 kd k hl).kept (hk1 _ (hU.1 kd k hl).lt (nA _ (hU.1 kd k hl).lt (hn kd k hl))), hU.2⟩
    have hlo := bx_lo hU
    refine kk (adN ad K q (u 1) (u 2)) H1 locs1 (fun kd hkd => adN_0 _ _ _ _ _ hkd _) (adN_20 _ _ _ _ _) (bn_ext hU1 hK0 h2 (fun kd k hl => ⟨hn kd k hl, fun h => ?_, fun h => ?_⟩) ⟨hg, by omega, by omega⟩ ⟨d1.symm, d2.symm, d3⟩ hB1) ⟨hz1, fun x hx => hk1 x (by omega) (nA x (by omega) (by omega))⟩ hS1.2.2
    · have := (hU.1 kd k hl).lt
      omega
    · have := (hU.1 kd k hl).lt
      omega
end BNI
