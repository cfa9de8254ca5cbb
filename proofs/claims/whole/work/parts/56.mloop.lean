/-! rows for the reference's loops -/
theorem cntN_lo (P : Int → Prop) : ∀ (n : Nat) (lo : Int), cntN P lo (n + 1) = zB (P lo) + cntN P (lo + 1) n := by
  intro n
  induction n with
  | zero => intro lo; show 0 + zB (P (lo + ((0 : Nat) : Int))) = zB (P lo) + 0; rw [show lo + ((0 : Nat) : Int) = lo by omega]; omega
  | succ n ih =>
    intro lo
    show cntN P lo (n + 1) + zB (P (lo + ((n + 1 : Nat) : Int))) = zB (P lo) + (cntN P (lo + 1) n + zB (P (lo + 1 + (n : Int))))
    rw [ih lo, show lo + ((n + 1 : Nat) : Int) = lo + 1 + (n : Int) by omega]
    omega
theorem cnt_lo (P : Int → Prop) {lo hi : Int} (h : lo < hi) : cnt P lo hi = zB (P lo) + cnt P (lo + 1) hi := by
  unfold cnt
  rw [show (hi - lo).toNat = (hi - (lo + 1)).toNat + 1 by omega, cntN_lo]
noncomputable def rowR (ε : bxS) (st wh p q r : Int) : Int := if r < cnt (pairP ε st p) q (ε 0 0 0) then (if wh = 0 then p else nth (pairP ε st p) q (ε 0 0 0) r) else clsF ε st wh (p + 1) (r - cnt (pairP ε st p) q (ε 0 0 0))
theorem rowR_0 {ε : bxS} (st wh r : Int) {p : Int} (h : p < ε 0 0 0) : rowR ε st wh p (p + 1) r = clsF ε st wh p r := by
  rw [cls_step st wh r h]
  rfl
theorem rowR_e {ε : bxS} (st wh p : Int) {q r : Int} (h : ε 0 0 0 ≤ q) (hr : 0 ≤ r) : rowR ε st wh p q r = clsF ε st wh (p + 1) r := by
  unfold rowR
  rw [cnt_0 _ h, if_neg (by omega), Int.sub_zero]
theorem rowR_n {ε : bxS} (st wh p : Int) {q r : Int} (h : q < ε 0 0 0) (hn : ¬ pairP ε st p q) : rowR ε st wh p (q + 1) r = rowR ε st wh p q r := by
  unfold rowR
  rw [cnt_lo _ h, zB_f hn, nth_f r h hn, Int.zero_add]
theorem rowR_s {ε : bxS} (st wh p : Int) {q r : Int} (h : q < ε 0 0 0) (hp : pairP ε st p q) (hr : r ≠ 0) : rowR ε st wh p (q + 1) (r - 1) = rowR ε st wh p q r := by
  unfold rowR
  rw [cnt_lo _ h, zB_t hp, nth_t r h hp, if_neg hr]
  by_cases hc : r - 1 < cnt (pairP ε st p) (q + 1) (ε 0 0 0)
  · have h2 : r < 1 + cnt (pairP ε st p) (q + 1) (ε 0 0 0) := by omega
    rw [if_pos hc, if_pos h2]
  · rw [if_neg hc, if_neg (by omega), show r - 1 - cnt (pairP ε st p) (q + 1) (ε 0 0 0) = r - (1 + cnt (pairP ε st p) (q + 1) (ε 0 0 0)) by omega]
theorem rowR_f {ε : bxS} (st wh p : Int) {q r : Int} (h : q < ε 0 0 0) (hp : pairP ε st p q) (hr : r = 0) : rowR ε st wh p q r = if wh = 0 then p else q := by
  unfold rowR
  have := cnt_bd (pairP ε st p) (q + 1) (ε 0 0 0)
  have h2 : r < 1 + cnt (pairP ε st p) (q + 1) (ε 0 0 0) := by omega
  rw [cnt_lo _ h, zB_t hp, nth_t r h hp, if_pos hr, if_pos h2]
noncomputable def insM (ε : bxS) (x y z tx ty tz : Int) (i : Int) : Prop := ε 2 i 0 ≠ 0 ∧ (mH ε i 0 0 0 < tx ∧ x < mH ε i 0 1 0) ∧ (mH ε i 1 0 0 < ty ∧ y < mH ε i 1 1 0) ∧ (mH ε i 2 0 0 < tz ∧ z < mH ε i 2 1 0)
