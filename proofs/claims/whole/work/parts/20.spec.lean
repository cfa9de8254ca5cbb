/-! what the class computes, over the numbers that its cells hold -/
noncomputable def zI (P : Prop) (a b : Int) : Int := @ite Int P (Classical.propDecidable P) a b
theorem zI_t {P : Prop} (h : P) (a b : Int) : zI P a b = a := @if_pos P (Classical.propDecidable P) h Int a b
theorem zI_f {P : Prop} (h : ¬ P) (a b : Int) : zI P a b = b := @if_neg P (Classical.propDecidable P) h Int a b
def hLo (σ : bxS) (p a : Int) : Int := if a = σ 5 p 0 then σ 7 p a else σ 7 p a - σ 6 p 0
def hHi (σ : bxS) (p a : Int) : Int := if a = σ 5 p 0 then σ 8 p a else σ 8 p a + σ 6 p 0
def cgap (σ : bxS) (p q a : Int) : Int := max 0 (max (σ 7 q a - σ 8 p a) (σ 7 p a - σ 8 q a))
def rAx (σ : bxS) (p q : Int) : Int := if σ 5 p 0 = -1 then σ 5 q 0 else if σ 5 q 0 = -1 ∨ σ 5 q 0 = σ 5 p 0 then σ 5 p 0 else -1
def ovl (σ : bxS) (p m q a : Int) : Prop := hLo σ p a - m < hHi σ q a ∧ hLo σ q a < hHi σ p a + m
def gapc (σ : bxS) (p q cg a : Int) : Int := max 0 (cgap σ p q a - cg)
def nsum (σ : bxS) (p q cg ax : Int) : Int := ((if 0 = ax then 0 else gapc σ p q cg 0 * gapc σ p q cg 0) + (if 1 = ax then 0 else gapc σ p q cg 1 * gapc σ p q cg 1)) + (if 2 = ax then 0 else gapc σ p q cg 2 * gapc σ p q cg 2)
def cgr (σ : bxS) (p m : Int) : Int := if σ 5 p 0 = -1 then m else 0
def rch (σ : bxS) (p m q : Int) : Int := σ 6 p 0 + σ 6 q 0 + m - cgr σ p m
def near (σ : bxS) (p m q ax : Int) : Prop := nsum σ p q (cgr σ p m) ax < rch σ p m q * rch σ p m q
def mt (σ : bxS) (p m q : Int) : Prop := (rAx σ p q = -1 ∧ ovl σ p m q 0 ∧ ovl σ p m q 1 ∧ ovl σ p m q 2) ∨ (rAx σ p q ≠ -1 ∧ ovl σ p m q (rAx σ p q) ∧ near σ p m q (rAx σ p q))
noncomputable def stO (σ : bxS) (p q : Int) : Int := zI (σ 9 (σ 3 p 0 * 8 + σ 3 q 0) 0 ≠ 0) 0 (zI (mt σ p 0 q) 2 (zI ((0 < σ 4 p 0 ∧ mt σ p (σ 4 p 0) q) ∨ (0 < σ 4 q 0 ∧ mt σ q (σ 4 q 0) p)) 1 0))
/-- a part that is there -/
def pThere (σ : bxS) (k : Int) : Prop := 0 ≤ k ∧ k < 60 ∧ σ 2 k 0 ≠ 0
def pairP (σ : bxS) (st p q : Int) : Prop := σ 2 p 0 ≠ 0 ∧ σ 2 q 0 ≠ 0 ∧ stO σ p q = st
/-- bounds that every run of calls keeps -/
def bx_Bp (σ : bxS) (k : Int) : Prop := (0 ≤ σ 3 k 0 ∧ σ 3 k 0 ≤ 7) ∧ (0 ≤ σ 4 k 0 ∧ σ 4 k 0 ≤ 50) ∧ (-1 ≤ σ 5 k 0 ∧ σ 5 k 0 ≤ 2) ∧ (0 ≤ σ 6 k 0 ∧ σ 6 k 0 ≤ 200) ∧ (∀ a, 0 ≤ a → a < 3 → 0 ≤ σ 7 k a ∧ σ 7 k a ≤ σ 8 k a ∧ σ 8 k a ≤ 1000) ∧ (σ 5 k 0 = -1 → σ 6 k 0 = 0) ∧ (σ 5 k 0 ≠ -1 → ∀ a, 0 ≤ a → a < 3 → a ≠ σ 5 k 0 → σ 7 k a = σ 8 k a)
def bx_B (σ : bxS) : Prop := (0 ≤ σ 0 0 0 ∧ σ 0 0 0 ≤ 60) ∧ (∀ k, 0 ≤ k → k < 60 → σ 2 k 0 = 0 ∨ (σ 2 k 0 = 1 ∧ k < σ 0 0 0)) ∧ (∀ i, 0 ≤ i → i < 64 → σ 9 i 0 = 0 ∨ σ 9 i 0 = 1) ∧ ∀ k, 0 ≤ k ∧ k < 60 ∧ σ 2 k 0 ≠ 0 → bx_Bp σ k
theorem bB0 {σ : bxS} (h : bx_B σ) : 0 ≤ σ 0 0 0 ∧ σ 0 0 0 ≤ 60 := h.1
theorem bB2 {σ : bxS} (h : bx_B σ) {k : Int} (h0 : 0 ≤ k) (h1 : k < 60) : σ 2 k 0 = 0 ∨ (σ 2 k 0 = 1 ∧ k < σ 0 0 0) := h.2.1 k h0 h1
theorem bB9 {σ : bxS} (h : bx_B σ) {k : Int} (h0 : 0 ≤ k) (h1 : k < 64) : σ 9 k 0 = 0 ∨ σ 9 k 0 = 1 := h.2.2.1 k h0 h1
theorem bB3 {σ : bxS} (h : bx_B σ) {k : Int} (hp : 0 ≤ k ∧ k < 60 ∧ σ 2 k 0 ≠ 0) : 0 ≤ σ 3 k 0 ∧ σ 3 k 0 ≤ 7 := (h.2.2.2 k hp).1
theorem bB4 {σ : bxS} (h : bx_B σ) {k : Int} (hp : 0 ≤ k ∧ k < 60 ∧ σ 2 k 0 ≠ 0) : 0 ≤ σ 4 k 0 ∧ σ 4 k 0 ≤ 50 := (h.2.2.2 k hp).2.1
theorem bB5 {σ : bxS} (h : bx_B σ) {k : Int} (hp : 0 ≤ k ∧ k < 60 ∧ σ 2 k 0 ≠ 0) : -1 ≤ σ 5 k 0 ∧ σ 5 k 0 ≤ 2 := (h.2.2.2 k hp).2.2.1
theorem bB6 {σ : bxS} (h : bx_B σ) {k : Int} (hp : 0 ≤ k ∧ k < 60 ∧ σ 2 k 0 ≠ 0) : 0 ≤ σ 6 k 0 ∧ σ 6 k 0 ≤ 200 := (h.2.2.2 k hp).2.2.2.1
theorem bB7 {σ : bxS} (h : bx_B σ) {k a : Int} (hp : 0 ≤ k ∧ k < 60 ∧ σ 2 k 0 ≠ 0) (h0 : 0 ≤ a) (h1 : a < 3) : 0 ≤ σ 7 k a ∧ σ 7 k a ≤ σ 8 k a ∧ σ 8 k a ≤ 1000 := (h.2.2.2 k hp).2.2.2.2.1 a h0 h1
theorem bB_box {σ : bxS} (h : bx_B σ) {k : Int} (hp : 0 ≤ k ∧ k < 60 ∧ σ 2 k 0 ≠ 0) : σ 5 k 0 = -1 → σ 6 k 0 = 0 := (h.2.2.2 k hp).2.2.2.2.2.1
theorem bB_tube {σ : bxS} (h : bx_B σ) {k a : Int} (hp : 0 ≤ k ∧ k < 60 ∧ σ 2 k 0 ≠ 0) (ht : σ 5 k 0 ≠ -1) (h0 : 0 ≤ a) (h1 : a < 3) (hn : a ≠ σ 5 k 0) : σ 7 k a = σ 8 k a := (h.2.2.2 k hp).2.2.2.2.2.2 ht a h0 h1 hn
theorem hLo_bd {σ : bxS} (h : bx_B σ) {k a : Int} (hp : 0 ≤ k ∧ k < 60 ∧ σ 2 k 0 ≠ 0) (h0 : 0 ≤ a) (h1 : a < 3) : -200 ≤ hLo σ k a ∧ hLo σ k a ≤ 1000 := by
  have q6 := bB6 h hp
  have q7 := bB7 h hp h0 h1
  unfold hLo
  split <;> omega
theorem hHi_bd {σ : bxS} (h : bx_B σ) {k a : Int} (hp : 0 ≤ k ∧ k < 60 ∧ σ 2 k 0 ≠ 0) (h0 : 0 ≤ a) (h1 : a < 3) : 0 ≤ hHi σ k a ∧ hHi σ k a ≤ 1200 := by
  have q6 := bB6 h hp
  have q7 := bB7 h hp h0 h1
  unfold hHi
  split <;> omega
theorem cgap_bd {σ : bxS} (h : bx_B σ) {p q a : Int} (hp : 0 ≤ p ∧ p < 60 ∧ σ 2 p 0 ≠ 0) (hq : 0 ≤ q ∧ q < 60 ∧ σ 2 q 0 ≠ 0) (h0 : 0 ≤ a) (h1 : a < 3) : 0 ≤ cgap σ p q a ∧ cgap σ p q a ≤ 1000 := by
  have q7 := bB7 h hp h0 h1
  have q8 := bB7 h hq h0 h1
  unfold cgap
  omega
theorem rAx_bd {σ : bxS} (h : bx_B σ) {p q : Int} (hp : 0 ≤ p ∧ p < 60 ∧ σ 2 p 0 ≠ 0) (hq : 0 ≤ q ∧ q < 60 ∧ σ 2 q 0 ≠ 0) : -1 ≤ rAx σ p q ∧ rAx σ p q ≤ 2 := by
  have q7 := bB5 h hp
  have q8 := bB5 h hq
  unfold rAx
  split
  · omega
  · split <;> omega
theorem sq_bd {x B : Int} (h0 : 0 ≤ x) (h1 : x ≤ B) : 0 ≤ x * x ∧ x * x ≤ B * B := ⟨Int.mul_nonneg h0 h0, Int.mul_le_mul h1 h1 h0 (by omega)⟩
theorem stO_bd (σ : bxS) (p q : Int) : 0 ≤ stO σ p q ∧ stO σ p q ≤ 2 := by
  unfold stO zI
  split
  · omega
  · split
    · omega
    · split <;> omega
/-! counting and finding, from below -/
noncomputable def cntN (P : Int → Prop) (lo : Int) : Nat → Int
  | 0 => 0
  | n + 1 => cntN P lo n + zB (P (lo + n))
noncomputable def cnt (P : Int → Prop) (lo hi : Int) : Int := cntN P lo (hi - lo).toNat
theorem cnt_0 (P : Int → Prop) {lo hi : Int} (h : hi ≤ lo) : cnt P lo hi = 0 := by
  unfold cnt
  rw [show (hi - lo).toNat = 0 by omega]
  rfl
theorem cnt_s (P : Int → Prop) {lo i : Int} (h : lo ≤ i) : cnt P lo (i + 1) = cnt P lo i + zB (P i) := by
  unfold cnt
  rw [show (i + 1 - lo).toNat = (i - lo).toNat + 1 by omega]
  show cntN P lo (i - lo).toNat + zB (P (lo + ((i - lo).toNat : Nat))) = _
  rw [show lo + (((i - lo).toNat : Nat) : Int) = i by omega]
theorem cnt_bd (P : Int → Prop) (lo hi : Int) : 0 ≤ cnt P lo hi ∧ (cnt P lo hi ≤ hi - lo ∨ cnt P lo hi = 0) := by
  have key : ∀ n : Nat, 0 ≤ cntN P lo n ∧ cntN P lo n ≤ n := by
    intro n
    induction n with
    | zero => exact ⟨Int.le_refl _, Int.le_refl _⟩
    | succ n ih =>
      have h := zB_01 (P (lo + n))
      show 0 ≤ cntN P lo n + zB (P (lo + n)) ∧ cntN P lo n + zB (P (lo + n)) ≤ ((n + 1 : Nat) : Int)
      omega
  by_cases h : hi ≤ lo
  · have := cnt_0 P h
    omega
  · have := key (hi - lo).toNat
    unfold cnt
    omega
theorem cnt_z (P : Int → Prop) {lo hi : Int} : hi ≤ lo → cnt P lo hi = 0 := fun h => cnt_0 P h
noncomputable def sumN (F : Int → Int) : Nat → Int
  | 0 => 0
  | n + 1 => sumN F n + F n
noncomputable def sm (F : Int → Int) (n : Int) : Int := sumN F n.toNat
theorem sm_0 (F : Int → Int) : sm F 0 = 0 := rfl
theorem sm_s (F : Int → Int) {i : Int} (h : 0 ≤ i) : sm F (i + 1) = sm F i + F i := by
  unfold sm
  rw [show (i + 1).toNat = i.toNat + 1 by omega]
  show sumN F i.toNat + F (i.toNat : Int) = _
  rw [Int.toNat_of_nonneg h]
/-- the k-th from i on -/
noncomputable def nthN (P : Int → Prop) (i k : Int) : Nat → Int
  | 0 => -1
  | n + 1 => zI (P i) (if k = 0 then i else nthN P (i + 1) (k - 1) n) (nthN P (i + 1) k n)
noncomputable def nth (P : Int → Prop) (i hi k : Int) : Int := nthN P i k (hi - i).toNat
theorem nth_end (P : Int → Prop) {i hi : Int} (k : Int) (h : hi ≤ i) : nth P i hi k = -1 := by
  unfold nth
  rw [show (hi - i).toNat = 0 by omega]
  rfl
theorem nth_step (P : Int → Prop) {i hi : Int} (k : Int) (h : i < hi) : nth P i hi k = zI (P i) (if k = 0 then i else nth P (i + 1) hi (k - 1)) (nth P (i + 1) hi k) := by
  unfold nth
  rw [show (hi - i).toNat = (hi - (i + 1)).toNat + 1 by omega]
  rfl
theorem nth_t {P : Int → Prop} {i hi : Int} (k : Int) (h : i < hi) (hP : P i) : nth P i hi k = if k = 0 then i else nth P (i + 1) hi (k - 1) := by rw [nth_step P k h, zI_t hP]
theorem nth_f {P : Int → Prop} {i hi : Int} (k : Int) (h : i < hi) (hP : ¬ P i) : nth P i hi k = nth P (i + 1) hi k := by rw [nth_step P k h, zI_f hP]
noncomputable def pcnt (σ : bxS) (st p : Int) : Int := cnt (pairP σ st p) (p + 1) (σ 0 0 0)
/-- the k-th pair from the lesser part p on -/
noncomputable def clsN (σ : bxS) (st what : Int) (p k : Int) : Nat → Int
  | 0 => -1
  | n + 1 => if k < pcnt σ st p then (if what = 0 then p else nth (pairP σ st p) (p + 1) (σ 0 0 0) k) else clsN σ st what (p + 1) (k - pcnt σ st p) n
noncomputable def clsF (σ : bxS) (st what p k : Int) : Int := clsN σ st what p k (σ 0 0 0 - p).toNat
theorem cls_end {σ : bxS} (st what k : Int) {p : Int} (h : σ 0 0 0 ≤ p) : clsF σ st what p k = -1 := by
  unfold clsF
  rw [show (σ 0 0 0 - p).toNat = 0 by omega]
  rfl
theorem cls_step {σ : bxS} (st what k : Int) {p : Int} (h : p < σ 0 0 0) : clsF σ st what p k = if k < pcnt σ st p then (if what = 0 then p else nth (pairP σ st p) (p + 1) (σ 0 0 0) k) else clsF σ st what (p + 1) (k - pcnt σ st p) := by
  unfold clsF
  rw [show (σ 0 0 0 - p).toNat = (σ 0 0 0 - (p + 1)).toNat + 1 by omega]
  rfl
def cutp (σ : bxS) (p a f t : Int) : Prop := hLo σ p a < t ∧ f < hHi σ p a
def insP (σ : bxS) (x y z tx ty tz : Int) (i : Int) : Prop := σ 2 i 0 ≠ 0 ∧ cutp σ i 0 x tx ∧ cutp σ i 1 y ty ∧ cutp σ i 2 z tz
