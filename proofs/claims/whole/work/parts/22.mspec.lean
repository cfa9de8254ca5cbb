/-! what the reference computes: ε is its state with the part that it tries elsewhere moved -/
def mvd (τ : bxS) (p a : Int) : Int := if p = τ 15 0 0 ∧ 0 ≤ p ∧ a = τ 16 0 0 then τ 17 0 0 else 0
def eff (τ : bxS) : bxS := fun f i a => if f = 7 then τ 7 i a + mvd τ i a else if f = 8 then τ 8 i a + mvd τ i a else τ f i a
theorem eff_7 (τ : bxS) (i a : Int) : eff τ 7 i a = τ 7 i a + mvd τ i a := rfl
theorem eff_8 (τ : bxS) (i a : Int) : eff τ 8 i a = τ 8 i a + mvd τ i a := rfl
def bx_M (τ : bxS) : Prop := (-1 ≤ τ 15 0 0 ∧ τ 15 0 0 < 60) ∧ (0 ≤ τ 16 0 0 ∧ τ 16 0 0 ≤ 2) ∧ -1000 ≤ τ 17 0 0 ∧ τ 17 0 0 ≤ 1000
theorem mvd_bd {τ : bxS} (h : bx_M τ) (p a : Int) : -1000 ≤ mvd τ p a ∧ mvd τ p a ≤ 1000 := by
  unfold mvd
  obtain ⟨-, -, h⟩ := h
  split <;> omega
def acr (ε : bxS) (p a : Int) : Prop := 0 ≤ ε 5 p 0 ∧ ε 5 p 0 ≠ a
noncomputable def mE (ε : bxS) (p a hi gr : Int) : Int := zI (acr ε p a) (if hi = 0 then ε 7 p a else ε 8 p a) (if hi = 0 then ε 7 p a - gr else ε 8 p a + gr)
noncomputable def mH (ε : bxS) (p a hi gr : Int) : Int := zI (acr ε p a) (if hi = 0 then ε 7 p a - (ε 6 p 0 + gr) else ε 8 p a + (ε 6 p 0 + gr)) (if hi = 0 then ε 7 p a - gr else ε 8 p a + gr)
theorem mE_bd {τ : bxS} (hB : bx_B τ) (hM : bx_M τ) {p a hi gr : Int} (hp : 0 ≤ p ∧ p < 60 ∧ τ 2 p 0 ≠ 0) (h0 : 0 ≤ a) (h1 : a < 3) (hg : 0 ≤ gr ∧ gr ≤ 50) : -2000 ≤ mE (eff τ) p a hi gr ∧ mE (eff τ) p a hi gr ≤ 3000 := by
  have q7 := bB7 hB hp h0 h1
  have qm := mvd_bd hM p a
  unfold mE zI
  rw [eff_7, eff_8]
  split <;> split <;> omega
theorem mH_bd {τ : bxS} (hB : bx_B τ) (hM : bx_M τ) {p a hi gr : Int} (hp : 0 ≤ p ∧ p < 60 ∧ τ 2 p 0 ≠ 0) (h0 : 0 ≤ a) (h1 : a < 3) (hg : 0 ≤ gr ∧ gr ≤ 50) : -2000 ≤ mH (eff τ) p a hi gr ∧ mH (eff τ) p a hi gr ≤ 3000 := by
  have q7 := bB7 hB hp h0 h1
  have q6 := bB6 hB hp
  have qm := mvd_bd hM p a
  unfold mH zI
  rw [eff_7, eff_8]
  have e6 : eff τ 6 p 0 = τ 6 p 0 := rfl
  rw [e6]
  split <;> split <;> omega
theorem acr_eff (τ : bxS) (p a : Int) : acr (eff τ) p a ↔ (0 ≤ τ 5 p 0 ∧ τ 5 p 0 ≠ a) := Iff.rfl
def offv (v f t : Int) : Int := if v < f then f - v else if t < v then v - t else 0
theorem offv_bd {v f t : Int} (hv : -3000 ≤ v ∧ v ≤ 3000) (hf : -3000 ≤ f ∧ f ≤ 3000) (ht : -3000 ≤ t ∧ t ≤ 3000) : 0 ≤ offv v f t ∧ offv v f t ≤ 6000 := by
  unfold offv
  split <;> (try split) <;> omega
noncomputable def tgap (ε : bxS) (p q n a : Int) : Int := offv (mE ε p a 0 0) (mE ε q a 0 n) (mE ε q a 1 n)
noncomputable def tsum (ε : bxS) (p q n ax : Int) : Int := ((if 0 = ax then 0 else tgap ε p q n 0 * tgap ε p q n 0) + (if 1 = ax then 0 else tgap ε p q n 1 * tgap ε p q n 1)) + (if 2 = ax then 0 else tgap ε p q n 2 * tgap ε p q n 2)
noncomputable def tbx (ε : bxS) (p m q n ax : Int) : Prop := (mE ε p ax 0 m < mE ε q ax 1 n ∧ mE ε q ax 0 n < mE ε p ax 1 m) ∧ tsum ε p q n ax < (ε 6 p 0 + m) * (ε 6 p 0 + m)
noncomputable def hmt (ε : bxS) (p m q a : Int) : Prop := mH ε p a 0 m < mH ε q a 1 0 ∧ mH ε q a 0 0 < mH ε p a 1 m
noncomputable def dsum (ε : bxS) (p q ax : Int) : Int := ((if 0 = ax then 0 else (mE ε p 0 0 0 - mE ε q 0 0 0) * (mE ε p 0 0 0 - mE ε q 0 0 0)) + (if 1 = ax then 0 else (mE ε p 1 0 0 - mE ε q 1 0 0) * (mE ε p 1 0 0 - mE ε q 1 0 0))) + (if 2 = ax then 0 else (mE ε p 2 0 0 - mE ε q 2 0 0) * (mE ε p 2 0 0 - mE ε q 2 0 0))
noncomputable def ttx (ε : bxS) (p m q ax : Int) : Prop := (mE ε p ax 0 m < mE ε q ax 1 0 ∧ mE ε q ax 0 0 < mE ε p ax 1 m) ∧ dsum ε p q ax < (ε 6 p 0 + m + ε 6 q 0) * (ε 6 p 0 + m + ε 6 q 0)
