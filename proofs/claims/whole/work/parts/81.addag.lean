/-! a new part on both sides -/
theorem ag_set3 {σ τ : bxS} (h : bAg σ τ) (f : Nat) (K z : Int) : bAg (set3 σ f K z) (set3 τ f K z) := fun f' hf => by
  funext i' a'
  unfold set3
  rw [h f' hf]
theorem ag_newS {σ τ : bxS} (h : bAg σ τ) (K k ax r : Int) : bAg (newS σ K k ax r) (newS τ K k ax r) := by
  unfold newS
  exact ag_set3 (ag_set3 (ag_up (ag_up (ag_up (ag_up (ag_up h _ _ _ _) _ _ _ _) _ _ _ _) _ _ _ _) _ _ _ _) _ _ _) _ _ _
theorem ag_setC {σ τ : bxS} (h : bAg σ τ) (p a f t : Int) : bAg (setC σ p a f t) (setC τ p a f t) := ag_up (ag_up h _ _ _ _) _ _ _ _
theorem ag_addC {σ τ : bxS} (h : bAg σ τ) : bAg (addC σ) (addC τ) := by
  unfold addC
  rw [h 0 (by omega), h 1 (by omega)]
  exact ag_up (ag_up (ag_up h _ _ _ _) _ _ _ _) _ _ _ _
theorem ag_boxC {σ τ : bxS} (h : bAg σ τ) (k x y z dx dy dz : Int) : bAg (boxC σ k x y z dx dy dz) (boxC τ k x y z dx dy dz) := by
  unfold boxC
  rw [h 0 (by omega)]
  exact ag_addC (ag_setC (ag_setC (ag_setC (ag_newS h _ _ _ _) _ _ _ _) _ _ _ _) _ _ _ _)
theorem ag_tubC {σ τ : bxS} (h : bAg σ τ) (k a f n u v r : Int) : bAg (tubC σ k a f n u v r) (tubC τ k a f n u v r) := by
  unfold tubC
  rw [h 0 (by omega)]
  exact ag_addC (ag_setC (ag_setC (ag_setC (ag_newS h _ _ _ _) _ _ _ _) _ _ _ _) _ _ _ _)
set_option maxHeartbeats 4000000 in
theorem ag_boxS (τ : bxS) (k x y z dx dy dz : Int) : bAg (boxC τ k x y z dx dy dz) (boxS τ k x y z dx dy dz) := fun f hf => by
  funext i a
  rcases (by omega : f = 0 ∨ f = 1 ∨ f = 2 ∨ f = 3 ∨ f = 4 ∨ f = 5 ∨ f = 6 ∨ f = 7 ∨ f = 8 ∨ f = 9) with rfl | rfl | rfl | rfl | rfl | rfl | rfl | rfl | rfl | rfl <;> simp [boxC, addC, setC, newS, set3, up3, boxS, layS, sideS]
  all_goals (repeat' split) <;> first | rfl | omega
set_option maxHeartbeats 4000000 in
theorem ag_tubS (τ : bxS) (k a f n u v r : Int) (ha : 0 ≤ a ∧ a ≤ 2) : bAg (tubC τ k a f n u v r) (tubS τ k a f n u v r) := fun f hf => by
  funext i a'
  rcases (by omega : a = 0 ∨ a = 1 ∨ a = 2) with rfl | rfl | rfl <;> rcases (by omega : f = 0 ∨ f = 1 ∨ f = 2 ∨ f = 3 ∨ f = 4 ∨ f = 5 ∨ f = 6 ∨ f = 7 ∨ f = 8 ∨ f = 9) with rfl | rfl | rfl | rfl | rfl | rfl | rfl | rfl | rfl | rfl <;> simp [tubC, addC, setC, newS, set3, up3, tubS, layS, sideS, uA, vA]
  all_goals (repeat' split) <;> first | rfl | omega
/-- the state with a new part of fields k, ax, r and sides X, Y -/
def nwS (τ : bxS) (k ax r : Int) (X Y : Int → Int) (τ' : bxS) : Prop :=
  τ' 0 0 0 = τ 0 0 0 + 1 ∧ (∀ i, τ' 2 i 0 = if i = τ 0 0 0 then 1 else τ 2 i 0) ∧ (∀ i, τ' 9 i 0 = τ 9 i 0) ∧ (∀ i f a, i ≠ τ 0 0 0 → 3 ≤ f → f ≤ 8 → τ' f i a = τ f i a) ∧ τ' 3 (τ 0 0 0) 0 = k ∧ τ' 4 (τ 0 0 0) 0 = 0 ∧ τ' 5 (τ 0 0 0) 0 = ax ∧ τ' 6 (τ 0 0 0) 0 = r ∧ (∀ a, 0 ≤ a → a < 3 → τ' 7 (τ 0 0 0) a = X a ∧ τ' 8 (τ 0 0 0) a = Y a)
theorem bB_new {τ τ' : bxS} (hB : bx_B τ) (hm : τ 0 0 0 < 60) {k ax r : Int} {X Y : Int → Int} (h : nwS τ k ax r X Y τ') (hk : 0 ≤ k ∧ k ≤ 7) (hax : -1 ≤ ax ∧ ax ≤ 2) (hr : 0 ≤ r ∧ r ≤ 200) (hXY : ∀ a, 0 ≤ a → a < 3 → 0 ≤ X a ∧ X a ≤ Y a ∧ Y a ≤ 1000) (hbox : ax = -1 → r = 0) (htub : ax ≠ -1 → ∀ a, 0 ≤ a → a < 3 → a ≠ ax → X a = Y a) : bx_B τ' := by
  obtain ⟨h0, h2, h9, ho, h3, h4, h5, h6, h7⟩ := h
  have hb0 := bB0 hB
  refine ⟨by rw [h0]; omega, fun i a b => ?_, fun i a b => by rw [h9]; exact hB.2.2.1 i a b, fun i hi => ?_⟩
  · rw [h2, h0]
    have := hB.2.1 i a b
    split <;> omega
  · obtain ⟨a, b, c⟩ := hi
    rw [h2] at c
    by_cases e : i = τ 0 0 0
    · subst e
      refine ⟨by rw [h3]; exact hk, by rw [h4]; omega, by rw [h5]; exact hax, by rw [h6]; exact hr, fun x x0 x1 => ?_, fun q => ?_, fun q x x0 x1 xn => ?_⟩
      · rw [(h7 x x0 x1).1, (h7 x x0 x1).2]; exact hXY x x0 x1
      · rw [h5] at q; rw [h6]; exact hbox q
      · rw [h5] at q xn; rw [(h7 x x0 x1).1, (h7 x x0 x1).2]; exact htub q x x0 x1 xn
    · rw [if_neg e] at c
      have hb := hB.2.2.2 i ⟨a, b, c⟩
      refine ⟨by rw [ho i 3 0 e (by omega) (by omega)]; exact hb.1, by rw [ho i 4 0 e (by omega) (by omega)]; exact hb.2.1, by rw [ho i 5 0 e (by omega) (by omega)]; exact hb.2.2.1, by rw [ho i 6 0 e (by omega) (by omega)]; exact hb.2.2.2.1, fun x x0 x1 => ?_, ?_, ?_⟩
      · rw [ho i 7 x e (by omega) (by omega), ho i 8 x e (by omega) (by omega)]; exact hb.2.2.2.2.1 x x0 x1
      · rw [ho i 5 0 e (by omega) (by omega), ho i 6 0 e (by omega) (by omega)]; exact hb.2.2.2.2.2.1
      · rw [ho i 5 0 e (by omega) (by omega)]
        intro q x x0 x1 xn
        rw [ho i 7 x e (by omega) (by omega), ho i 8 x e (by omega) (by omega)]
        exact hb.2.2.2.2.2.2 q x x0 x1 xn
set_option maxHeartbeats 4000000 in
theorem nw_box (τ : bxS) (k x y z dx dy dz : Int) : nwS τ k (-1) 0 (fun a => if a = 0 then x else if a = 1 then y else z) (fun a => if a = 0 then x + dx else if a = 1 then y + dy else z + dz) (boxS τ k x y z dx dy dz) := by
  refine ⟨by simp [boxS, layS, sideS, up3], fun i => by simp [boxS, layS, sideS, up3], fun i => by simp [boxS, layS, sideS, up3], fun i f a hi h3 h8 => ?_, by simp [boxS, layS, sideS, up3], by simp [boxS, layS, sideS, up3], by simp [boxS, layS, sideS, up3], by simp [boxS, layS, sideS, up3], fun a a0 a1 => ?_⟩
  · rcases (by omega : f = 3 ∨ f = 4 ∨ f = 5 ∨ f = 6 ∨ f = 7 ∨ f = 8) with rfl | rfl | rfl | rfl | rfl | rfl <;> simp [boxS, layS, sideS, up3, hi]
  · rcases (by omega : a = 0 ∨ a = 1 ∨ a = 2) with rfl | rfl | rfl <;> simp [boxS, layS, sideS, up3]
set_option maxHeartbeats 4000000 in
theorem nw_tub (τ : bxS) (k ax f0 n u v r : Int) (ha : 0 ≤ ax ∧ ax ≤ 2) : nwS τ k ax r (fun a => if a = ax then f0 else if a = uA ax then u else v) (fun a => if a = ax then f0 + n else if a = uA ax then u else v) (tubS τ k ax f0 n u v r) := by
  refine ⟨by simp [tubS, layS, sideS, up3], fun i => by simp [tubS, layS, sideS, up3], fun i => by simp [tubS, layS, sideS, up3], fun i f a hi h3 h8 => ?_, by simp [tubS, layS, sideS, up3], by simp [tubS, layS, sideS, up3], by simp [tubS, layS, sideS, up3], by simp [tubS, layS, sideS, up3], fun a a0 a1 => ?_⟩
  · rcases (by omega : f = 3 ∨ f = 4 ∨ f = 5 ∨ f = 6 ∨ f = 7 ∨ f = 8) with rfl | rfl | rfl | rfl | rfl | rfl <;> simp [tubS, layS, sideS, up3, hi]
  · rcases (by omega : ax = 0 ∨ ax = 1 ∨ ax = 2) with rfl | rfl | rfl <;> rcases (by omega : a = 0 ∨ a = 1 ∨ a = 2) with rfl | rfl | rfl <;> simp [tubS, layS, sideS, up3, uA, vA]
theorem mv_box (τ : bxS) (k x y z dx dy dz : Int) (f : Nat) (hf : 15 ≤ f) : boxS τ k x y z dx dy dz f = τ f := by
  funext i a
  unfold boxS layS sideS up3
  rw [if_neg (by omega), if_neg (by omega), if_neg (by omega), if_neg (by omega), if_neg (by omega), if_neg (by omega), if_neg (by omega), if_neg (by omega), if_neg (by omega), if_neg (by omega), if_neg (by omega), if_neg (by omega), if_neg (by omega)]
theorem mv_tub (τ : bxS) (k ax f0 n u v r : Int) (f : Nat) (hf : 15 ≤ f) : tubS τ k ax f0 n u v r f = τ f := by
  funext i a
  unfold tubS layS sideS up3
  rw [if_neg (by omega), if_neg (by omega), if_neg (by omega), if_neg (by omega), if_neg (by omega), if_neg (by omega), if_neg (by omega), if_neg (by omega), if_neg (by omega), if_neg (by omega), if_neg (by omega), if_neg (by omega), if_neg (by omega)]
theorem inv_new {σ' τ τ' : bxS} {σ : bxS} (h : inv σ τ) (ha : bAg σ' τ') (hB : bx_B τ') (hf : ∀ f, 15 ≤ f → τ' f = τ f) : inv σ' τ' := by
  refine ⟨ha, hB, ?_, ?_⟩
  · unfold bx_M
    rw [hf 15 (by omega), hf 16 (by omega), hf 17 (by omega)]
    exact h.2.2.1
  · rw [hf 15 (by omega)]; exact h.2.2.2
theorem inv_box {σ τ : bxS} (h : inv σ τ) {k x y z dx dy dz : Int} (hg : ((0 ≤ k ∧ k ≤ 7) ∧ (0 ≤ x ∧ x ≤ 1000 ∧ 1 ≤ dx ∧ dx ≤ 1000 ∧ x + dx ≤ 1000) ∧ (0 ≤ y ∧ y ≤ 1000 ∧ 1 ≤ dy ∧ dy ≤ 1000 ∧ y + dy ≤ 1000) ∧ (0 ≤ z ∧ z ≤ 1000 ∧ 1 ≤ dz ∧ dz ≤ 1000 ∧ z + dz ≤ 1000)) ∧ τ 0 0 0 < 60) : inv (boxC σ k x y z dx dy dz) (boxS τ k x y z dx dy dz) := by
  refine inv_new h ((ag_boxC h.1 k x y z dx dy dz).tr (ag_boxS τ k x y z dx dy dz)) (bB_new h.2.1 hg.2 (nw_box τ k x y z dx dy dz) (by omega) (by omega) (by omega) (fun a a0 a1 => ?_) (fun _ => rfl) (fun q => absurd rfl q)) (mv_box τ k x y z dx dy dz)
  rcases (by omega : a = 0 ∨ a = 1 ∨ a = 2) with rfl | rfl | rfl <;> simp <;> omega
theorem inv_tub {σ τ : bxS} (h : inv σ τ) {k a f n u v r : Int} (hg : ((0 ≤ k ∧ k ≤ 7) ∧ (0 ≤ a ∧ a ≤ 2) ∧ (0 ≤ f ∧ f ≤ 1000 ∧ 1 ≤ n ∧ n ≤ 1000 ∧ f + n ≤ 1000) ∧ (0 ≤ u ∧ u ≤ 1000) ∧ (0 ≤ v ∧ v ≤ 1000) ∧ 1 ≤ r ∧ r ≤ 200) ∧ τ 0 0 0 < 60) : inv (tubC σ k a f n u v r) (tubS τ k a f n u v r) := by
  refine inv_new h ((ag_tubC h.1 k a f n u v r).tr (ag_tubS τ k a f n u v r (by omega))) (bB_new h.2.1 hg.2 (nw_tub τ k a f n u v r (by omega)) (by omega) (by omega) (by omega) (fun x x0 x1 => ?_) (fun q => by omega) (fun q x x0 x1 xn => ?_)) (mv_tub τ k a f n u v r)
  · show 0 ≤ (if x = a then f else if x = uA a then u else v) ∧ (if x = a then f else if x = uA a then u else v) ≤ (if x = a then f + n else if x = uA a then u else v) ∧ (if x = a then f + n else if x = uA a then u else v) ≤ 1000
    split
    · omega
    · split <;> omega
  · show (if x = a then f else if x = uA a then u else v) = (if x = a then f + n else if x = uA a then u else v)
    rw [if_neg xn, if_neg xn]
