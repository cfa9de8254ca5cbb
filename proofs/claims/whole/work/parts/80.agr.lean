/-! the class's state and the reference's agree: so do their answers -/
def inv (σ τ : bxS) : Prop := bAg σ τ ∧ bx_B τ ∧ bx_M τ ∧ τ 15 0 0 = -1
theorem inv.B {σ τ : bxS} (h : inv σ τ) : bx_B σ := bx_B.ag h.1 h.2.1
theorem eff_id {τ : bxS} (h : τ 15 0 0 = -1) : eff τ = τ := by
  funext f i a
  have hn : ¬ (i = τ 15 0 0 ∧ 0 ≤ i ∧ a = τ 16 0 0) := by omega
  unfold eff mvd
  by_cases h7 : f = 7
  · subst h7; rw [if_pos rfl, if_neg hn, Int.add_zero]
  · rw [if_neg h7]
    by_cases h8 : f = 8
    · subst h8; rw [if_pos rfl, if_neg hn, Int.add_zero]
    · rw [if_neg h8]
theorem pcnt_ag {σ' σ : bxS} (h : bAg σ' σ) : pcnt σ' = pcnt σ := by funext st p; unfold pcnt; rw [pairP_ag h, h 0 (by omega)]
theorem clsN_ag {σ' σ : bxS} (h : bAg σ' σ) (st wh : Int) : ∀ (n : Nat) (p k : Int), clsN σ' st wh p k n = clsN σ st wh p k n := by
  intro n
  induction n with
  | zero => exact fun _ _ => rfl
  | succ n ih =>
    intro p k
    unfold clsN
    rw [pcnt_ag h, pairP_ag h, h 0 (by omega), ih]
theorem clsF_ag {σ' σ : bxS} (h : bAg σ' σ) (st wh p k : Int) : clsF σ' st wh p k = clsF σ st wh p k := by unfold clsF; rw [clsN_ag h, h 0 (by omega)]
theorem insP_ag {σ' σ : bxS} (h : bAg σ' σ) : insP σ' = insP σ := by
  funext x y z tx ty tz i
  unfold insP cutp
  rw [hLo_ag h, hHi_ag h, h 2 (by omega)]
theorem nth_congr {P P' : Int → Prop} {hi : Int} : ∀ (n : Nat) (i k : Int), (hi - i).toNat = n → (∀ j, i ≤ j → j < hi → (P j ↔ P' j)) → nth P i hi k = nth P' i hi k := by
  intro n
  induction n with
  | zero => intro i k hn _; rw [nth_end P k (by omega), nth_end P' k (by omega)]
  | succ n ih =>
    intro i k hn h
    have hi2 : i < hi := by omega
    have e0 := h i (Int.le_refl _) hi2
    have h' : ∀ j, i + 1 ≤ j → j < hi → (P j ↔ P' j) := fun j a b => h j (by omega) b
    by_cases hP : P i
    · rw [nth_t k hi2 hP, nth_t k hi2 (e0.mp hP), ih (i + 1) (k - 1) (by omega) h']
    · rw [nth_f k hi2 hP, nth_f k hi2 (fun q => hP (e0.mpr q)), ih (i + 1) k (by omega) h']
section AGV
variable {σ τ : bxS}
theorem v_pair (h : inv σ τ) (p q : Int) : stO σ p q = stO (eff τ) p q := by rw [eff_id h.2.2.2, stO_ag h.1]
theorem v_lo (h : inv σ τ) {p : Int} (hp : 0 ≤ p ∧ p < 60 ∧ τ 2 p 0 ≠ 0) (a : Int) : mH (eff τ) p a 0 0 = hLo σ p a := by
  rw [mH_lo (wf_eff h.2.1 hp), eff_id h.2.2.2, hLo_ag h.1, Int.sub_zero]
theorem v_hi (h : inv σ τ) {p : Int} (hp : 0 ≤ p ∧ p < 60 ∧ τ 2 p 0 ≠ 0) (a : Int) : mH (eff τ) p a 1 0 = hHi σ p a := by
  rw [mH_hi (wf_eff h.2.1 hp), eff_id h.2.2.2, hHi_ag h.1, Int.add_zero]
theorem v_th (h : inv σ τ) (p : Int) : σ 2 p 0 = τ 2 p 0 := by rw [h.1 2 (by omega)]
theorem v_made (h : inv σ τ) : σ 0 0 0 = τ 0 0 0 := by rw [h.1 0 (by omega)]
theorem v_hull (h : inv σ τ) {p : Int} (hp : 0 ≤ p ∧ p < 60 ∧ τ 2 p 0 ≠ 0) (a z : Int) : (if z = 0 then hLo σ p a else hHi σ p a) = (if z = 0 then mH (eff τ) p a 0 0 else mH (eff τ) p a 1 0) := by
  rw [v_lo h hp, v_hi h hp]
theorem v_clashes (h : inv σ τ) (st : Int) : sm (pcnt σ st) (σ 0 0 0) = sm (pcnt (eff τ) st) (τ 0 0 0) := by rw [eff_id h.2.2.2, pcnt_ag h.1, v_made h]
theorem v_clash (h : inv σ τ) (st wh k : Int) : clsF σ st wh 0 k = clsF (eff τ) st wh 0 k := by rw [eff_id h.2.2.2, clsF_ag h.1]
theorem v_inside (h : inv σ τ) (x y z tx ty tz k : Int) : nth (insP σ x y z tx ty tz) 0 (σ 0 0 0) k = nth (insM (eff τ) x y z tx ty tz) 0 (τ 0 0 0) k := by
  rw [v_made h]
  refine nth_congr _ 0 k rfl (fun j h0 h1 => ?_)
  have hb := bB0 h.2.1
  by_cases ht : τ 2 j 0 = 0
  · exact ⟨fun q => absurd (by rw [v_th h]; exact ht) q.1, fun q => absurd (show eff τ 2 j 0 = 0 from ht) q.1⟩
  · have hj : 0 ≤ j ∧ j < 60 ∧ τ 2 j 0 ≠ 0 := ⟨h0, by omega, ht⟩
    unfold insP insM cutp
    rw [v_lo h hj, v_lo h hj, v_lo h hj, v_hi h hj, v_hi h hj, v_hi h hj]
    have e2 : eff τ 2 j 0 = σ 2 j 0 := by rw [v_th h]; rfl
    rw [e2]
theorem zB_val {v : Int} (h : v = 0 ∨ v = 1) : zB (v ≠ 0) = v := by
  rcases h with rfl | rfl
  · exact zB_f (fun q => q rfl)
  · exact zB_t (by decide)
theorem v_free (h : inv σ τ) {a b : Int} (ha : 0 ≤ a ∧ a ≤ 7) (hb : 0 ≤ b ∧ b ≤ 7) : zB (σ 9 (a * 8 + b) 0 ≠ 0) = τ 9 (8 * a + b) 0 := by
  rw [h.1 9 (by omega), show a * 8 + b = 8 * a + b by omega]
  exact zB_val (bB9 h.2.1 (by omega) (by omega))
end AGV
/-! what the calls leave: the states agree again, within their bounds -/
theorem ag_sym {σ τ : bxS} (h : bAg σ τ) : bAg τ σ := fun f hf => (h f hf).symm
theorem ag_up {σ τ : bxS} (h : bAg σ τ) (f : Nat) (i a z : Int) : bAg (up3 σ f i a z) (up3 τ f i a z) := fun f' hf => by
  funext i' a'
  unfold up3
  rw [h f' hf]
/-- fields above the tenth that change nothing of the agreement -/
theorem inv_c {σ σ' τ : bxS} (h : inv σ τ) (hc : bAg σ' σ) : inv σ' τ := ⟨hc.tr h.1, h.2⟩
theorem inv_m {σ τ : bxS} (h : inv σ τ) {f : Nat} (hf : 10 ≤ f) (h2 : f < 15) (N : Int → Int) : inv σ (setF τ f N) := by
  refine ⟨h.1.tr (ag_sym (ag_setF τ hf N)), bx_B.ag (ag_setF τ hf N) h.2.1, bx_M_setF h2 N h.2.2.1, ?_⟩
  show setF τ f N 15 0 0 = -1
  unfold setF
  rw [if_neg (by omega)]
  exact h.2.2.2
theorem inv_mv {σ τ t : bxS} (h : inv σ τ) (hq : mvq τ t) : inv σ t := by
  obtain ⟨A, D, rfl, hb⟩ := hq
  exact ⟨h.1.tr (ag_sym (ag_mv3 τ (-1) A D)), bx_B.ag (ag_mv3 τ (-1) A D) h.2.1, bx_M_mv3 τ ⟨by omega, by omega⟩ hb.1 hb.2, rfl⟩
theorem bM_up {τ : bxS} (h : bx_M τ) {f : Nat} (hf : f < 15) (i a z : Int) : bx_M (up3 τ f i a z) := by
  unfold bx_M at *
  rw [up3_n _ (by omega), up3_n _ (by omega), up3_n _ (by omega)]
  exact h
theorem inv_up {σ τ : bxS} (h : inv σ τ) {f : Nat} (hf : f < 15) {i a z : Int} (hB : bx_B (up3 τ f i a z)) : inv (up3 σ f i a z) (up3 τ f i a z) :=
  ⟨ag_up h.1 f i a z, hB, bM_up h.2.2.1 hf i a z, by rw [up3_n _ (by omega)]; exact h.2.2.2⟩
/-- a part's own bounds say nothing of other parts -/
theorem bBp_i {τ τ' : bxS} {k : Int} (h : ∀ f a, f < 10 → τ' f k a = τ f k a) (hp : bx_Bp τ k) : bx_Bp τ' k := by
  unfold bx_Bp at *
  rw [h 3 0 (by omega), h 4 0 (by omega), h 5 0 (by omega), h 6 0 (by omega)]
  refine ⟨hp.1, hp.2.1, hp.2.2.1, hp.2.2.2.1, fun a h0 h1 => ?_, hp.2.2.2.2.2.1, fun h5 a h0 h1 hn => ?_⟩
  · rw [h 7 a (by omega), h 8 a (by omega)]; exact hp.2.2.2.2.1 a h0 h1
  · rw [h 7 a (by omega), h 8 a (by omega)]; exact hp.2.2.2.2.2.2 h5 a h0 h1 hn
theorem bB_margin {τ : bxS} (hB : bx_B τ) {p z : Int} (hz : 0 ≤ z ∧ z ≤ 50) : bx_B (up3 τ 4 p 0 z) := by
  refine ⟨hB.1, hB.2.1, hB.2.2.1, fun k hk => ?_⟩
  have hk' : 0 ≤ k ∧ k < 60 ∧ τ 2 k 0 ≠ 0 := hk
  have hb := hB.2.2.2 k hk'
  refine ⟨hb.1, ?_, hb.2.2⟩
  by_cases e : k = p
  · subst e; rw [up3_s]; exact hz
  · rw [up3_i _ _ e]; exact hb.2.1
theorem bB_free {τ : bxS} (hB : bx_B τ) {i z : Int} (hz : z = 0 ∨ z = 1) : bx_B (up3 τ 9 i 0 z) := by
  refine ⟨hB.1, hB.2.1, fun j h0 h1 => ?_, hB.2.2.2⟩
  by_cases e : j = i
  · subst e; rw [up3_s]; exact hz
  · rw [up3_i _ _ e]; exact hB.2.2.1 j h0 h1
theorem bB_move {τ : bxS} (hB : bx_B τ) {p a d : Int} (hp : 0 ≤ p ∧ p < 60 ∧ τ 2 p 0 ≠ 0) (ha : 0 ≤ a ∧ a < 3) (hs : 0 ≤ τ 7 p a + d ∧ τ 8 p a + d ≤ 1000) : bx_B (up3 (up3 τ 7 p a (τ 7 p a + d)) 8 p a (τ 8 p a + d)) := by
  refine ⟨hB.1, hB.2.1, hB.2.2.1, fun k hk => ?_⟩
  have hk' : 0 ≤ k ∧ k < 60 ∧ τ 2 k 0 ≠ 0 := hk
  have hb := hB.2.2.2 k hk'
  have e7 : ∀ x, up3 (up3 τ 7 p a (τ 7 p a + d)) 8 p a (τ 8 p a + d) 7 k x = if k = p ∧ x = a then τ 7 p a + d else τ 7 k x := fun x => by simp [up3]
  have e8 : ∀ x, up3 (up3 τ 7 p a (τ 7 p a + d)) 8 p a (τ 8 p a + d) 8 k x = if k = p ∧ x = a then τ 8 p a + d else τ 8 k x := fun x => by simp [up3]
  have h7 := bB7 hB hp ha.1 ha.2
  refine ⟨hb.1, hb.2.1, hb.2.2.1, hb.2.2.2.1, fun x h0 h1 => ?_, hb.2.2.2.2.2.1, fun h5 x h0 h1 hn => ?_⟩
  · rw [e7, e8]
    have := hb.2.2.2.2.1 x h0 h1
    split <;> omega
  · rw [e7, e8]
    have := hb.2.2.2.2.2.2 h5 x h0 h1 hn
    by_cases e : k = p ∧ x = a
    · obtain ⟨rfl, rfl⟩ := e
      rw [if_pos ⟨rfl, rfl⟩, if_pos ⟨rfl, rfl⟩]; omega
    · rw [if_neg e, if_neg e]; exact this
theorem bB_drop {τ : bxS} (hB : bx_B τ) (p z : Int) : bx_B (up3 (up3 τ 2 p 0 0) 1 0 0 z) := by
  refine ⟨hB.1, fun k h0 h1 => ?_, hB.2.2.1, fun k hk => ?_⟩
  · rw [up3_n _ (by omega)]
    by_cases e : k = p
    · subst e; rw [up3_s]; exact Or.inl rfl
    · rw [up3_i _ _ e]; exact hB.2.1 k h0 h1
  · obtain ⟨h0, h1, h2⟩ := hk
    rw [up3_n _ (by omega)] at h2
    by_cases e : k = p
    · subst e; rw [up3_s] at h2; exact absurd rfl h2
    · rw [up3_i _ _ e] at h2; exact hB.2.2.2 k ⟨h0, h1, h2⟩
