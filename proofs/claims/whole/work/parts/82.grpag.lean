/-! groups: names don't rest on what the row held; the two ways of counting come to the same -/
def eqN (n : Int) (N N' : Int → Int) : Prop := ∀ t, 0 ≤ t → t < n → N t = N' t
theorem eqN_nin (N N' : Int → Int) (n : Int) : eqN n (nin N n) (nin N' n) := fun t h0 h1 => by
  unfold nin
  rw [if_pos ⟨h0, h1⟩, if_pos ⟨h0, h1⟩]
theorem eqN_gstep {σ : bxS} {N N' : Int → Int} (h : eqN (σ 0 0 0) N N') {i j : Int} (hi : 0 ≤ i ∧ i < σ 0 0 0) (hj : 0 ≤ j ∧ j < σ 0 0 0) : eqN (σ 0 0 0) (gstep σ i j N) (gstep σ i j N') := fun t h0 h1 => by
  have ei := h i hi.1 hi.2
  have ej := h j hj.1 hj.2
  have et := h t h0 h1
  unfold gstep
  rw [ei, ej]
  by_cases c : N' i ≠ N' j ∧ pairP σ 2 i j
  · rw [zA_t c, zA_t c]
    unfold jnp
    rw [et]
  · rw [zA_f c, zA_f c]; exact et
theorem eqN_gI {σ : bxS} {N N' : Int → Int} (h : eqN (σ 0 0 0) N N') {i : Int} (hi : 0 ≤ i ∧ i < σ 0 0 0) : ∀ n : Nat, (n : Int) ≤ σ 0 0 0 - (i + 1) → eqN (σ 0 0 0) (gI σ i N n) (gI σ i N' n) := by
  intro n
  induction n with
  | zero => exact fun _ => h
  | succ n ih => exact fun hn => eqN_gstep (ih (by omega)) hi ⟨by omega, by omega⟩
theorem eqN_gO {σ : bxS} {N N' : Int → Int} (h : eqN (σ 0 0 0) N N') : ∀ n : Nat, (n : Int) ≤ σ 0 0 0 → eqN (σ 0 0 0) (gO σ N n) (gO σ N' n) := by
  intro n
  induction n with
  | zero => exact fun _ => h
  | succ n ih => exact fun hn => eqN_gI (ih (by omega)) ⟨by omega, by omega⟩ _ (by omega)
theorem eqN_gnm (σ : bxS) (N N' : Int → Int) : eqN (σ 0 0 0) (gnm σ N) (gnm σ N') := by
  by_cases h : 0 ≤ σ 0 0 0
  · exact eqN_gO (eqN_nin N N' _) _ (by omega)
  · exact fun t h0 h1 => by omega
/-- two parts of one name are both there -/
def alone (σ : bxS) (N : Int → Int) : Prop := ∀ t t', 0 ≤ t → t < σ 0 0 0 → 0 ≤ t' → t' < σ 0 0 0 → t ≠ t' → N t = N t' → σ 2 t 0 ≠ 0 ∧ σ 2 t' 0 ≠ 0
theorem alone_nin (σ : bxS) (N : Int → Int) : alone σ (nin N (σ 0 0 0)) := fun t t' a b c d n e => by
  unfold nin at e
  rw [if_pos ⟨a, b⟩, if_pos ⟨c, d⟩] at e
  exact absurd e n
theorem alone_gstep {σ : bxS} {N : Int → Int} (h : alone σ N) {i j : Int} (hi : 0 ≤ i ∧ i < σ 0 0 0) (hj : 0 ≤ j ∧ j < σ 0 0 0) : alone σ (gstep σ i j N) := by
  unfold gstep
  by_cases c : N i ≠ N j ∧ pairP σ 2 i j
  · rw [zA_t c]
    have pi : σ 2 i 0 ≠ 0 := c.2.1
    have pj : σ 2 j 0 ≠ 0 := c.2.2.1
    have mem : ∀ t, 0 ≤ t → t < σ 0 0 0 → (N t = N i ∨ N t = N j) → σ 2 t 0 ≠ 0 := by
      intro t a b e
      rcases e with e | e
      · by_cases q : t = i
        · rw [q]; exact pi
        · exact (h t i a b hi.1 hi.2 q e).1
      · by_cases q : t = j
        · rw [q]; exact pj
        · exact (h t j a b hj.1 hj.2 q e).1
    intro t t' a b a' b' n e
    unfold jnp at e
    by_cases r1 : 0 ≤ t ∧ t < σ 0 0 0 ∧ N t = max (N i) (N j)
    · by_cases r2 : 0 ≤ t' ∧ t' < σ 0 0 0 ∧ N t' = max (N i) (N j)
      · exact h t t' a b a' b' n (by rw [r1.2.2, r2.2.2])
      · rw [if_pos r1, if_neg r2] at e
        exact ⟨mem t a b (by have := r1.2.2; omega), mem t' a' b' (by omega)⟩
    · by_cases r2 : 0 ≤ t' ∧ t' < σ 0 0 0 ∧ N t' = max (N i) (N j)
      · rw [if_neg r1, if_pos r2] at e
        exact ⟨mem t a b (by omega), mem t' a' b' (by have := r2.2.2; omega)⟩
      · rw [if_neg r1, if_neg r2] at e
        exact h t t' a b a' b' n e
  · rw [zA_f c]; exact h
theorem alone_gI {σ : bxS} {N : Int → Int} (h : alone σ N) {i : Int} (hi : 0 ≤ i ∧ i < σ 0 0 0) : ∀ n : Nat, (n : Int) ≤ σ 0 0 0 - (i + 1) → alone σ (gI σ i N n) := by
  intro n
  induction n with
  | zero => exact fun _ => h
  | succ n ih => exact fun hn => alone_gstep (ih (by omega)) hi ⟨by omega, by omega⟩
theorem alone_gO {σ : bxS} {N : Int → Int} (h : alone σ N) : ∀ n : Nat, (n : Int) ≤ σ 0 0 0 → alone σ (gO σ N n) := by
  intro n
  induction n with
  | zero => exact fun _ => h
  | succ n ih => exact fun hn => alone_gI (ih (by omega)) ⟨by omega, by omega⟩ _ (by omega)
theorem alone_gnm (σ : bxS) (N : Int → Int) : alone σ (gnm σ N) := by
  by_cases h : 0 ≤ σ 0 0 0
  · exact alone_gO (alone_nin σ N) _ (by omega)
  · exact fun t t' a b => by omega
/-! sums -/
theorem sumN_congr {F F' : Int → Int} : ∀ n : Nat, (∀ t : Int, 0 ≤ t → t < n → F t = F' t) → sumN F n = sumN F' n := by
  intro n
  induction n with
  | zero => exact fun _ => rfl
  | succ n ih =>
    intro h
    show sumN F n + F n = sumN F' n + F' n
    rw [ih (fun t a b => h t a (by omega)), h n (by omega) (by omega)]
theorem sm_congr {F F' : Int → Int} {n : Int} (h : ∀ t, 0 ≤ t → t < n → F t = F' t) : sm F n = sm F' n := sumN_congr _ (fun t a b => h t a (by omega))
theorem cntN_congr {P P' : Int → Prop} {lo : Int} : ∀ n : Nat, (∀ t : Int, lo ≤ t → t < lo + n → (P t ↔ P' t)) → cntN P lo n = cntN P' lo n := by
  intro n
  induction n with
  | zero => exact fun _ => rfl
  | succ n ih =>
    intro h
    show cntN P lo n + zB (P (lo + n)) = cntN P' lo n + zB (P' (lo + n))
    rw [ih (fun t a b => h t a (by omega)), zB_iff (h (lo + n) (by omega) (by omega))]
theorem cnt_congr {P P' : Int → Prop} {lo hi : Int} (h : ∀ t, lo ≤ t → t < hi → (P t ↔ P' t)) : cnt P lo hi = cnt P' lo hi := cntN_congr _ (fun t a b => h t a (by omega))
/-- one summand changes -/
theorem sm_one {F F' : Int → Int} {p : Int} : ∀ n : Nat, 0 ≤ p → p < n → (∀ t, t ≠ p → F' t = F t) → sumN F' n = sumN F n + (F' p - F p) := by
  intro n
  induction n with
  | zero => intro a b; omega
  | succ n ih =>
    intro a b h
    show sumN F' n + F' n = sumN F n + F n + (F' p - F p)
    by_cases e : p = n
    · rw [← e, sumN_congr (F := F') (F' := F) n (fun t a b => h t (by omega))]
      omega
    · rw [ih a (by omega) h, h n (fun q => e q.symm)]
      omega
/-- each name with a second part has just one second part -/
theorem grs_sum {M : Int → Int} {m : Int} (hm : 0 ≤ m) (hM : ∀ t, 0 ≤ t → t < m → 0 ≤ M t ∧ M t < m) : ∀ n : Nat, (n : Int) ≤ m → sumN (grs M) n = sm (fun p => zB (2 ≤ cnt (fun u => M u = p) 0 n)) m := by
  intro n
  induction n with
  | zero =>
    intro _
    show (0 : Int) = _
    have e : sm (fun p => zB (2 ≤ cnt (fun u => M u = p) 0 ((0 : Nat) : Int))) m = sm (fun _ => 0) m := sm_congr (fun t a b => zB_f (fun q => by rw [cnt_0 _ (by omega)] at q; omega))
    rw [e]
    have z : ∀ k : Nat, sumN (fun _ => 0) k = 0 := by
      intro k
      induction k with
      | zero => rfl
      | succ k ih => show sumN (fun _ => 0) k + 0 = 0; omega
    exact (z _).symm
  | succ n ih =>
    intro hn
    have hMn := hM n (by omega) (by omega)
    have ec : ∀ p, cnt (fun u => M u = p) 0 ((n : Int) + 1) = cnt (fun u => M u = p) 0 n + zB (M n = p) := fun p => cnt_s _ (by omega)
    have e1 : ((n + 1 : Nat) : Int) = (n : Int) + 1 := by omega
    show sumN (grs M) n + grs M n = _
    rw [ih (by omega), e1]
    unfold sm
    rw [sm_one (F := fun p => zB (2 ≤ cnt (fun u => M u = p) 0 (n : Int))) (F' := fun p => zB (2 ≤ cnt (fun u => M u = p) 0 ((n : Int) + 1))) (p := M n) m.toNat hMn.1 (by omega) (fun t ht => ?_)]
    · show _ + grs M n = _ + (zB (2 ≤ cnt (fun u => M u = M n) 0 ((n : Int) + 1)) - zB (2 ≤ cnt (fun u => M u = M n) 0 (n : Int)))
      have hg : grs M n = zB (cnt (fun u => M u = M n) 0 ((n : Int) + 1) = 2) := rfl
      have h1 := ec (M n)
      rw [zB_t rfl] at h1
      have h0 := (cnt_bd (fun u => M u = M n) 0 (n : Int)).1
      rw [hg]
      by_cases c2 : 2 ≤ cnt (fun u => M u = M n) 0 (n : Int)
      · rw [zB_f (show ¬ cnt (fun u => M u = M n) 0 ((n : Int) + 1) = 2 by omega), zB_t (show 2 ≤ cnt (fun u => M u = M n) 0 ((n : Int) + 1) by omega), zB_t c2]
        omega
      · rw [zB_f c2]
        by_cases c3 : cnt (fun u => M u = M n) 0 ((n : Int) + 1) = 2
        · rw [zB_t c3, zB_t (show 2 ≤ cnt (fun u => M u = M n) 0 ((n : Int) + 1) by omega)]
          omega
        · rw [zB_f c3, zB_f (show ¬ 2 ≤ cnt (fun u => M u = M n) 0 ((n : Int) + 1) by omega)]
          omega
    · show zB (2 ≤ cnt (fun u => M u = t) 0 ((n : Int) + 1)) = zB (2 ≤ cnt (fun u => M u = t) 0 (n : Int))
      rw [ec t, zB_f (show ¬ M n = t from fun q => ht q.symm), Int.add_zero]
theorem cnt_pos {P : Int → Prop} {lo : Int} : ∀ n : Nat, 1 ≤ cntN P lo n → ∃ t, lo ≤ t ∧ t < lo + n ∧ P t := by
  intro n
  induction n with
  | zero => intro h; exact absurd h (by show ¬ 1 ≤ (0 : Int); omega)
  | succ n ih =>
    intro h
    by_cases c : P (lo + n)
    · exact ⟨lo + n, by omega, by omega, c⟩
    · have e : cntN P lo (n + 1) = cntN P lo n + zB (P (lo + n)) := rfl
      rw [e, zB_f c] at h
      obtain ⟨t, a, b, d⟩ := ih (by omega)
      exact ⟨t, a, by omega, d⟩
theorem cnt_two {P : Int → Prop} {lo : Int} : ∀ n : Nat, 2 ≤ cntN P lo n → ∃ t t', lo ≤ t ∧ t < t' ∧ t' < lo + n ∧ P t ∧ P t' := by
  intro n
  induction n with
  | zero => intro h; exact absurd h (by show ¬ 2 ≤ (0 : Int); omega)
  | succ n ih =>
    intro h
    have e : cntN P lo (n + 1) = cntN P lo n + zB (P (lo + n)) := rfl
    by_cases c : P (lo + n)
    · rw [e, zB_t c] at h
      obtain ⟨t, a, b, d⟩ := cnt_pos (P := P) (lo := lo) n (by omega)
      exact ⟨t, lo + n, a, by omega, by omega, d, c⟩
    · rw [e, zB_f c] at h
      obtain ⟨t, t', a, b, d, p1, p2⟩ := ih (by omega)
      exact ⟨t, t', a, b, by omega, p1, p2⟩
theorem cntN_le {P P' : Int → Prop} {lo : Int} (h : ∀ t, P t → P' t) : ∀ n : Nat, cntN P lo n ≤ cntN P' lo n := by
  intro n
  induction n with
  | zero => exact Int.le_refl _
  | succ n ih =>
    show cntN P lo n + zB (P (lo + n)) ≤ cntN P' lo n + zB (P' (lo + n))
    by_cases c : P (lo + n)
    · rw [zB_t c, zB_t (h _ c)]; omega
    · have := zB_01 (P' (lo + n))
      rw [zB_f c]; omega
theorem v_groups {σ τ : bxS} (h : inv σ τ) (N N' : Int → Int) : sm (grs (gnm σ N)) (σ 0 0 0) = sm (grm τ (gnm (eff τ) N')) (τ 0 0 0) := by
  rw [eff_id h.2.2.2, gnm_ag h.1, v_made h]
  have hm := bB0 h.2.1
  have hMB := gnm_B τ N
  have hal := alone_gnm τ N
  have hEq := eqN_gnm τ N N'
  have e1 : sm (grs (gnm τ N)) (τ 0 0 0) = sm (fun p => zB (2 ≤ cnt (fun u => gnm τ N u = p) 0 (τ 0 0 0))) (τ 0 0 0) := by
    have := grs_sum (M := gnm τ N) hm.1 (fun t a b => hMB t a b) (τ 0 0 0).toNat (by omega)
    rw [show (((τ 0 0 0).toNat : Nat) : Int) = τ 0 0 0 by omega] at this
    exact this
  rw [e1]
  refine sm_congr (fun p p0 p1 => ?_)
  show _ = zB (1 < cnt (mem2 τ (gnm τ N') p) 0 (τ 0 0 0))
  have e2 : cnt (mem2 τ (gnm τ N') p) 0 (τ 0 0 0) = cnt (mem2 τ (gnm τ N) p) 0 (τ 0 0 0) := cnt_congr (fun t a b => by unfold mem2; rw [hEq t a b])
  rw [e2]
  refine zB_iff ⟨fun q => ?_, fun q => ?_⟩
  · have e3 : cnt (mem2 τ (gnm τ N) p) 0 (τ 0 0 0) = cnt (fun u => gnm τ N u = p) 0 (τ 0 0 0) := by
      obtain ⟨t, t', a, b, c, d1, d2⟩ := cnt_two _ q
      refine cnt_congr (fun u u0 u1 => ⟨fun z => z.2, fun z => ⟨?_, z⟩⟩)
      by_cases eu : u = t
      · exact (hal u t' u0 u1 (by omega) (by omega) (by omega) (by rw [z, d2])).1
      · exact (hal u t u0 u1 (by omega) (by omega) eu (by rw [z, d1])).1
    rw [e3]; omega
  · have e4 : cnt (mem2 τ (gnm τ N) p) 0 (τ 0 0 0) ≤ cnt (fun u => gnm τ N u = p) 0 (τ 0 0 0) := cntN_le (fun t z => z.2) _
    omega
theorem v_group {σ τ : bxS} (h : inv σ τ) (N N' : Int → Int) {p : Int} (h0 : 0 ≤ p) (h1 : p < τ 0 0 0) : gnm σ N p = gnm (eff τ) N' p := by
  rw [eff_id h.2.2.2, gnm_ag h.1]
  exact eqN_gnm τ N N' p h0 h1
