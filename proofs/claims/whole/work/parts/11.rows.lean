def up3 (σ : bxS) (f : Nat) (i a z : Int) : bxS := fun f' i' a' => if f' = f then (if i' = i ∧ a' = a then z else σ f' i' a') else σ f' i' a'
theorem up3_s (σ : bxS) (f : Nat) (i a z : Int) : up3 σ f i a z f i a = z := by simp [up3]
theorem up3_n (σ : bxS) {f f' : Nat} (h : f' ≠ f) (i a z i' a' : Int) : up3 σ f i a z f' i' a' = σ f' i' a' := by simp [up3, h]
theorem up3_i (σ : bxS) (f : Nat) {i i' : Int} (h : i' ≠ i) (a z a' : Int) : up3 σ f i a z f i' a' = σ f i' a' := by simp [up3, h]
theorem up3_a (σ : bxS) (f : Nat) {a a' : Int} (h : a' ≠ a) (i z i' : Int) : up3 σ f i a z f i' a' = σ f i' a' := by simp [up3, h]
def bx_Lc (g : bxG) (locs : List Loc) : Prop := ∀ q ∈ locs, g.2.2 ≤ q.base
theorem bx_Lc.nil {g : bxG} : bx_Lc g [] := fun _ h => by cases h
theorem bx_Lc.app {g : bxG} {l1 l2 : List Loc} (h1 : bx_Lc g l1) (h2 : bx_Lc g l2) : bx_Lc g (l1 ++ l2) := fun q hq => (List.mem_append.mp hq).elim (h1 q) (h2 q)
theorem bx_Lc.add {g : bxG} {l1 : List Loc} {q : Loc} (h1 : bx_Lc g l1) (h2 : g.2.2 ≤ q.base) : bx_Lc g (l1 ++ [q]) := h1.app (fun z hz => by rw [List.mem_singleton.mp hz]; exact h2)
/-- only the cell (kd, k) holds something else -/
def bx_Fr (g : bxG) (ad : bxA) (σ τ : bxS) (w : bxW) (σ' τ' : bxS) (w' : bxW) (kd : Nat) (k : Int) : Prop :=
  (∀ kd' k', bx_L σ' kd' k' → ¬ (kd' = kd ∧ k' = k) → bx_E g ad σ' τ' w' kd' k' = bx_E g ad σ τ w kd' k') ∧ ∀ kd' k', bx_L σ' kd' k' → bx_L σ kd' k'
theorem bx_U.set {g : bxG} {ad : bxA} {σ τ σ' τ' : bxS} {w w' : bxW} {H H1 : Heap} {kd : Nat} {k : Int} (hU : bx_U g ad σ τ w H) (hl : bx_L σ kd k) (hF : bx_Fr g ad σ τ w σ' τ' w' kd k) {E : va_E} (he : bx_E g ad σ' τ' w' kd k = E) (hn : va_at g.1 vwCl (ad kd k, E) H1) (ho : ∀ q : Nat, q ≠ ad kd k → H1[q]? = H[q]?) : bx_U g ad σ' τ' w' H1 := by
  refine ⟨fun kd' k' h => ?_, fun a b a' b' h h' e => hU.2.1 a b a' b' (hF.2 _ _ h) (hF.2 _ _ h') e, fun a b h => hU.2.2 a b (hF.2 _ _ h)⟩
  by_cases hq : kd' = kd ∧ k' = k
  · obtain ⟨rfl, rfl⟩ := hq
    rw [he]; exact hn
  · rw [hF.1 kd' k' h hq]
    refine (hU.1 kd' k' (hF.2 _ _ h)).kept (ho _ (fun e => hq ?_))
    exact hU.2.1 kd' k' kd k (hF.2 _ _ h) hl e
theorem bx_F.put {g : bxG} {ad : bxA} {σ τ : bxS} {w : bxW} {H H1 : Heap} {kd : Nat} {k : Int} (hU : bx_U g ad σ τ w H) (hl : bx_L σ kd k) (z : H1.size = H.size) (ho : ∀ q : Nat, q ≠ ad kd k → H1[q]? = H[q]?) : bx_F g H H1 :=
  ⟨Nat.le_of_eq z.symm, fun q hq => ho q (fun e => by have := hU.2.2 kd k hl; omega)⟩
theorem bx_lcs {σ σ' : bxS} (h : ∀ k : Int, σ' 2 k 0 = σ 2 k 0) (h14 : ∀ k : Int, σ' 14 k 0 = σ 14 k 0) : ∀ kd k, bx_L σ' kd k → bx_L σ kd k := fun kd k hl => hl.elim Or.inl (fun q => Or.inr ⟨q.1, q.2.1, q.2.2.1, q.2.2.2.1, by rw [← h, ← h14]; exact q.2.2.2.2⟩)
theorem bf_c0 (g : bxG) (ad : bxA) (σ τ : bxS) (w : bxW) (z : Int) : bx_Fr g ad σ τ w (up3 σ 0 0 0 z) τ w 0 0 := by
  refine ⟨fun kd' k' hl hne => ?_, bx_lcs (fun q => rfl) (fun q => rfl)⟩
  rcases hl with ⟨h1, rfl⟩ | ⟨h1, h2, -⟩
  · rcases (by omega : kd' = 0 ∨ kd' = 1 ∨ kd' = 2 ∨ kd' = 3 ∨ kd' = 4 ∨ kd' = 5 ∨ kd' = 6 ∨ kd' = 7 ∨ kd' = 8 ∨ kd' = 9 ∨ kd' = 10 ∨ kd' = 11 ∨ kd' = 12 ∨ kd' = 13 ∨ kd' = 14 ∨ kd' = 15 ∨ kd' = 16 ∨ kd' = 17) with rfl | rfl | rfl | rfl | rfl | rfl | rfl | rfl | rfl | rfl | rfl | rfl | rfl | rfl | rfl | rfl | rfl | rfl <;> first | rfl | exact absurd ⟨rfl, rfl⟩ hne
  · rcases (by omega : kd' = 20 ∨ kd' = 21 ∨ kd' = 22) with rfl | rfl | rfl <;> first | rfl | (have hk : k' ≠ 0 := fun q => hne ⟨rfl, q⟩; simp [bx_E, up3, hk])
theorem bf_c1 (g : bxG) (ad : bxA) (σ τ : bxS) (w : bxW) (z : Int) : bx_Fr g ad σ τ w (up3 σ 1 0 0 z) τ w 0 0 := by
  refine ⟨fun kd' k' hl hne => ?_, bx_lcs (fun q => rfl) (fun q => rfl)⟩
  rcases hl with ⟨h1, rfl⟩ | ⟨h1, h2, -⟩
  · rcases (by omega : kd' = 0 ∨ kd' = 1 ∨ kd' = 2 ∨ kd' = 3 ∨ kd' = 4 ∨ kd' = 5 ∨ kd' = 6 ∨ kd' = 7 ∨ kd' = 8 ∨ kd' = 9 ∨ kd' = 10 ∨ kd' = 11 ∨ kd' = 12 ∨ kd' = 13 ∨ kd' = 14 ∨ kd' = 15 ∨ kd' = 16 ∨ kd' = 17) with rfl | rfl | rfl | rfl | rfl | rfl | rfl | rfl | rfl | rfl | rfl | rfl | rfl | rfl | rfl | rfl | rfl | rfl <;> first | rfl | exact absurd ⟨rfl, rfl⟩ hne
  · rcases (by omega : kd' = 20 ∨ kd' = 21 ∨ kd' = 22) with rfl | rfl | rfl <;> first | rfl | (have hk : k' ≠ 0 := fun q => hne ⟨rfl, q⟩; simp [bx_E, up3, hk])
theorem bf_c9 (g : bxG) (ad : bxA) (σ τ : bxS) (w : bxW) (i : Int) (z : Int) : bx_Fr g ad σ τ w (up3 σ 9 i 0 z) τ w 2 0 := by
  refine ⟨fun kd' k' hl hne => ?_, bx_lcs (fun q => rfl) (fun q => rfl)⟩
  rcases hl with ⟨h1, rfl⟩ | ⟨h1, h2, -⟩
  · rcases (by omega : kd' = 0 ∨ kd' = 1 ∨ kd' = 2 ∨ kd' = 3 ∨ kd' = 4 ∨ kd' = 5 ∨ kd' = 6 ∨ kd' = 7 ∨ kd' = 8 ∨ kd' = 9 ∨ kd' = 10 ∨ kd' = 11 ∨ kd' = 12 ∨ kd' = 13 ∨ kd' = 14 ∨ kd' = 15 ∨ kd' = 16 ∨ kd' = 17) with rfl | rfl | rfl | rfl | rfl | rfl | rfl | rfl | rfl | rfl | rfl | rfl | rfl | rfl | rfl | rfl | rfl | rfl <;> first | rfl | exact absurd ⟨rfl, rfl⟩ hne
  · rcases (by omega : kd' = 20 ∨ kd' = 21 ∨ kd' = 22) with rfl | rfl | rfl <;> first | rfl | (have hk : k' ≠ 0 := fun q => hne ⟨rfl, q⟩; simp [bx_E, up3, hk])
theorem bf_c10 (g : bxG) (ad : bxA) (σ τ : bxS) (w : bxW) (i : Int) (z : Int) : bx_Fr g ad σ τ w (up3 σ 10 i 0 z) τ w 3 0 := by
  refine ⟨fun kd' k' hl hne => ?_, bx_lcs (fun q => rfl) (fun q => rfl)⟩
  rcases hl with ⟨h1, rfl⟩ | ⟨h1, h2, -⟩
  · rcases (by omega : kd' = 0 ∨ kd' = 1 ∨ kd' = 2 ∨ kd' = 3 ∨ kd' = 4 ∨ kd' = 5 ∨ kd' = 6 ∨ kd' = 7 ∨ kd' = 8 ∨ kd' = 9 ∨ kd' = 10 ∨ kd' = 11 ∨ kd' = 12 ∨ kd' = 13 ∨ kd' = 14 ∨ kd' = 15 ∨ kd' = 16 ∨ kd' = 17) with rfl | rfl | rfl | rfl | rfl | rfl | rfl | rfl | rfl | rfl | rfl | rfl | rfl | rfl | rfl | rfl | rfl | rfl <;> first | rfl | exact absurd ⟨rfl, rfl⟩ hne
  · rcases (by omega : kd' = 20 ∨ kd' = 21 ∨ kd' = 22) with rfl | rfl | rfl <;> first | rfl | (have hk : k' ≠ 0 := fun q => hne ⟨rfl, q⟩; simp [bx_E, up3, hk])
theorem bf_c11 (g : bxG) (ad : bxA) (σ τ : bxS) (w : bxW) (i : Int) (z : Int) : bx_Fr g ad σ τ w (up3 σ 11 i 0 z) τ w 4 0 := by
  refine ⟨fun kd' k' hl hne => ?_, bx_lcs (fun q => rfl) (fun q => rfl)⟩
  rcases hl with ⟨h1, rfl⟩ | ⟨h1, h2, -⟩
  · rcases (by omega : kd' = 0 ∨ kd' = 1 ∨ kd' = 2 ∨ kd' = 3 ∨ kd' = 4 ∨ kd' = 5 ∨ kd' = 6 ∨ kd' = 7 ∨ kd' = 8 ∨ kd' = 9 ∨ kd' = 10 ∨ kd' = 11 ∨ kd' = 12 ∨ kd' = 13 ∨ kd' = 14 ∨ kd' = 15 ∨ kd' = 16 ∨ kd' = 17) with rfl | rfl | rfl | rfl | rfl | rfl | rfl | rfl | rfl | rfl | rfl | rfl | rfl | rfl | rfl | rfl | rfl | rfl <;> first | rfl | exact absurd ⟨rfl, rfl⟩ hne
  · rcases (by omega : kd' = 20 ∨ kd' = 21 ∨ kd' = 22) with rfl | rfl | rfl <;> first | rfl | (have hk : k' ≠ 0 := fun q => hne ⟨rfl, q⟩; simp [bx_E, up3, hk])
theorem bf_c12 (g : bxG) (ad : bxA) (σ τ : bxS) (w : bxW) (i : Int) (z : Int) : bx_Fr g ad σ τ w (up3 σ 12 i 0 z) τ w 5 0 := by
  refine ⟨fun kd' k' hl hne => ?_, bx_lcs (fun q => rfl) (fun q => rfl)⟩
  rcases hl with ⟨h1, rfl⟩ | ⟨h1, h2, -⟩
  · rcases (by omega : kd' = 0 ∨ kd' = 1 ∨ kd' = 2 ∨ kd' = 3 ∨ kd' = 4 ∨ kd' = 5 ∨ kd' = 6 ∨ kd' = 7 ∨ kd' = 8 ∨ kd' = 9 ∨ kd' = 10 ∨ kd' = 11 ∨ kd' = 12 ∨ kd' = 13 ∨ kd' = 14 ∨ kd' = 15 ∨ kd' = 16 ∨ kd' = 17) with rfl | rfl | rfl | rfl | rfl | rfl | rfl | rfl | rfl | rfl | rfl | rfl | rfl | rfl | rfl | rfl | rfl | rfl <;> first | rfl | exact absurd ⟨rfl, rfl⟩ hne
  · rcases (by omega : kd' = 20 ∨ kd' = 21 ∨ kd' = 22) with rfl | rfl | rfl <;> first | rfl | (have hk : k' ≠ 0 := fun q => hne ⟨rfl, q⟩; simp [bx_E, up3, hk])
theorem bf_c13 (g : bxG) (ad : bxA) (σ τ : bxS) (w : bxW) (i : Int) (z : Int) : bx_Fr g ad σ τ w (up3 σ 13 i 0 z) τ w 6 0 := by
  refine ⟨fun kd' k' hl hne => ?_, bx_lcs (fun q => rfl) (fun q => rfl)⟩
  rcases hl with ⟨h1, rfl⟩ | ⟨h1, h2, -⟩
  · rcases (by omega : kd' = 0 ∨ kd' = 1 ∨ kd' = 2 ∨ kd' = 3 ∨ kd' = 4 ∨ kd' = 5 ∨ kd' = 6 ∨ kd' = 7 ∨ kd' = 8 ∨ kd' = 9 ∨ kd' = 10 ∨ kd' = 11 ∨ kd' = 12 ∨ kd' = 13 ∨ kd' = 14 ∨ kd' = 15 ∨ kd' = 16 ∨ kd' = 17) with rfl | rfl | rfl | rfl | rfl | rfl | rfl | rfl | rfl | rfl | rfl | rfl | rfl | rfl | rfl | rfl | rfl | rfl <;> first | rfl | exact absurd ⟨rfl, rfl⟩ hne
  · rcases (by omega : kd' = 20 ∨ kd' = 21 ∨ kd' = 22) with rfl | rfl | rfl <;> first | rfl | (have hk : k' ≠ 0 := fun q => hne ⟨rfl, q⟩; simp [bx_E, up3, hk])
theorem bf_c4 (g : bxG) (ad : bxA) (σ τ : bxS) (w : bxW) (k : Int) (z : Int) : bx_Fr g ad σ τ w (up3 σ 4 k 0 z) τ w 20 k := by
  refine ⟨fun kd' k' hl hne => ?_, bx_lcs (fun q => rfl) (fun q => rfl)⟩
  rcases hl with ⟨h1, rfl⟩ | ⟨h1, h2, -⟩
  · rcases (by omega : kd' = 0 ∨ kd' = 1 ∨ kd' = 2 ∨ kd' = 3 ∨ kd' = 4 ∨ kd' = 5 ∨ kd' = 6 ∨ kd' = 7 ∨ kd' = 8 ∨ kd' = 9 ∨ kd' = 10 ∨ kd' = 11 ∨ kd' = 12 ∨ kd' = 13 ∨ kd' = 14 ∨ kd' = 15 ∨ kd' = 16 ∨ kd' = 17) with rfl | rfl | rfl | rfl | rfl | rfl | rfl | rfl | rfl | rfl | rfl | rfl | rfl | rfl | rfl | rfl | rfl | rfl <;> first | rfl | exact absurd ⟨rfl, rfl⟩ hne
  · rcases (by omega : kd' = 20 ∨ kd' = 21 ∨ kd' = 22) with rfl | rfl | rfl <;> first | rfl | (have hk : k' ≠ k := fun q => hne ⟨rfl, q⟩; simp [bx_E, up3, hk])
theorem bf_c7 (g : bxG) (ad : bxA) (σ τ : bxS) (w : bxW) (k a : Int) (z : Int) : bx_Fr g ad σ τ w (up3 σ 7 k a z) τ w 21 k := by
  refine ⟨fun kd' k' hl hne => ?_, bx_lcs (fun q => rfl) (fun q => rfl)⟩
  rcases hl with ⟨h1, rfl⟩ | ⟨h1, h2, -⟩
  · rcases (by omega : kd' = 0 ∨ kd' = 1 ∨ kd' = 2 ∨ kd' = 3 ∨ kd' = 4 ∨ kd' = 5 ∨ kd' = 6 ∨ kd' = 7 ∨ kd' = 8 ∨ kd' = 9 ∨ kd' = 10 ∨ kd' = 11 ∨ kd' = 12 ∨ kd' = 13 ∨ kd' = 14 ∨ kd' = 15 ∨ kd' = 16 ∨ kd' = 17) with rfl | rfl | rfl | rfl | rfl | rfl | rfl | rfl | rfl | rfl | rfl | rfl | rfl | rfl | rfl | rfl | rfl | rfl <;> first | rfl | exact absurd ⟨rfl, rfl⟩ hne
  · rcases (by omega : kd' = 20 ∨ kd' = 21 ∨ kd' = 22) with rfl | rfl | rfl <;> first | rfl | (have hk : k' ≠ k := fun q => hne ⟨rfl, q⟩; simp [bx_E, up3, hk])
theorem bf_c8 (g : bxG) (ad : bxA) (σ τ : bxS) (w : bxW) (k a : Int) (z : Int) : bx_Fr g ad σ τ w (up3 σ 8 k a z) τ w 22 k := by
  refine ⟨fun kd' k' hl hne => ?_, bx_lcs (fun q => rfl) (fun q => rfl)⟩
  rcases hl with ⟨h1, rfl⟩ | ⟨h1, h2, -⟩
  · rcases (by omega : kd' = 0 ∨ kd' = 1 ∨ kd' = 2 ∨ kd' = 3 ∨ kd' = 4 ∨ kd' = 5 ∨ kd' = 6 ∨ kd' = 7 ∨ kd' = 8 ∨ kd' = 9 ∨ kd' = 10 ∨ kd' = 11 ∨ kd' = 12 ∨ kd' = 13 ∨ kd' = 14 ∨ kd' = 15 ∨ kd' = 16 ∨ kd' = 17) with rfl | rfl | rfl | rfl | rfl | rfl | rfl | rfl | rfl | rfl | rfl | rfl | rfl | rfl | rfl | rfl | rfl | rfl <;> first | rfl | exact absurd ⟨rfl, rfl⟩ hne
  · rcases (by omega : kd' = 20 ∨ kd' = 21 ∨ kd' = 22) with rfl | rfl | rfl <;> first | rfl | (have hk : k' ≠ k := fun q => hne ⟨rfl, q⟩; simp [bx_E, up3, hk])
theorem bf_m0 (g : bxG) (ad : bxA) (σ τ : bxS) (w : bxW) (z : Int) : bx_Fr g ad σ τ w σ (up3 τ 0 0 0 z) w 7 0 := by
  refine ⟨fun kd' k' hl hne => ?_, bx_lcs (fun _ => rfl) (fun _ => rfl)⟩
  rcases hl with ⟨h1, rfl⟩ | ⟨h1, h2, -⟩
  · rcases (by omega : kd' = 0 ∨ kd' = 1 ∨ kd' = 2 ∨ kd' = 3 ∨ kd' = 4 ∨ kd' = 5 ∨ kd' = 6 ∨ kd' = 7 ∨ kd' = 8 ∨ kd' = 9 ∨ kd' = 10 ∨ kd' = 11 ∨ kd' = 12 ∨ kd' = 13 ∨ kd' = 14 ∨ kd' = 15 ∨ kd' = 16 ∨ kd' = 17) with rfl | rfl | rfl | rfl | rfl | rfl | rfl | rfl | rfl | rfl | rfl | rfl | rfl | rfl | rfl | rfl | rfl | rfl <;> first | rfl | exact absurd ⟨rfl, rfl⟩ hne
  · rcases (by omega : kd' = 20 ∨ kd' = 21 ∨ kd' = 22) with rfl | rfl | rfl <;> first | rfl | (have hk : k' ≠ 0 := fun q => hne ⟨rfl, q⟩; simp [bx_E, up3, hk])
theorem bf_m1 (g : bxG) (ad : bxA) (σ τ : bxS) (w : bxW) (z : Int) : bx_Fr g ad σ τ w σ (up3 τ 1 0 0 z) w 7 0 := by
  refine ⟨fun kd' k' hl hne => ?_, bx_lcs (fun _ => rfl) (fun _ => rfl)⟩
  rcases hl with ⟨h1, rfl⟩ | ⟨h1, h2, -⟩
  · rcases (by omega : kd' = 0 ∨ kd' = 1 ∨ kd' = 2 ∨ kd' = 3 ∨ kd' = 4 ∨ kd' = 5 ∨ kd' = 6 ∨ kd' = 7 ∨ kd' = 8 ∨ kd' = 9 ∨ kd' = 10 ∨ kd' = 11 ∨ kd' = 12 ∨ kd' = 13 ∨ kd' = 14 ∨ kd' = 15 ∨ kd' = 16 ∨ kd' = 17) with rfl | rfl | rfl | rfl | rfl | rfl | rfl | rfl | rfl | rfl | rfl | rfl | rfl | rfl | rfl | rfl | rfl | rfl <;> first | rfl | exact absurd ⟨rfl, rfl⟩ hne
  · rcases (by omega : kd' = 20 ∨ kd' = 21 ∨ kd' = 22) with rfl | rfl | rfl <;> first | rfl | (have hk : k' ≠ 0 := fun q => hne ⟨rfl, q⟩; simp [bx_E, up3, hk])
theorem bf_m15 (g : bxG) (ad : bxA) (σ τ : bxS) (w : bxW) (z : Int) : bx_Fr g ad σ τ w σ (up3 τ 15 0 0 z) w 7 0 := by
  refine ⟨fun kd' k' hl hne => ?_, bx_lcs (fun _ => rfl) (fun _ => rfl)⟩
  rcases hl with ⟨h1, rfl⟩ | ⟨h1, h2, -⟩
  · rcases (by omega : kd' = 0 ∨ kd' = 1 ∨ kd' = 2 ∨ kd' = 3 ∨ kd' = 4 ∨ kd' = 5 ∨ kd' = 6 ∨ kd' = 7 ∨ kd' = 8 ∨ kd' = 9 ∨ kd' = 10 ∨ kd' = 11 ∨ kd' = 12 ∨ kd' = 13 ∨ kd' = 14 ∨ kd' = 15 ∨ kd' = 16 ∨ kd' = 17) with rfl | rfl | rfl | rfl | rfl | rfl | rfl | rfl | rfl | rfl | rfl | rfl | rfl | rfl | rfl | rfl | rfl | rfl <;> first | rfl | exact absurd ⟨rfl, rfl⟩ hne
  · rcases (by omega : kd' = 20 ∨ kd' = 21 ∨ kd' = 22) with rfl | rfl | rfl <;> first | rfl | (have hk : k' ≠ 0 := fun q => hne ⟨rfl, q⟩; simp [bx_E, up3, hk])
theorem bf_m16 (g : bxG) (ad : bxA) (σ τ : bxS) (w : bxW) (z : Int) : bx_Fr g ad σ τ w σ (up3 τ 16 0 0 z) w 7 0 := by
  refine ⟨fun kd' k' hl hne => ?_, bx_lcs (fun _ => rfl) (fun _ => rfl)⟩
  rcases hl with ⟨h1, rfl⟩ | ⟨h1, h2, -⟩
  · rcases (by omega : kd' = 0 ∨ kd' = 1 ∨ kd' = 2 ∨ kd' = 3 ∨ kd' = 4 ∨ kd' = 5 ∨ kd' = 6 ∨ kd' = 7 ∨ kd' = 8 ∨ kd' = 9 ∨ kd' = 10 ∨ kd' = 11 ∨ kd' = 12 ∨ kd' = 13 ∨ kd' = 14 ∨ kd' = 15 ∨ kd' = 16 ∨ kd' = 17) with rfl | rfl | rfl | rfl | rfl | rfl | rfl | rfl | rfl | rfl | rfl | rfl | rfl | rfl | rfl | rfl | rfl | rfl <;> first | rfl | exact absurd ⟨rfl, rfl⟩ hne
  · rcases (by omega : kd' = 20 ∨ kd' = 21 ∨ kd' = 22) with rfl | rfl | rfl <;> first | rfl | (have hk : k' ≠ 0 := fun q => hne ⟨rfl, q⟩; simp [bx_E, up3, hk])
theorem bf_m17 (g : bxG) (ad : bxA) (σ τ : bxS) (w : bxW) (z : Int) : bx_Fr g ad σ τ w σ (up3 τ 17 0 0 z) w 7 0 := by
  refine ⟨fun kd' k' hl hne => ?_, bx_lcs (fun _ => rfl) (fun _ => rfl)⟩
  rcases hl with ⟨h1, rfl⟩ | ⟨h1, h2, -⟩
  · rcases (by omega : kd' = 0 ∨ kd' = 1 ∨ kd' = 2 ∨ kd' = 3 ∨ kd' = 4 ∨ kd' = 5 ∨ kd' = 6 ∨ kd' = 7 ∨ kd' = 8 ∨ kd' = 9 ∨ kd' = 10 ∨ kd' = 11 ∨ kd' = 12 ∨ kd' = 13 ∨ kd' = 14 ∨ kd' = 15 ∨ kd' = 16 ∨ kd' = 17) with rfl | rfl | rfl | rfl | rfl | rfl | rfl | rfl | rfl | rfl | rfl | rfl | rfl | rfl | rfl | rfl | rfl | rfl <;> first | rfl | exact absurd ⟨rfl, rfl⟩ hne
  · rcases (by omega : kd' = 20 ∨ kd' = 21 ∨ kd' = 22) with rfl | rfl | rfl <;> first | rfl | (have hk : k' ≠ 0 := fun q => hne ⟨rfl, q⟩; simp [bx_E, up3, hk])
theorem bf_m2 (g : bxG) (ad : bxA) (σ τ : bxS) (w : bxW) (i : Int) (z : Int) : bx_Fr g ad σ τ w σ (up3 τ 2 i 0 z) w 8 0 := by
  refine ⟨fun kd' k' hl hne => ?_, bx_lcs (fun _ => rfl) (fun _ => rfl)⟩
  rcases hl with ⟨h1, rfl⟩ | ⟨h1, h2, -⟩
  · rcases (by omega : kd' = 0 ∨ kd' = 1 ∨ kd' = 2 ∨ kd' = 3 ∨ kd' = 4 ∨ kd' = 5 ∨ kd' = 6 ∨ kd' = 7 ∨ kd' = 8 ∨ kd' = 9 ∨ kd' = 10 ∨ kd' = 11 ∨ kd' = 12 ∨ kd' = 13 ∨ kd' = 14 ∨ kd' = 15 ∨ kd' = 16 ∨ kd' = 17) with rfl | rfl | rfl | rfl | rfl | rfl | rfl | rfl | rfl | rfl | rfl | rfl | rfl | rfl | rfl | rfl | rfl | rfl <;> first | rfl | exact absurd ⟨rfl, rfl⟩ hne
  · rcases (by omega : kd' = 20 ∨ kd' = 21 ∨ kd' = 22) with rfl | rfl | rfl <;> first | rfl | (have hk : k' ≠ 0 := fun q => hne ⟨rfl, q⟩; simp [bx_E, up3, hk])
theorem bf_m3 (g : bxG) (ad : bxA) (σ τ : bxS) (w : bxW) (i : Int) (z : Int) : bx_Fr g ad σ τ w σ (up3 τ 3 i 0 z) w 9 0 := by
  refine ⟨fun kd' k' hl hne => ?_, bx_lcs (fun _ => rfl) (fun _ => rfl)⟩
  rcases hl with ⟨h1, rfl⟩ | ⟨h1, h2, -⟩
  · rcases (by omega : kd' = 0 ∨ kd' = 1 ∨ kd' = 2 ∨ kd' = 3 ∨ kd' = 4 ∨ kd' = 5 ∨ kd' = 6 ∨ kd' = 7 ∨ kd' = 8 ∨ kd' = 9 ∨ kd' = 10 ∨ kd' = 11 ∨ kd' = 12 ∨ kd' = 13 ∨ kd' = 14 ∨ kd' = 15 ∨ kd' = 16 ∨ kd' = 17) with rfl | rfl | rfl | rfl | rfl | rfl | rfl | rfl | rfl | rfl | rfl | rfl | rfl | rfl | rfl | rfl | rfl | rfl <;> first | rfl | exact absurd ⟨rfl, rfl⟩ hne
  · rcases (by omega : kd' = 20 ∨ kd' = 21 ∨ kd' = 22) with rfl | rfl | rfl <;> first | rfl | (have hk : k' ≠ 0 := fun q => hne ⟨rfl, q⟩; simp [bx_E, up3, hk])
theorem bf_m4 (g : bxG) (ad : bxA) (σ τ : bxS) (w : bxW) (i : Int) (z : Int) : bx_Fr g ad σ τ w σ (up3 τ 4 i 0 z) w 10 0 := by
  refine ⟨fun kd' k' hl hne => ?_, bx_lcs (fun _ => rfl) (fun _ => rfl)⟩
  rcases hl with ⟨h1, rfl⟩ | ⟨h1, h2, -⟩
  · rcases (by omega : kd' = 0 ∨ kd' = 1 ∨ kd' = 2 ∨ kd' = 3 ∨ kd' = 4 ∨ kd' = 5 ∨ kd' = 6 ∨ kd' = 7 ∨ kd' = 8 ∨ kd' = 9 ∨ kd' = 10 ∨ kd' = 11 ∨ kd' = 12 ∨ kd' = 13 ∨ kd' = 14 ∨ kd' = 15 ∨ kd' = 16 ∨ kd' = 17) with rfl | rfl | rfl | rfl | rfl | rfl | rfl | rfl | rfl | rfl | rfl | rfl | rfl | rfl | rfl | rfl | rfl | rfl <;> first | rfl | exact absurd ⟨rfl, rfl⟩ hne
  · rcases (by omega : kd' = 20 ∨ kd' = 21 ∨ kd' = 22) with rfl | rfl | rfl <;> first | rfl | (have hk : k' ≠ 0 := fun q => hne ⟨rfl, q⟩; simp [bx_E, up3, hk])
theorem bf_m5 (g : bxG) (ad : bxA) (σ τ : bxS) (w : bxW) (i : Int) (z : Int) : bx_Fr g ad σ τ w σ (up3 τ 5 i 0 z) w 11 0 := by
  refine ⟨fun kd' k' hl hne => ?_, bx_lcs (fun _ => rfl) (fun _ => rfl)⟩
  rcases hl with ⟨h1, rfl⟩ | ⟨h1, h2, -⟩
  · rcases (by omega : kd' = 0 ∨ kd' = 1 ∨ kd' = 2 ∨ kd' = 3 ∨ kd' = 4 ∨ kd' = 5 ∨ kd' = 6 ∨ kd' = 7 ∨ kd' = 8 ∨ kd' = 9 ∨ kd' = 10 ∨ kd' = 11 ∨ kd' = 12 ∨ kd' = 13 ∨ kd' = 14 ∨ kd' = 15 ∨ kd' = 16 ∨ kd' = 17) with rfl | rfl | rfl | rfl | rfl | rfl | rfl | rfl | rfl | rfl | rfl | rfl | rfl | rfl | rfl | rfl | rfl | rfl <;> first | rfl | exact absurd ⟨rfl, rfl⟩ hne
  · rcases (by omega : kd' = 20 ∨ kd' = 21 ∨ kd' = 22) with rfl | rfl | rfl <;> first | rfl | (have hk : k' ≠ 0 := fun q => hne ⟨rfl, q⟩; simp [bx_E, up3, hk])
theorem bf_m6 (g : bxG) (ad : bxA) (σ τ : bxS) (w : bxW) (i : Int) (z : Int) : bx_Fr g ad σ τ w σ (up3 τ 6 i 0 z) w 12 0 := by
  refine ⟨fun kd' k' hl hne => ?_, bx_lcs (fun _ => rfl) (fun _ => rfl)⟩
  rcases hl with ⟨h1, rfl⟩ | ⟨h1, h2, -⟩
  · rcases (by omega : kd' = 0 ∨ kd' = 1 ∨ kd' = 2 ∨ kd' = 3 ∨ kd' = 4 ∨ kd' = 5 ∨ kd' = 6 ∨ kd' = 7 ∨ kd' = 8 ∨ kd' = 9 ∨ kd' = 10 ∨ kd' = 11 ∨ kd' = 12 ∨ kd' = 13 ∨ kd' = 14 ∨ kd' = 15 ∨ kd' = 16 ∨ kd' = 17) with rfl | rfl | rfl | rfl | rfl | rfl | rfl | rfl | rfl | rfl | rfl | rfl | rfl | rfl | rfl | rfl | rfl | rfl <;> first | rfl | exact absurd ⟨rfl, rfl⟩ hne
  · rcases (by omega : kd' = 20 ∨ kd' = 21 ∨ kd' = 22) with rfl | rfl | rfl <;> first | rfl | (have hk : k' ≠ 0 := fun q => hne ⟨rfl, q⟩; simp [bx_E, up3, hk])
theorem bf_m9 (g : bxG) (ad : bxA) (σ τ : bxS) (w : bxW) (i : Int) (z : Int) : bx_Fr g ad σ τ w σ (up3 τ 9 i 0 z) w 15 0 := by
  refine ⟨fun kd' k' hl hne => ?_, bx_lcs (fun _ => rfl) (fun _ => rfl)⟩
  rcases hl with ⟨h1, rfl⟩ | ⟨h1, h2, -⟩
  · rcases (by omega : kd' = 0 ∨ kd' = 1 ∨ kd' = 2 ∨ kd' = 3 ∨ kd' = 4 ∨ kd' = 5 ∨ kd' = 6 ∨ kd' = 7 ∨ kd' = 8 ∨ kd' = 9 ∨ kd' = 10 ∨ kd' = 11 ∨ kd' = 12 ∨ kd' = 13 ∨ kd' = 14 ∨ kd' = 15 ∨ kd' = 16 ∨ kd' = 17) with rfl | rfl | rfl | rfl | rfl | rfl | rfl | rfl | rfl | rfl | rfl | rfl | rfl | rfl | rfl | rfl | rfl | rfl <;> first | rfl | exact absurd ⟨rfl, rfl⟩ hne
  · rcases (by omega : kd' = 20 ∨ kd' = 21 ∨ kd' = 22) with rfl | rfl | rfl <;> first | rfl | (have hk : k' ≠ 0 := fun q => hne ⟨rfl, q⟩; simp [bx_E, up3, hk])
theorem bf_m10 (g : bxG) (ad : bxA) (σ τ : bxS) (w : bxW) (i : Int) (z : Int) : bx_Fr g ad σ τ w σ (up3 τ 10 i 0 z) w 16 0 := by
  refine ⟨fun kd' k' hl hne => ?_, bx_lcs (fun _ => rfl) (fun _ => rfl)⟩
  rcases hl with ⟨h1, rfl⟩ | ⟨h1, h2, -⟩
  · rcases (by omega : kd' = 0 ∨ kd' = 1 ∨ kd' = 2 ∨ kd' = 3 ∨ kd' = 4 ∨ kd' = 5 ∨ kd' = 6 ∨ kd' = 7 ∨ kd' = 8 ∨ kd' = 9 ∨ kd' = 10 ∨ kd' = 11 ∨ kd' = 12 ∨ kd' = 13 ∨ kd' = 14 ∨ kd' = 15 ∨ kd' = 16 ∨ kd' = 17) with rfl | rfl | rfl | rfl | rfl | rfl | rfl | rfl | rfl | rfl | rfl | rfl | rfl | rfl | rfl | rfl | rfl | rfl <;> first | rfl | exact absurd ⟨rfl, rfl⟩ hne
  · rcases (by omega : kd' = 20 ∨ kd' = 21 ∨ kd' = 22) with rfl | rfl | rfl <;> first | rfl | (have hk : k' ≠ 0 := fun q => hne ⟨rfl, q⟩; simp [bx_E, up3, hk])
theorem bf_code (g : bxG) (ad : bxA) (σ τ : bxS) (w : bxW) (z : Int) : bx_Fr g ad σ τ w σ τ (w.1, z) 7 0 := by
  refine ⟨fun kd' k' hl hne => ?_, fun _ _ h => h⟩
  rcases hl with ⟨h1, rfl⟩ | ⟨h1, h2, -⟩
  · rcases (by omega : kd' = 0 ∨ kd' = 1 ∨ kd' = 2 ∨ kd' = 3 ∨ kd' = 4 ∨ kd' = 5 ∨ kd' = 6 ∨ kd' = 7 ∨ kd' = 8 ∨ kd' = 9 ∨ kd' = 10 ∨ kd' = 11 ∨ kd' = 12 ∨ kd' = 13 ∨ kd' = 14 ∨ kd' = 15 ∨ kd' = 16 ∨ kd' = 17) with rfl | rfl | rfl | rfl | rfl | rfl | rfl | rfl | rfl | rfl | rfl | rfl | rfl | rfl | rfl | rfl | rfl | rfl <;> first | rfl | exact absurd ⟨rfl, rfl⟩ hne
  · rcases (by omega : kd' = 20 ∨ kd' = 21 ∨ kd' = 22) with rfl | rfl | rfl <;> rfl
theorem bf_out (g : bxG) (ad : bxA) (σ τ : bxS) (w : bxW) (z : Int64) : bx_Fr g ad σ τ w σ τ (z, w.2) 17 0 := by
  refine ⟨fun kd' k' hl hne => ?_, fun _ _ h => h⟩
  rcases hl with ⟨h1, rfl⟩ | ⟨h1, h2, -⟩
  · rcases (by omega : kd' = 0 ∨ kd' = 1 ∨ kd' = 2 ∨ kd' = 3 ∨ kd' = 4 ∨ kd' = 5 ∨ kd' = 6 ∨ kd' = 7 ∨ kd' = 8 ∨ kd' = 9 ∨ kd' = 10 ∨ kd' = 11 ∨ kd' = 12 ∨ kd' = 13 ∨ kd' = 14 ∨ kd' = 15 ∨ kd' = 16 ∨ kd' = 17) with rfl | rfl | rfl | rfl | rfl | rfl | rfl | rfl | rfl | rfl | rfl | rfl | rfl | rfl | rfl | rfl | rfl | rfl <;> first | rfl | exact absurd ⟨rfl, rfl⟩ hne
  · rcases (by omega : kd' = 20 ∨ kd' = 21 ∨ kd' = 22) with rfl | rfl | rfl <;> rfl
theorem bf_m7 (g : bxG) (ad : bxA) (σ τ : bxS) (w : bxW) (i a : Int) (z : Int) : bx_Fr g ad σ τ w σ (up3 τ 7 i a z) w 13 0 := by
  refine ⟨fun kd' k' hl hne => ?_, bx_lcs (fun _ => rfl) (fun _ => rfl)⟩
  rcases hl with ⟨h1, rfl⟩ | ⟨h1, h2, -⟩
  · rcases (by omega : kd' = 0 ∨ kd' = 1 ∨ kd' = 2 ∨ kd' = 3 ∨ kd' = 4 ∨ kd' = 5 ∨ kd' = 6 ∨ kd' = 7 ∨ kd' = 8 ∨ kd' = 9 ∨ kd' = 10 ∨ kd' = 11 ∨ kd' = 12 ∨ kd' = 13 ∨ kd' = 14 ∨ kd' = 15 ∨ kd' = 16 ∨ kd' = 17) with rfl | rfl | rfl | rfl | rfl | rfl | rfl | rfl | rfl | rfl | rfl | rfl | rfl | rfl | rfl | rfl | rfl | rfl <;> first | rfl | exact absurd ⟨rfl, rfl⟩ hne
  · rcases (by omega : kd' = 20 ∨ kd' = 21 ∨ kd' = 22) with rfl | rfl | rfl <;> first | rfl | (have hk : k' ≠ 0 := fun q => hne ⟨rfl, q⟩; simp [bx_E, up3, hk])
theorem bf_m8 (g : bxG) (ad : bxA) (σ τ : bxS) (w : bxW) (i a : Int) (z : Int) : bx_Fr g ad σ τ w σ (up3 τ 8 i a z) w 14 0 := by
  refine ⟨fun kd' k' hl hne => ?_, bx_lcs (fun _ => rfl) (fun _ => rfl)⟩
  rcases hl with ⟨h1, rfl⟩ | ⟨h1, h2, -⟩
  · rcases (by omega : kd' = 0 ∨ kd' = 1 ∨ kd' = 2 ∨ kd' = 3 ∨ kd' = 4 ∨ kd' = 5 ∨ kd' = 6 ∨ kd' = 7 ∨ kd' = 8 ∨ kd' = 9 ∨ kd' = 10 ∨ kd' = 11 ∨ kd' = 12 ∨ kd' = 13 ∨ kd' = 14 ∨ kd' = 15 ∨ kd' = 16 ∨ kd' = 17) with rfl | rfl | rfl | rfl | rfl | rfl | rfl | rfl | rfl | rfl | rfl | rfl | rfl | rfl | rfl | rfl | rfl | rfl <;> first | rfl | exact absurd ⟨rfl, rfl⟩ hne
  · rcases (by omega : kd' = 20 ∨ kd' = 21 ∨ kd' = 22) with rfl | rfl | rfl <;> first | rfl | (have hk : k' ≠ 0 := fun q => hne ⟨rfl, q⟩; simp [bx_E, up3, hk])
theorem bx_upd (σ : bxS) (f : Nat) {i : Int} (h0 : 0 ≤ i) (z : Int) : upd (fun j : Nat => iI (σ f (j : Int) 0)) i.toNat (iI z) = fun j : Nat => iI (up3 σ f i 0 z f (j : Int) 0) := by
  funext j
  by_cases h : j = i.toNat
  · have h2 : (j : Int) = i := by omega
    simp [upd, up3, h, Int.toNat_of_nonneg h0]
  · have h2 : (j : Int) ≠ i := by omega
    simp [upd, up3, h, h2]
theorem bx_upd2 (σ : bxS) (f : Nat) (k : Int) {i : Int} (h0 : 0 ≤ i) (z : Int) : upd (fun j : Nat => iI (σ f k (j : Int))) i.toNat (iI z) = fun j : Nat => iI (up3 σ f k i z f k (j : Int)) := by
  funext j
  by_cases h : j = i.toNat
  · have h2 : (j : Int) = i := by omega
    simp [upd, up3, h, Int.toNat_of_nonneg h0]
  · have h2 : (j : Int) ≠ i := by omega
    simp [upd, up3, h, h2]
theorem bx_upd3 (σ : bxS) (f : Nat) {i a : Int} (h0 : 0 ≤ i) (ha : 0 ≤ a) (ha3 : a < 3) (z : Int) : upd (fun j : Nat => iI (σ f ((j : Int) / 3) ((j : Int) % 3))) (3 * i + a).toNat (iI z) = fun j : Nat => iI (up3 σ f i a z f ((j : Int) / 3) ((j : Int) % 3)) := by
  funext j
  by_cases h : j = (3 * i + a).toNat
  · have h2 : (j : Int) / 3 = i := by omega
    have h3 : (j : Int) % 3 = a := by omega
    simp only [upd, up3, if_pos h, h2, h3, and_self, if_true]
  · have h2 : ¬ ((j : Int) / 3 = i ∧ (j : Int) % 3 = a) := by omega
    simp [upd, up3, h, h2]
theorem nar_bool : ∀ z : Int, z = 0 ∨ z = 1 → vp_nar .boolean (iI z) = iI z := by
  rintro z (rfl | rfl) <;> decide
section BXR
variable {p : Program} {l : Launch} {e : Env} {R : Room} {s : State} {m : MethodId} {args : Array Value} {below : List Frame} {meth : Method} {c : Code} {H : Heap} {locs : List Loc} {cells slots : Nat} {Q : State → Prop}
variable {cc : ByteArray} {pc : Nat} {ls : Array Slot} {rest : List Value} {g : bxG} {ad : bxA} {σ τ σ' τ' : bxS} {w w' : bxW} {kd : Nat} {k : Int}
theorem bx_get (hx : p.tables.exec = Jvm.exec) (hb : c.code = cc) {own C : String} {T : u_T} {N ci index : Nat} {Ts : List Cond} (hts : ∀ w ∈ Ts, w.before args s = true) (hin : ∀ w ∈ u_ws C T N, w ∈ Ts) (hown : s.vm.findClass own = some m.cls) (hK : bx_K g s) (hU : bx_U g ad σ τ w H) (hl : bx_L σ kd k) {fs : List Value} (he : bx_E g ad σ τ w kd k = .inr (ci, fs)) (hc : vwCl[ci]? = some (C, T, N)) (j : Nat) (hj : j < N) (hlink : (Cond.fieldLink own index (T j).1 (T j).2.1 (T j).2.2.1).before args s = true) {v : Value} (hv : fs[j]? = some v) (hdg : decode cc pc = .ok (.getfield index, 3))
    (kk : W p l e R s m args below meth c H locs cells slots Q (F0 m (pc + 3) ls (v :: rest))) : W p l e R s m args below meth c H locs cells slots Q (F0 m pc ls (.ref (ad kd k) :: rest)) :=
  va_get (D := g.1) (cl := vwCl) (ref := (T j).1) hx hb hts hin hown hK (bx_P hU hl he) 0 rfl hc j hj hlink (fun _ h9 => h9) hv hdg kk
theorem bx_put (hx : p.tables.exec = Jvm.exec) (hb : c.code = cc) {own C : String} {T : u_T} {N ci index : Nat} {Ts : List Cond} (hts : ∀ w ∈ Ts, w.before args s = true) (hin : ∀ w ∈ u_ws C T N, w ∈ Ts) (ty0 : Nat → FieldType) (hty : ∀ k, k < N → parseFieldDescriptor (T k).2.2.1 = some (ty0 k)) (hnm : ∀ a, a < N → ∀ b, b < N → a ≠ b → (T a).2.1 ≠ (T b).2.1) (hown : s.vm.findClass own = some m.cls) (hK : bx_K g s) (hU : bx_U g ad σ τ w H) (hlc : bx_Lc g locs) (hl : bx_L σ kd k) {fs : List Value} (he : bx_E g ad σ τ w kd k = .inr (ci, fs)) (hc : vwCl[ci]? = some (C, T, N)) (j : Nat) (hj : j < N) (hlink : (Cond.fieldLink own index (T j).1 (T j).2.1 (T j).2.2.1).before args s = true) (hfin : (T j).2.2.2 = false) {ty : FieldType} {v : Value} (hd : parseFieldDescriptor (T j).2.2.1 = some ty) (hn : narrow ty v = v) (hfit : fits ty v = true) (hlen : j < fs.length)
    (hF : bx_Fr g ad σ τ w σ' τ' w' kd k) (he' : bx_E g ad σ' τ' w' kd k = .inr (ci, fs.set j v)) (hdg : decode cc pc = .ok (.putfield index, 3))
    (kk : ∀ (H1 : Heap) (locs1 : List Loc), bx_U g ad σ' τ' w' H1 → bx_F g H H1 → bx_Lc g locs1 → W p l e R s m args below meth c H1 locs1 cells slots Q (F0 m (pc + 3) ls rest)) : W p l e R s m args below meth c H locs cells slots Q (F0 m pc ls (v :: .ref (ad kd k) :: rest)) := by
  have hap := va_apart (own := own) hts hin ty0 hty hnm hK hc
  obtain ⟨r, h1, cell, q1, q2, q3, q4⟩ := bx_P hU hl he 0 _ rfl
  have hr : r = (C, T, N) := Option.some.inj (h1.symm.trans hc)
  subst hr
  obtain ⟨hS, hfc, kC, hkC, hkind⟩ := hK.1 ci _ hc
  obtain ⟨cf, kf, fi, f, hi, hsl⟩ := hS j hj
  have hlay := hts _ (hin _ (u_in_lay hj))
  unfold u_lay at hlay
  rw [if_neg (by rw [hfin]; decide)] at hlay
  have hst := (u_facts hfc hkC (u_lays hts hin hj) hi).1
  have h6 := u_store hfc hkC hkind hlay hi hd hn hfit
  refine W.putK hx hb (f := f) ⟨hown, hlink, ⟨_, _, _, hi⟩, hst⟩ (by rw [q2]; exact h6) q1 q3 (by rw [hsl]; exact k2_hasslot (q4 j hj)) rfl rfl hdg fun H' e1 e2 e3 => ?_
  rw [hsl] at e1 ⊢
  exact kk H' _ (hU.set hl hF he' ⟨_, hc, t_OB.to (V := updV (vp_V fs) j v) ⟨_, e1, q2, q3, t_set q4 hap hj v⟩ (fun i _ => vp_updV_set hlen v i)⟩ e3) (bx_F.put hU hl e2 e3) (hlc.add (hU.2.2 kd k hl))
theorem bx_ild (hx : p.tables.exec = Jvm.exec) (hb : c.code = cc) (hK : bx_K g s) (hU : bx_U g ad σ τ w H) (hl : bx_L σ kd k) {n : Nat} {f : Nat → Int32} (he : bx_E g ad σ τ w kd k = .inl (g.2.1 0, n, .inl f)) {i z : Int} (h0 : 0 ≤ i) (h1 : i < n) (hn : n < 2147483648) (hz : f i.toNat = iI z) (hdg : decode cc pc = .ok (.iaload, 1))
    (kk : W p l e R s m args below meth c H locs cells slots Q (F0 m (pc + 1) ls (.int (iI z) :: rest))) : W p l e R s m args below meth c H locs cells slots Q (F0 m pc ls (.int (iI i) :: .ref (ad kd k) :: rest)) :=
  va_iald (D := g.1) (cl := vwCl) hx hb hK (bx_P hU hl he) 0 0 rfl rfl (iI_in h0 h1 hn) hdg (by rw [iI_clamp h0 (by omega), hz]; exact kk)
theorem bx_zld (hx : p.tables.exec = Jvm.exec) (hb : c.code = cc) (hK : bx_K g s) (hU : bx_U g ad σ τ w H) (hl : bx_L σ kd k) {n : Nat} {f : Nat → Int32} (he : bx_E g ad σ τ w kd k = .inl (g.2.1 1, n, .inl f)) {i z : Int} (h0 : 0 ≤ i) (h1 : i < n) (hn : n < 2147483648) (hz : f i.toNat = iI z) (hdg : decode cc pc = .ok (.baload, 1))
    (kk : W p l e R s m args below meth c H locs cells slots Q (F0 m (pc + 1) ls (.int (iI z) :: rest))) : W p l e R s m args below meth c H locs cells slots Q (F0 m pc ls (.int (iI i) :: .ref (ad kd k) :: rest)) :=
  va_zald (D := g.1) (cl := vwCl) hx hb hK (bx_P hU hl he) 0 1 rfl rfl (iI_in h0 h1 hn) hdg (by rw [iI_clamp h0 (by omega), hz]; exact kk)
theorem bx_row (hx : p.tables.exec = Jvm.exec) (hb : c.code = cc) (hK : bx_K g s) (hU : bx_U g ad σ τ w H) {i : Int} (h0 : 0 ≤ i) (h1 : i < 60) (hdg : decode cc pc = .ok (.aaload, 1))
    (kn : σ 2 i 0 = 0 → W p l e R s m args below meth c H locs cells slots Q (F0 m (pc + 1) ls (.null :: rest))) (kr : σ 2 i 0 ≠ 0 → W p l e R s m args below meth c H locs cells slots Q (F0 m (pc + 1) ls (.ref (ad 20 i) :: rest))) : W p l e R s m args below meth c H locs cells slots Q (F0 m pc ls (.int (iI i) :: .ref (ad 1 0) :: rest)) := by
  refine va_aldq (D := g.1) (cl := vwCl) (tys := bx_T g) (C := RX0) hx hb hK (bx_P hU (bx_L0 (by omega)) (kd := 1) rfl) 0 2 rfl rfl (iI_in (n := 60) h0 h1 (by omega)) hdg ?_
  rw [iI_clamp h0 (by omega), Int.toNat_of_nonneg h0]
  by_cases hq : σ 2 i 0 = 0
  · rw [if_pos hq]; exact kn hq
  · rw [if_neg hq]; exact kr hq
theorem bx_ist (hx : p.tables.exec = Jvm.exec) (hb : c.code = cc) (hK : bx_K g s) (hU : bx_U g ad σ τ w H) (hlc : bx_Lc g locs) (hl : bx_L σ kd k) {n : Nat} {f : Nat → Int32} (he : bx_E g ad σ τ w kd k = .inl (g.2.1 0, n, .inl f)) {i z : Int} (h0 : 0 ≤ i) (h1 : i < n) (hn : n < 2147483648)
    (hF : bx_Fr g ad σ τ w σ' τ' w' kd k) (he' : bx_E g ad σ' τ' w' kd k = .inl (g.2.1 0, n, .inl (upd f i.toNat (iI z)))) (hdg : decode cc pc = .ok (.iastore, 1))
    (kk : ∀ (H1 : Heap) (locs1 : List Loc), bx_U g ad σ' τ' w' H1 → bx_F g H H1 → bx_Lc g locs1 → W p l e R s m args below meth c H1 locs1 cells slots Q (F0 m (pc + 1) ls rest)) : W p l e R s m args below meth c H locs cells slots Q (F0 m pc ls (.int (iI z) :: .int (iI i) :: .ref (ad kd k) :: rest)) := by
  have hin := iI_in h0 h1 hn
  refine W.iast hx hb (bx_P hU hl he 0 _ rfl) ((hK.2 0 _ rfl).1 n (fun j => .int (f j))) (fun q => by cases q) (by show ¬ (_ < 0 ∨ (arrV _ _ _).slots.size ≤ _); rw [arrV_size]; exact hin) rfl rfl hdg fun H1 e2 z2 oq => ?_
  refine kk H1 _ (hU.set hl hF he' ?_ oq) (bx_F.put hU hl z2 oq) (hlc.add (hU.2.2 kd k hl))
  show H1[ad kd k]? = some (vp_cell _ _)
  rw [e2, vp_cell_i, vp_cell_i, arrV_store, iI_clamp h0 (by omega)]
  congr 2
  funext q
  by_cases hq : q = i.toNat
  · subst hq
    simp [updV, upd]
  · simp [updV, upd, hq]
theorem bx_zst (hx : p.tables.exec = Jvm.exec) (hb : c.code = cc) (hK : bx_K g s) (hU : bx_U g ad σ τ w H) (hlc : bx_Lc g locs) (hl : bx_L σ kd k) {n : Nat} {f : Nat → Int32} (he : bx_E g ad σ τ w kd k = .inl (g.2.1 1, n, .inl f)) {i z : Int} (h0 : 0 ≤ i) (h1 : i < n) (hn : n < 2147483648) (hz : z = 0 ∨ z = 1)
    (hF : bx_Fr g ad σ τ w σ' τ' w' kd k) (he' : bx_E g ad σ' τ' w' kd k = .inl (g.2.1 1, n, .inl (upd f i.toNat (iI z)))) (hdg : decode cc pc = .ok (.bastore, 1))
    (kk : ∀ (H1 : Heap) (locs1 : List Loc), bx_U g ad σ' τ' w' H1 → bx_F g H H1 → bx_Lc g locs1 → W p l e R s m args below meth c H1 locs1 cells slots Q (F0 m (pc + 1) ls rest)) : W p l e R s m args below meth c H locs cells slots Q (F0 m pc ls (.int (iI z) :: .int (iI i) :: .ref (ad kd k) :: rest)) := by
  have hin := iI_in h0 h1 hn
  have hnr : narrow .boolean (.int (iI z)) = .int (iI z) := by rcases hz with rfl | rfl <;> rfl
  refine W.zast hx hb (bx_P hU hl he 0 _ rfl) ((hK.2 1 _ rfl).1 n (fun j => .int (f j))) (fun q => by cases q) (by show ¬ (_ < 0 ∨ (arrV _ _ _).slots.size ≤ _); rw [arrV_size]; exact hin) rfl rfl hdg fun H1 e2 z2 oq => ?_
  refine kk H1 _ (hU.set hl hF he' ?_ oq) (bx_F.put hU hl z2 oq) (hlc.add (hU.2.2 kd k hl))
  show H1[ad kd k]? = some (vp_cell _ _)
  rw [hnr] at e2
  rw [e2, vp_cell_i, vp_cell_i, arrV_store, iI_clamp h0 (by omega)]
  congr 2
  funext q
  by_cases hq : q = i.toNat
  · subst hq
    simp [updV, upd]
  · simp [updV, upd, hq]
theorem bl_2 (hx : p.tables.exec = Jvm.exec) (hb : c.code = cc) (hK : bx_K g s) (hU : bx_U g ad σ τ w H) {i : Int} (h0 : 0 ≤ i) (h1 : i < 64) (hdg : decode cc pc = .ok (.baload, 1))
    (kk : W p l e R s m args below meth c H locs cells slots Q (F0 m (pc + 1) ls (.int (iI (σ 9 i 0)) :: rest))) : W p l e R s m args below meth c H locs cells slots Q (F0 m pc ls (.int (iI i) :: .ref (ad 2 0) :: rest)) :=
  bx_zld (n := 64) (f := fun j : Nat => iI (σ 9 (j : Int) 0)) hx hb hK hU (bx_L0 (by omega)) rfl h0 h1 (by omega) (by show iI (σ 9 (i.toNat : Int) 0) = _; rw [Int.toNat_of_nonneg h0]) hdg kk
theorem bs_2 (hx : p.tables.exec = Jvm.exec) (hb : c.code = cc) (hK : bx_K g s) (hU : bx_U g ad σ τ w H) (hlc : bx_Lc g locs) {i z : Int} (h0 : 0 ≤ i) (h1 : i < 64) (hz : z = 0 ∨ z = 1) (hdg : decode cc pc = .ok (.bastore, 1))
    (kk : ∀ (H1 : Heap) (locs1 : List Loc), bx_U g ad (up3 σ 9 i 0 z) τ w H1 → bx_F g H H1 → bx_Lc g locs1 → W p l e R s m args below meth c H1 locs1 cells slots Q (F0 m (pc + 1) ls rest)) : W p l e R s m args below meth c H locs cells slots Q (F0 m pc ls (.int (iI z) :: .int (iI i) :: .ref (ad 2 0) :: rest)) :=
  bx_zst (n := 64) (f := fun j : Nat => iI (σ 9 (j : Int) 0)) hx hb hK hU hlc (bx_L0 (by omega)) rfl h0 h1 (by omega) hz (bf_c9 g ad σ τ w i z) (by rw [bx_upd σ 9 h0 z]; rfl) hdg kk
theorem bl_3 (hx : p.tables.exec = Jvm.exec) (hb : c.code = cc) (hK : bx_K g s) (hU : bx_U g ad σ τ w H) {i : Int} (h0 : 0 ≤ i) (h1 : i < 60) (hdg : decode cc pc = .ok (.iaload, 1))
    (kk : W p l e R s m args below meth c H locs cells slots Q (F0 m (pc + 1) ls (.int (iI (σ 10 i 0)) :: rest))) : W p l e R s m args below meth c H locs cells slots Q (F0 m pc ls (.int (iI i) :: .ref (ad 3 0) :: rest)) :=
  bx_ild (n := 60) (f := fun j : Nat => iI (σ 10 (j : Int) 0)) hx hb hK hU (bx_L0 (by omega)) rfl h0 h1 (by omega) (by show iI (σ 10 (i.toNat : Int) 0) = _; rw [Int.toNat_of_nonneg h0]) hdg kk
theorem bs_3 (hx : p.tables.exec = Jvm.exec) (hb : c.code = cc) (hK : bx_K g s) (hU : bx_U g ad σ τ w H) (hlc : bx_Lc g locs) {i z : Int} (h0 : 0 ≤ i) (h1 : i < 60) (hdg : decode cc pc = .ok (.iastore, 1))
    (kk : ∀ (H1 : Heap) (locs1 : List Loc), bx_U g ad (up3 σ 10 i 0 z) τ w H1 → bx_F g H H1 → bx_Lc g locs1 → W p l e R s m args below meth c H1 locs1 cells slots Q (F0 m (pc + 1) ls rest)) : W p l e R s m args below meth c H locs cells slots Q (F0 m pc ls (.int (iI z) :: .int (iI i) :: .ref (ad 3 0) :: rest)) :=
  bx_ist (n := 60) (f := fun j : Nat => iI (σ 10 (j : Int) 0)) hx hb hK hU hlc (bx_L0 (by omega)) rfl h0 h1 (by omega) (bf_c10 g ad σ τ w i z) (by rw [bx_upd σ 10 h0 z]; rfl) hdg kk
theorem bl_4 (hx : p.tables.exec = Jvm.exec) (hb : c.code = cc) (hK : bx_K g s) (hU : bx_U g ad σ τ w H) {i : Int} (h0 : 0 ≤ i) (h1 : i < 60) (hdg : decode cc pc = .ok (.iaload, 1))
    (kk : W p l e R s m args below meth c H locs cells slots Q (F0 m (pc + 1) ls (.int (iI (σ 11 i 0)) :: rest))) : W p l e R s m args below meth c H locs cells slots Q (F0 m pc ls (.int (iI i) :: .ref (ad 4 0) :: rest)) :=
  bx_ild (n := 60) (f := fun j : Nat => iI (σ 11 (j : Int) 0)) hx hb hK hU (bx_L0 (by omega)) rfl h0 h1 (by omega) (by show iI (σ 11 (i.toNat : Int) 0) = _; rw [Int.toNat_of_nonneg h0]) hdg kk
theorem bs_4 (hx : p.tables.exec = Jvm.exec) (hb : c.code = cc) (hK : bx_K g s) (hU : bx_U g ad σ τ w H) (hlc : bx_Lc g locs) {i z : Int} (h0 : 0 ≤ i) (h1 : i < 60) (hdg : decode cc pc = .ok (.iastore, 1))
    (kk : ∀ (H1 : Heap) (locs1 : List Loc), bx_U g ad (up3 σ 11 i 0 z) τ w H1 → bx_F g H H1 → bx_Lc g locs1 → W p l e R s m args below meth c H1 locs1 cells slots Q (F0 m (pc + 1) ls rest)) : W p l e R s m args below meth c H locs cells slots Q (F0 m pc ls (.int (iI z) :: .int (iI i) :: .ref (ad 4 0) :: rest)) :=
  bx_ist (n := 60) (f := fun j : Nat => iI (σ 11 (j : Int) 0)) hx hb hK hU hlc (bx_L0 (by omega)) rfl h0 h1 (by omega) (bf_c11 g ad σ τ w i z) (by rw [bx_upd σ 11 h0 z]; rfl) hdg kk
theorem bl_5 (hx : p.tables.exec = Jvm.exec) (hb : c.code = cc) (hK : bx_K g s) (hU : bx_U g ad σ τ w H) {i : Int} (h0 : 0 ≤ i) (h1 : i < 60) (hdg : decode cc pc = .ok (.iaload, 1))
    (kk : W p l e R s m args below meth c H locs cells slots Q (F0 m (pc + 1) ls (.int (iI (σ 12 i 0)) :: rest))) : W p l e R s m args below meth c H locs cells slots Q (F0 m pc ls (.int (iI i) :: .ref (ad 5 0) :: rest)) :=
  bx_ild (n := 60) (f := fun j : Nat => iI (σ 12 (j : Int) 0)) hx hb hK hU (bx_L0 (by omega)) rfl h0 h1 (by omega) (by show iI (σ 12 (i.toNat : Int) 0) = _; rw [Int.toNat_of_nonneg h0]) hdg kk
theorem bs_5 (hx : p.tables.exec = Jvm.exec) (hb : c.code = cc) (hK : bx_K g s) (hU : bx_U g ad σ τ w H) (hlc : bx_Lc g locs) {i z : Int} (h0 : 0 ≤ i) (h1 : i < 60) (hdg : decode cc pc = .ok (.iastore, 1))
    (kk : ∀ (H1 : Heap) (locs1 : List Loc), bx_U g ad (up3 σ 12 i 0 z) τ w H1 → bx_F g H H1 → bx_Lc g locs1 → W p l e R s m args below meth c H1 locs1 cells slots Q (F0 m (pc + 1) ls rest)) : W p l e R s m args below meth c H locs cells slots Q (F0 m pc ls (.int (iI z) :: .int (iI i) :: .ref (ad 5 0) :: rest)) :=
  bx_ist (n := 60) (f := fun j : Nat => iI (σ 12 (j : Int) 0)) hx hb hK hU hlc (bx_L0 (by omega)) rfl h0 h1 (by omega) (bf_c12 g ad σ τ w i z) (by rw [bx_upd σ 12 h0 z]; rfl) hdg kk
theorem bl_6 (hx : p.tables.exec = Jvm.exec) (hb : c.code = cc) (hK : bx_K g s) (hU : bx_U g ad σ τ w H) {i : Int} (h0 : 0 ≤ i) (h1 : i < 60) (hdg : decode cc pc = .ok (.iaload, 1))
    (kk : W p l e R s m args below meth c H locs cells slots Q (F0 m (pc + 1) ls (.int (iI (σ 13 i 0)) :: rest))) : W p l e R s m args below meth c H locs cells slots Q (F0 m pc ls (.int (iI i) :: .ref (ad 6 0) :: rest)) :=
  bx_ild (n := 60) (f := fun j : Nat => iI (σ 13 (j : Int) 0)) hx hb hK hU (bx_L0 (by omega)) rfl h0 h1 (by omega) (by show iI (σ 13 (i.toNat : Int) 0) = _; rw [Int.toNat_of_nonneg h0]) hdg kk
theorem bs_6 (hx : p.tables.exec = Jvm.exec) (hb : c.code = cc) (hK : bx_K g s) (hU : bx_U g ad σ τ w H) (hlc : bx_Lc g locs) {i z : Int} (h0 : 0 ≤ i) (h1 : i < 60) (hdg : decode cc pc = .ok (.iastore, 1))
    (kk : ∀ (H1 : Heap) (locs1 : List Loc), bx_U g ad (up3 σ 13 i 0 z) τ w H1 → bx_F g H H1 → bx_Lc g locs1 → W p l e R s m args below meth c H1 locs1 cells slots Q (F0 m (pc + 1) ls rest)) : W p l e R s m args below meth c H locs cells slots Q (F0 m pc ls (.int (iI z) :: .int (iI i) :: .ref (ad 6 0) :: rest)) :=
  bx_ist (n := 60) (f := fun j : Nat => iI (σ 13 (j : Int) 0)) hx hb hK hU hlc (bx_L0 (by omega)) rfl h0 h1 (by omega) (bf_c13 g ad σ τ w i z) (by rw [bx_upd σ 13 h0 z]; rfl) hdg kk
theorem bl_8 (hx : p.tables.exec = Jvm.exec) (hb : c.code = cc) (hK : bx_K g s) (hU : bx_U g ad σ τ w H) {i : Int} (h0 : 0 ≤ i) (h1 : i < 60) (hdg : decode cc pc = .ok (.baload, 1))
    (kk : W p l e R s m args below meth c H locs cells slots Q (F0 m (pc + 1) ls (.int (iI (τ 2 i 0)) :: rest))) : W p l e R s m args below meth c H locs cells slots Q (F0 m pc ls (.int (iI i) :: .ref (ad 8 0) :: rest)) :=
  bx_zld (n := 60) (f := fun j : Nat => iI (τ 2 (j : Int) 0)) hx hb hK hU (bx_L0 (by omega)) rfl h0 h1 (by omega) (by show iI (τ 2 (i.toNat : Int) 0) = _; rw [Int.toNat_of_nonneg h0]) hdg kk
theorem bs_8 (hx : p.tables.exec = Jvm.exec) (hb : c.code = cc) (hK : bx_K g s) (hU : bx_U g ad σ τ w H) (hlc : bx_Lc g locs) {i z : Int} (h0 : 0 ≤ i) (h1 : i < 60) (hz : z = 0 ∨ z = 1) (hdg : decode cc pc = .ok (.bastore, 1))
    (kk : ∀ (H1 : Heap) (locs1 : List Loc), bx_U g ad σ (up3 τ 2 i 0 z) w H1 → bx_F g H H1 → bx_Lc g locs1 → W p l e R s m args below meth c H1 locs1 cells slots Q (F0 m (pc + 1) ls rest)) : W p l e R s m args below meth c H locs cells slots Q (F0 m pc ls (.int (iI z) :: .int (iI i) :: .ref (ad 8 0) :: rest)) :=
  bx_zst (n := 60) (f := fun j : Nat => iI (τ 2 (j : Int) 0)) hx hb hK hU hlc (bx_L0 (by omega)) rfl h0 h1 (by omega) hz (bf_m2 g ad σ τ w i z) (by rw [bx_upd τ 2 h0 z]; rfl) hdg kk
theorem bl_9 (hx : p.tables.exec = Jvm.exec) (hb : c.code = cc) (hK : bx_K g s) (hU : bx_U g ad σ τ w H) {i : Int} (h0 : 0 ≤ i) (h1 : i < 60) (hdg : decode cc pc = .ok (.iaload, 1))
    (kk : W p l e R s m args below meth c H locs cells slots Q (F0 m (pc + 1) ls (.int (iI (τ 3 i 0)) :: rest))) : W p l e R s m args below meth c H locs cells slots Q (F0 m pc ls (.int (iI i) :: .ref (ad 9 0) :: rest)) :=
  bx_ild (n := 60) (f := fun j : Nat => iI (τ 3 (j : Int) 0)) hx hb hK hU (bx_L0 (by omega)) rfl h0 h1 (by omega) (by show iI (τ 3 (i.toNat : Int) 0) = _; rw [Int.toNat_of_nonneg h0]) hdg kk
theorem bs_9 (hx : p.tables.exec = Jvm.exec) (hb : c.code = cc) (hK : bx_K g s) (hU : bx_U g ad σ τ w H) (hlc : bx_Lc g locs) {i z : Int} (h0 : 0 ≤ i) (h1 : i < 60) (hdg : decode cc pc = .ok (.iastore, 1))
    (kk : ∀ (H1 : Heap) (locs1 : List Loc), bx_U g ad σ (up3 τ 3 i 0 z) w H1 → bx_F g H H1 → bx_Lc g locs1 → W p l e R s m args below meth c H1 locs1 cells slots Q (F0 m (pc + 1) ls rest)) : W p l e R s m args below meth c H locs cells slots Q (F0 m pc ls (.int (iI z) :: .int (iI i) :: .ref (ad 9 0) :: rest)) :=
  bx_ist (n := 60) (f := fun j : Nat => iI (τ 3 (j : Int) 0)) hx hb hK hU hlc (bx_L0 (by omega)) rfl h0 h1 (by omega) (bf_m3 g ad σ τ w i z) (by rw [bx_upd τ 3 h0 z]; rfl) hdg kk
theorem bl_10 (hx : p.tables.exec = Jvm.exec) (hb : c.code = cc) (hK : bx_K g s) (hU : bx_U g ad σ τ w H) {i : Int} (h0 : 0 ≤ i) (h1 : i < 60) (hdg : decode cc pc = .ok (.iaload, 1))
    (kk : W p l e R s m args below meth c H locs cells slots Q (F0 m (pc + 1) ls (.int (iI (τ 4 i 0)) :: rest))) : W p l e R s m args below meth c H locs cells slots Q (F0 m pc ls (.int (iI i) :: .ref (ad 10 0) :: rest)) :=
  bx_ild (n := 60) (f := fun j : Nat => iI (τ 4 (j : Int) 0)) hx hb hK hU (bx_L0 (by omega)) rfl h0 h1 (by omega) (by show iI (τ 4 (i.toNat : Int) 0) = _; rw [Int.toNat_of_nonneg h0]) hdg kk
theorem bs_10 (hx : p.tables.exec = Jvm.exec) (hb : c.code = cc) (hK : bx_K g s) (hU : bx_U g ad σ τ w H) (hlc : bx_Lc g locs) {i z : Int} (h0 : 0 ≤ i) (h1 : i < 60) (hdg : decode cc pc = .ok (.iastore, 1))
    (kk : ∀ (H1 : Heap) (locs1 : List Loc), bx_U g ad σ (up3 τ 4 i 0 z) w H1 → bx_F g H H1 → bx_Lc g locs1 → W p l e R s m args below meth c H1 locs1 cells slots Q (F0 m (pc + 1) ls rest)) : W p l e R s m args below meth c H locs cells slots Q (F0 m pc ls (.int (iI z) :: .int (iI i) :: .ref (ad 10 0) :: rest)) :=
  bx_ist (n := 60) (f := fun j : Nat => iI (τ 4 (j : Int) 0)) hx hb hK hU hlc (bx_L0 (by omega)) rfl h0 h1 (by omega) (bf_m4 g ad σ τ w i z) (by rw [bx_upd τ 4 h0 z]; rfl) hdg kk
theorem bl_11 (hx : p.tables.exec = Jvm.exec) (hb : c.code = cc) (hK : bx_K g s) (hU : bx_U g ad σ τ w H) {i : Int} (h0 : 0 ≤ i) (h1 : i < 60) (hdg : decode cc pc = .ok (.iaload, 1))
    (kk : W p l e R s m args below meth c H locs cells slots Q (F0 m (pc + 1) ls (.int (iI (τ 5 i 0)) :: rest))) : W p l e R s m args below meth c H locs cells slots Q (F0 m pc ls (.int (iI i) :: .ref (ad 11 0) :: rest)) :=
  bx_ild (n := 60) (f := fun j : Nat => iI (τ 5 (j : Int) 0)) hx hb hK hU (bx_L0 (by omega)) rfl h0 h1 (by omega) (by show iI (τ 5 (i.toNat : Int) 0) = _; rw [Int.toNat_of_nonneg h0]) hdg kk
theorem bs_11 (hx : p.tables.exec = Jvm.exec) (hb : c.code = cc) (hK : bx_K g s) (hU : bx_U g ad σ τ w H) (hlc : bx_Lc g locs) {i z : Int} (h0 : 0 ≤ i) (h1 : i < 60) (hdg : decode cc pc = .ok (.iastore, 1))
    (kk : ∀ (H1 : Heap) (locs1 : List Loc), bx_U g ad σ (up3 τ 5 i 0 z) w H1 → bx_F g H H1 → bx_Lc g locs1 → W p l e R s m args below meth c H1 locs1 cells slots Q (F0 m (pc + 1) ls rest)) : W p l e R s m args below meth c H locs cells slots Q (F0 m pc ls (.int (iI z) :: .int (iI i) :: .ref (ad 11 0) :: rest)) :=
  bx_ist (n := 60) (f := fun j : Nat => iI (τ 5 (j : Int) 0)) hx hb hK hU hlc (bx_L0 (by omega)) rfl h0 h1 (by omega) (bf_m5 g ad σ τ w i z) (by rw [bx_upd τ 5 h0 z]; rfl) hdg kk
theorem bl_12 (hx : p.tables.exec = Jvm.exec) (hb : c.code = cc) (hK : bx_K g s) (hU : bx_U g ad σ τ w H) {i : Int} (h0 : 0 ≤ i) (h1 : i < 60) (hdg : decode cc pc = .ok (.iaload, 1))
    (kk : W p l e R s m args below meth c H locs cells slots Q (F0 m (pc + 1) ls (.int (iI (τ 6 i 0)) :: rest))) : W p l e R s m args below meth c H locs cells slots Q (F0 m pc ls (.int (iI i) :: .ref (ad 12 0) :: rest)) :=
  bx_ild (n := 60) (f := fun j : Nat => iI (τ 6 (j : Int) 0)) hx hb hK hU (bx_L0 (by omega)) rfl h0 h1 (by omega) (by show iI (τ 6 (i.toNat : Int) 0) = _; rw [Int.toNat_of_nonneg h0]) hdg kk
theorem bs_12 (hx : p.tables.exec = Jvm.exec) (hb : c.code = cc) (hK : bx_K g s) (hU : bx_U g ad σ τ w H) (hlc : bx_Lc g locs) {i z : Int} (h0 : 0 ≤ i) (h1 : i < 60) (hdg : decode cc pc = .ok (.iastore, 1))
    (kk : ∀ (H1 : Heap) (locs1 : List Loc), bx_U g ad σ (up3 τ 6 i 0 z) w H1 → bx_F g H H1 → bx_Lc g locs1 → W p l e R s m args below meth c H1 locs1 cells slots Q (F0 m (pc + 1) ls rest)) : W p l e R s m args below meth c H locs cells slots Q (F0 m pc ls (.int (iI z) :: .int (iI i) :: .ref (ad 12 0) :: rest)) :=
  bx_ist (n := 60) (f := fun j : Nat => iI (τ 6 (j : Int) 0)) hx hb hK hU hlc (bx_L0 (by omega)) rfl h0 h1 (by omega) (bf_m6 g ad σ τ w i z) (by rw [bx_upd τ 6 h0 z]; rfl) hdg kk
theorem bl_15 (hx : p.tables.exec = Jvm.exec) (hb : c.code = cc) (hK : bx_K g s) (hU : bx_U g ad σ τ w H) {i : Int} (h0 : 0 ≤ i) (h1 : i < 64) (hdg : decode cc pc = .ok (.baload, 1))
    (kk : W p l e R s m args below meth c H locs cells slots Q (F0 m (pc + 1) ls (.int (iI (τ 9 i 0)) :: rest))) : W p l e R s m args below meth c H locs cells slots Q (F0 m pc ls (.int (iI i) :: .ref (ad 15 0) :: rest)) :=
  bx_zld (n := 64) (f := fun j : Nat => iI (τ 9 (j : Int) 0)) hx hb hK hU (bx_L0 (by omega)) rfl h0 h1 (by omega) (by show iI (τ 9 (i.toNat : Int) 0) = _; rw [Int.toNat_of_nonneg h0]) hdg kk
theorem bs_15 (hx : p.tables.exec = Jvm.exec) (hb : c.code = cc) (hK : bx_K g s) (hU : bx_U g ad σ τ w H) (hlc : bx_Lc g locs) {i z : Int} (h0 : 0 ≤ i) (h1 : i < 64) (hz : z = 0 ∨ z = 1) (hdg : decode cc pc = .ok (.bastore, 1))
    (kk : ∀ (H1 : Heap) (locs1 : List Loc), bx_U g ad σ (up3 τ 9 i 0 z) w H1 → bx_F g H H1 → bx_Lc g locs1 → W p l e R s m args below meth c H1 locs1 cells slots Q (F0 m (pc + 1) ls rest)) : W p l e R s m args below meth c H locs cells slots Q (F0 m pc ls (.int (iI z) :: .int (iI i) :: .ref (ad 15 0) :: rest)) :=
  bx_zst (n := 64) (f := fun j : Nat => iI (τ 9 (j : Int) 0)) hx hb hK hU hlc (bx_L0 (by omega)) rfl h0 h1 (by omega) hz (bf_m9 g ad σ τ w i z) (by rw [bx_upd τ 9 h0 z]; rfl) hdg kk
theorem bl_16 (hx : p.tables.exec = Jvm.exec) (hb : c.code = cc) (hK : bx_K g s) (hU : bx_U g ad σ τ w H) {i : Int} (h0 : 0 ≤ i) (h1 : i < 60) (hdg : decode cc pc = .ok (.iaload, 1))
    (kk : W p l e R s m args below meth c H locs cells slots Q (F0 m (pc + 1) ls (.int (iI (τ 10 i 0)) :: rest))) : W p l e R s m args below meth c H locs cells slots Q (F0 m pc ls (.int (iI i) :: .ref (ad 16 0) :: rest)) :=
  bx_ild (n := 60) (f := fun j : Nat => iI (τ 10 (j : Int) 0)) hx hb hK hU (bx_L0 (by omega)) rfl h0 h1 (by omega) (by show iI (τ 10 (i.toNat : Int) 0) = _; rw [Int.toNat_of_nonneg h0]) hdg kk
theorem bs_16 (hx : p.tables.exec = Jvm.exec) (hb : c.code = cc) (hK : bx_K g s) (hU : bx_U g ad σ τ w H) (hlc : bx_Lc g locs) {i z : Int} (h0 : 0 ≤ i) (h1 : i < 60) (hdg : decode cc pc = .ok (.iastore, 1))
    (kk : ∀ (H1 : Heap) (locs1 : List Loc), bx_U g ad σ (up3 τ 10 i 0 z) w H1 → bx_F g H H1 → bx_Lc g locs1 → W p l e R s m args below meth c H1 locs1 cells slots Q (F0 m (pc + 1) ls rest)) : W p l e R s m args below meth c H locs cells slots Q (F0 m pc ls (.int (iI z) :: .int (iI i) :: .ref (ad 16 0) :: rest)) :=
  bx_ist (n := 60) (f := fun j : Nat => iI (τ 10 (j : Int) 0)) hx hb hK hU hlc (bx_L0 (by omega)) rfl h0 h1 (by omega) (bf_m10 g ad σ τ w i z) (by rw [bx_upd τ 10 h0 z]; rfl) hdg kk
theorem bl_21 (hx : p.tables.exec = Jvm.exec) (hb : c.code = cc) (hK : bx_K g s) (hU : bx_U g ad σ τ w H) {k i : Int} (hp : 0 ≤ k ∧ k < 60 ∧ σ 2 k 0 ≠ 0) (h0 : 0 ≤ i) (h1 : i < 3) (hdg : decode cc pc = .ok (.iaload, 1))
    (kk : W p l e R s m args below meth c H locs cells slots Q (F0 m (pc + 1) ls (.int (iI (σ 7 k i)) :: rest))) : W p l e R s m args below meth c H locs cells slots Q (F0 m pc ls (.int (iI i) :: .ref (ad 21 k) :: rest)) :=
  bx_ild (n := 3) (f := fun j : Nat => iI (σ 7 k (j : Int))) hx hb hK hU (bx_Lp (by omega) (by omega) hp) rfl h0 h1 (by omega) (by show iI (σ 7 k (i.toNat : Int)) = _; rw [Int.toNat_of_nonneg h0]) hdg kk
theorem bs_21 (hx : p.tables.exec = Jvm.exec) (hb : c.code = cc) (hK : bx_K g s) (hU : bx_U g ad σ τ w H) (hlc : bx_Lc g locs) {k i z : Int} (hp : 0 ≤ k ∧ k < 60 ∧ σ 2 k 0 ≠ 0) (h0 : 0 ≤ i) (h1 : i < 3) (hdg : decode cc pc = .ok (.iastore, 1))
    (kk : ∀ (H1 : Heap) (locs1 : List Loc), bx_U g ad (up3 σ 7 k i z) τ w H1 → bx_F g H H1 → bx_Lc g locs1 → W p l e R s m args below meth c H1 locs1 cells slots Q (F0 m (pc + 1) ls rest)) : W p l e R s m args below meth c H locs cells slots Q (F0 m pc ls (.int (iI z) :: .int (iI i) :: .ref (ad 21 k) :: rest)) :=
  bx_ist (n := 3) (f := fun j : Nat => iI (σ 7 k (j : Int))) hx hb hK hU hlc (bx_Lp (by omega) (by omega) hp) rfl h0 h1 (by omega) (bf_c7 g ad σ τ w k i z) (by rw [bx_upd2 σ 7 k h0 z]; rfl) hdg kk
theorem bl_22 (hx : p.tables.exec = Jvm.exec) (hb : c.code = cc) (hK : bx_K g s) (hU : bx_U g ad σ τ w H) {k i : Int} (hp : 0 ≤ k ∧ k < 60 ∧ σ 2 k 0 ≠ 0) (h0 : 0 ≤ i) (h1 : i < 3) (hdg : decode cc pc = .ok (.iaload, 1))
    (kk : W p l e R s m args below meth c H locs cells slots Q (F0 m (pc + 1) ls (.int (iI (σ 8 k i)) :: rest))) : W p l e R s m args below meth c H locs cells slots Q (F0 m pc ls (.int (iI i) :: .ref (ad 22 k) :: rest)) :=
  bx_ild (n := 3) (f := fun j : Nat => iI (σ 8 k (j : Int))) hx hb hK hU (bx_Lp (by omega) (by omega) hp) rfl h0 h1 (by omega) (by show iI (σ 8 k (i.toNat : Int)) = _; rw [Int.toNat_of_nonneg h0]) hdg kk
theorem bs_22 (hx : p.tables.exec = Jvm.exec) (hb : c.code = cc) (hK : bx_K g s) (hU : bx_U g ad σ τ w H) (hlc : bx_Lc g locs) {k i z : Int} (hp : 0 ≤ k ∧ k < 60 ∧ σ 2 k 0 ≠ 0) (h0 : 0 ≤ i) (h1 : i < 3) (hdg : decode cc pc = .ok (.iastore, 1))
    (kk : ∀ (H1 : Heap) (locs1 : List Loc), bx_U g ad (up3 σ 8 k i z) τ w H1 → bx_F g H H1 → bx_Lc g locs1 → W p l e R s m args below meth c H1 locs1 cells slots Q (F0 m (pc + 1) ls rest)) : W p l e R s m args below meth c H locs cells slots Q (F0 m pc ls (.int (iI z) :: .int (iI i) :: .ref (ad 22 k) :: rest)) :=
  bx_ist (n := 3) (f := fun j : Nat => iI (σ 8 k (j : Int))) hx hb hK hU hlc (bx_Lp (by omega) (by omega) hp) rfl h0 h1 (by omega) (bf_c8 g ad σ τ w k i z) (by rw [bx_upd2 σ 8 k h0 z]; rfl) hdg kk
theorem bl_13 (hx : p.tables.exec = Jvm.exec) (hb : c.code = cc) (hK : bx_K g s) (hU : bx_U g ad σ τ w H) {i a : Int} (h0 : 0 ≤ i) (h1 : i < 60) (ha : 0 ≤ a) (ha3 : a < 3) (hdg : decode cc pc = .ok (.iaload, 1))
    (kk : W p l e R s m args below meth c H locs cells slots Q (F0 m (pc + 1) ls (.int (iI (τ 7 i a)) :: rest))) : W p l e R s m args below meth c H locs cells slots Q (F0 m pc ls (.int (iI (3 * i + a)) :: .ref (ad 13 0) :: rest)) :=
  bx_ild (n := 180) (f := fun j : Nat => iI (τ 7 ((j : Int) / 3) ((j : Int) % 3))) hx hb hK hU (bx_L0 (by omega)) rfl (by omega) (by omega) (by omega) (by show iI (τ 7 (((3 * i + a).toNat : Int) / 3) (((3 * i + a).toNat : Int) % 3)) = _; rw [show (((3 * i + a).toNat : Int) / 3) = i by omega, show (((3 * i + a).toNat : Int) % 3) = a by omega]) hdg kk
theorem bs_13 (hx : p.tables.exec = Jvm.exec) (hb : c.code = cc) (hK : bx_K g s) (hU : bx_U g ad σ τ w H) (hlc : bx_Lc g locs) {i a z : Int} (h0 : 0 ≤ i) (h1 : i < 60) (ha : 0 ≤ a) (ha3 : a < 3) (hdg : decode cc pc = .ok (.iastore, 1))
    (kk : ∀ (H1 : Heap) (locs1 : List Loc), bx_U g ad σ (up3 τ 7 i a z) w H1 → bx_F g H H1 → bx_Lc g locs1 → W p l e R s m args below meth c H1 locs1 cells slots Q (F0 m (pc + 1) ls rest)) : W p l e R s m args below meth c H locs cells slots Q (F0 m pc ls (.int (iI z) :: .int (iI (3 * i + a)) :: .ref (ad 13 0) :: rest)) :=
  bx_ist (n := 180) (f := fun j : Nat => iI (τ 7 ((j : Int) / 3) ((j : Int) % 3))) hx hb hK hU hlc (bx_L0 (by omega)) rfl (by omega) (by omega) (by omega) (bf_m7 g ad σ τ w i a z) (by rw [bx_upd3 τ 7 h0 ha ha3 z]; rfl) hdg kk
theorem bl_14 (hx : p.tables.exec = Jvm.exec) (hb : c.code = cc) (hK : bx_K g s) (hU : bx_U g ad σ τ w H) {i a : Int} (h0 : 0 ≤ i) (h1 : i < 60) (ha : 0 ≤ a) (ha3 : a < 3) (hdg : decode cc pc = .ok (.iaload, 1))
    (kk : W p l e R s m args below meth c H locs cells slots Q (F0 m (pc + 1) ls (.int (iI (τ 8 i a)) :: rest))) : W p l e R s m args below meth c H locs cells slots Q (F0 m pc ls (.int (iI (3 * i + a)) :: .ref (ad 14 0) :: rest)) :=
  bx_ild (n := 180) (f := fun j : Nat => iI (τ 8 ((j : Int) / 3) ((j : Int) % 3))) hx hb hK hU (bx_L0 (by omega)) rfl (by omega) (by omega) (by omega) (by show iI (τ 8 (((3 * i + a).toNat : Int) / 3) (((3 * i + a).toNat : Int) % 3)) = _; rw [show (((3 * i + a).toNat : Int) / 3) = i by omega, show (((3 * i + a).toNat : Int) % 3) = a by omega]) hdg kk
theorem bs_14 (hx : p.tables.exec = Jvm.exec) (hb : c.code = cc) (hK : bx_K g s) (hU : bx_U g ad σ τ w H) (hlc : bx_Lc g locs) {i a z : Int} (h0 : 0 ≤ i) (h1 : i < 60) (ha : 0 ≤ a) (ha3 : a < 3) (hdg : decode cc pc = .ok (.iastore, 1))
    (kk : ∀ (H1 : Heap) (locs1 : List Loc), bx_U g ad σ (up3 τ 8 i a z) w H1 → bx_F g H H1 → bx_Lc g locs1 → W p l e R s m args below meth c H1 locs1 cells slots Q (F0 m (pc + 1) ls rest)) : W p l e R s m args below meth c H locs cells slots Q (F0 m pc ls (.int (iI z) :: .int (iI (3 * i + a)) :: .ref (ad 14 0) :: rest)) :=
  bx_ist (n := 180) (f := fun j : Nat => iI (τ 8 ((j : Int) / 3) ((j : Int) % 3))) hx hb hK hU hlc (bx_L0 (by omega)) rfl (by omega) (by omega) (by omega) (bf_m8 g ad σ τ w i a z) (by rw [bx_upd3 τ 8 h0 ha ha3 z]; rfl) hdg kk
theorem bg_X1_row (hx : p.tables.exec = Jvm.exec) (hb : c.code = cc) {own : String} {index : Nat} {Ts : List Cond} (hts : ∀ w ∈ Ts, w.before args s = true) (hin : ∀ w ∈ wsX10, w ∈ Ts) (hown : s.vm.findClass own = some m.cls) (hK : bx_K g s) (hU : bx_U g ad σ τ w H) (hlink : (Cond.fieldLink own index (TX1 0).1 (TX1 0).2.1 (TX1 0).2.2.1).before args s = true) (hdg : decode cc pc = .ok (.getfield index, 3))
    (kk : W p l e R s m args below meth c H locs cells slots Q (F0 m (pc + 3) ls (.ref (ad 1 0) :: rest))) : W p l e R s m args below meth c H locs cells slots Q (F0 m pc ls (.ref (ad 0 0) :: rest)) :=
  bx_get (ci := 1) (T := TX1) (C := RX1) (N := 8) hx hb hts hin hown hK hU (bx_L0 (by omega)) rfl rfl 0 (by omega) hlink rfl hdg kk
theorem bg_X1_freeKinds (hx : p.tables.exec = Jvm.exec) (hb : c.code = cc) {own : String} {index : Nat} {Ts : List Cond} (hts : ∀ w ∈ Ts, w.before args s = true) (hin : ∀ w ∈ wsX10, w ∈ Ts) (hown : s.vm.findClass own = some m.cls) (hK : bx_K g s) (hU : bx_U g ad σ τ w H) (hlink : (Cond.fieldLink own index (TX1 1).1 (TX1 1).2.1 (TX1 1).2.2.1).before args s = true) (hdg : decode cc pc = .ok (.getfield index, 3))
    (kk : W p l e R s m args below meth c H locs cells slots Q (F0 m (pc + 3) ls (.ref (ad 2 0) :: rest))) : W p l e R s m args below meth c H locs cells slots Q (F0 m pc ls (.ref (ad 0 0) :: rest)) :=
  bx_get (ci := 1) (T := TX1) (C := RX1) (N := 8) hx hb hts hin hown hK hU (bx_L0 (by omega)) rfl rfl 1 (by omega) hlink rfl hdg kk
theorem bg_X1_made (hx : p.tables.exec = Jvm.exec) (hb : c.code = cc) {own : String} {index : Nat} {Ts : List Cond} (hts : ∀ w ∈ Ts, w.before args s = true) (hin : ∀ w ∈ wsX10, w ∈ Ts) (hown : s.vm.findClass own = some m.cls) (hK : bx_K g s) (hU : bx_U g ad σ τ w H) (hlink : (Cond.fieldLink own index (TX1 2).1 (TX1 2).2.1 (TX1 2).2.2.1).before args s = true) (hdg : decode cc pc = .ok (.getfield index, 3))
    (kk : W p l e R s m args below meth c H locs cells slots Q (F0 m (pc + 3) ls (.int (iI (σ 0 0 0)) :: rest))) : W p l e R s m args below meth c H locs cells slots Q (F0 m pc ls (.ref (ad 0 0) :: rest)) :=
  bx_get (ci := 1) (T := TX1) (C := RX1) (N := 8) hx hb hts hin hown hK hU (bx_L0 (by omega)) rfl rfl 2 (by omega) hlink rfl hdg kk
theorem bp_X1_made (hx : p.tables.exec = Jvm.exec) (hb : c.code = cc) {own : String} {index : Nat} {Ts : List Cond} (hts : ∀ w ∈ Ts, w.before args s = true) (hin : ∀ w ∈ wsX10, w ∈ Ts) (hown : s.vm.findClass own = some m.cls) (hK : bx_K g s) (hU : bx_U g ad σ τ w H) (hlc : bx_Lc g locs) {z : Int} (hlink : (Cond.fieldLink own index (TX1 2).1 (TX1 2).2.1 (TX1 2).2.2.1).before args s = true) (hdg : decode cc pc = .ok (.putfield index, 3))
    (kk : ∀ (H1 : Heap) (locs1 : List Loc), bx_U g ad (up3 σ 0 0 0 z) τ w H1 → bx_F g H H1 → bx_Lc g locs1 → W p l e R s m args below meth c H1 locs1 cells slots Q (F0 m (pc + 3) ls rest)) : W p l e R s m args below meth c H locs cells slots Q (F0 m pc ls (.int (iI z) :: .ref (ad 0 0) :: rest)) :=
  bx_put (ci := 1) (T := TX1) (C := RX1) (N := 8) (ty := .int) hx hb hts hin tyX1 tyX1_ok nmX1 hown hK hU hlc (bx_L0 (by omega)) rfl rfl 2 (by omega) hlink rfl (by decide +kernel) rfl rfl (Nat.le_of_ble_eq_true rfl) (bf_c0 g ad σ τ w z) (by simp [bx_E, up3]) hdg kk
theorem bg_X1_left (hx : p.tables.exec = Jvm.exec) (hb : c.code = cc) {own : String} {index : Nat} {Ts : List Cond} (hts : ∀ w ∈ Ts, w.before args s = true) (hin : ∀ w ∈ wsX10, w ∈ Ts) (hown : s.vm.findClass own = some m.cls) (hK : bx_K g s) (hU : bx_U g ad σ τ w H) (hlink : (Cond.fieldLink own index (TX1 3).1 (TX1 3).2.1 (TX1 3).2.2.1).before args s = true) (hdg : decode cc pc = .ok (.getfield index, 3))
    (kk : W p l e R s m args below meth c H locs cells slots Q (F0 m (pc + 3) ls (.int (iI (σ 1 0 0)) :: rest))) : W p l e R s m args below meth c H locs cells slots Q (F0 m pc ls (.ref (ad 0 0) :: rest)) :=
  bx_get (ci := 1) (T := TX1) (C := RX1) (N := 8) hx hb hts hin hown hK hU (bx_L0 (by omega)) rfl rfl 3 (by omega) hlink rfl hdg kk
theorem bp_X1_left (hx : p.tables.exec = Jvm.exec) (hb : c.code = cc) {own : String} {index : Nat} {Ts : List Cond} (hts : ∀ w ∈ Ts, w.before args s = true) (hin : ∀ w ∈ wsX10, w ∈ Ts) (hown : s.vm.findClass own = some m.cls) (hK : bx_K g s) (hU : bx_U g ad σ τ w H) (hlc : bx_Lc g locs) {z : Int} (hlink : (Cond.fieldLink own index (TX1 3).1 (TX1 3).2.1 (TX1 3).2.2.1).before args s = true) (hdg : decode cc pc = .ok (.putfield index, 3))
    (kk : ∀ (H1 : Heap) (locs1 : List Loc), bx_U g ad (up3 σ 1 0 0 z) τ w H1 → bx_F g H H1 → bx_Lc g locs1 → W p l e R s m args below meth c H1 locs1 cells slots Q (F0 m (pc + 3) ls rest)) : W p l e R s m args below meth c H locs cells slots Q (F0 m pc ls (.int (iI z) :: .ref (ad 0 0) :: rest)) :=
  bx_put (ci := 1) (T := TX1) (C := RX1) (N := 8) (ty := .int) hx hb hts hin tyX1 tyX1_ok nmX1 hown hK hU hlc (bx_L0 (by omega)) rfl rfl 3 (by omega) hlink rfl (by decide +kernel) rfl rfl (Nat.le_of_ble_eq_true rfl) (bf_c1 g ad σ τ w z) (by simp [bx_E, up3]) hdg kk
theorem bg_X1_names (hx : p.tables.exec = Jvm.exec) (hb : c.code = cc) {own : String} {index : Nat} {Ts : List Cond} (hts : ∀ w ∈ Ts, w.before args s = true) (hin : ∀ w ∈ wsX10, w ∈ Ts) (hown : s.vm.findClass own = some m.cls) (hK : bx_K g s) (hU : bx_U g ad σ τ w H) (hlink : (Cond.fieldLink own index (TX1 4).1 (TX1 4).2.1 (TX1 4).2.2.1).before args s = true) (hdg : decode cc pc = .ok (.getfield index, 3))
    (kk : W p l e R s m args below meth c H locs cells slots Q (F0 m (pc + 3) ls (.ref (ad 3 0) :: rest))) : W p l e R s m args below meth c H locs cells slots Q (F0 m pc ls (.ref (ad 0 0) :: rest)) :=
  bx_get (ci := 1) (T := TX1) (C := RX1) (N := 8) hx hb hts hin hown hK hU (bx_L0 (by omega)) rfl rfl 4 (by omega) hlink rfl hdg kk
theorem bg_X1_sizes (hx : p.tables.exec = Jvm.exec) (hb : c.code = cc) {own : String} {index : Nat} {Ts : List Cond} (hts : ∀ w ∈ Ts, w.before args s = true) (hin : ∀ w ∈ wsX10, w ∈ Ts) (hown : s.vm.findClass own = some m.cls) (hK : bx_K g s) (hU : bx_U g ad σ τ w H) (hlink : (Cond.fieldLink own index (TX1 5).1 (TX1 5).2.1 (TX1 5).2.2.1).before args s = true) (hdg : decode cc pc = .ok (.getfield index, 3))
    (kk : W p l e R s m args below meth c H locs cells slots Q (F0 m (pc + 3) ls (.ref (ad 4 0) :: rest))) : W p l e R s m args below meth c H locs cells slots Q (F0 m pc ls (.ref (ad 0 0) :: rest)) :=
  bx_get (ci := 1) (T := TX1) (C := RX1) (N := 8) hx hb hts hin hown hK hU (bx_L0 (by omega)) rfl rfl 5 (by omega) hlink rfl hdg kk
theorem bg_X1_blockLeast (hx : p.tables.exec = Jvm.exec) (hb : c.code = cc) {own : String} {index : Nat} {Ts : List Cond} (hts : ∀ w ∈ Ts, w.before args s = true) (hin : ∀ w ∈ wsX10, w ∈ Ts) (hown : s.vm.findClass own = some m.cls) (hK : bx_K g s) (hU : bx_U g ad σ τ w H) (hlink : (Cond.fieldLink own index (TX1 6).1 (TX1 6).2.1 (TX1 6).2.2.1).before args s = true) (hdg : decode cc pc = .ok (.getfield index, 3))
    (kk : W p l e R s m args below meth c H locs cells slots Q (F0 m (pc + 3) ls (.ref (ad 5 0) :: rest))) : W p l e R s m args below meth c H locs cells slots Q (F0 m pc ls (.ref (ad 0 0) :: rest)) :=
  bx_get (ci := 1) (T := TX1) (C := RX1) (N := 8) hx hb hts hin hown hK hU (bx_L0 (by omega)) rfl rfl 6 (by omega) hlink rfl hdg kk
theorem bg_X1_blockGreatest (hx : p.tables.exec = Jvm.exec) (hb : c.code = cc) {own : String} {index : Nat} {Ts : List Cond} (hts : ∀ w ∈ Ts, w.before args s = true) (hin : ∀ w ∈ wsX10, w ∈ Ts) (hown : s.vm.findClass own = some m.cls) (hK : bx_K g s) (hU : bx_U g ad σ τ w H) (hlink : (Cond.fieldLink own index (TX1 7).1 (TX1 7).2.1 (TX1 7).2.2.1).before args s = true) (hdg : decode cc pc = .ok (.getfield index, 3))
    (kk : W p l e R s m args below meth c H locs cells slots Q (F0 m (pc + 3) ls (.ref (ad 6 0) :: rest))) : W p l e R s m args below meth c H locs cells slots Q (F0 m pc ls (.ref (ad 0 0) :: rest)) :=
  bx_get (ci := 1) (T := TX1) (C := RX1) (N := 8) hx hb hts hin hown hK hU (bx_L0 (by omega)) rfl rfl 7 (by omega) hlink rfl hdg kk
theorem bg_X2_code (hx : p.tables.exec = Jvm.exec) (hb : c.code = cc) {own : String} {index : Nat} {Ts : List Cond} (hts : ∀ w ∈ Ts, w.before args s = true) (hin : ∀ w ∈ wsX20, w ∈ Ts) (hown : s.vm.findClass own = some m.cls) (hK : bx_K g s) (hU : bx_U g ad σ τ w H) (hlink : (Cond.fieldLink own index (TX2 0).1 (TX2 0).2.1 (TX2 0).2.2.1).before args s = true) (hdg : decode cc pc = .ok (.getfield index, 3))
    (kk : W p l e R s m args below meth c H locs cells slots Q (F0 m (pc + 3) ls (.int (iI w.2) :: rest))) : W p l e R s m args below meth c H locs cells slots Q (F0 m pc ls (.ref (ad 7 0) :: rest)) :=
  bx_get (ci := 2) (T := TX2) (C := RX2) (N := 15) hx hb hts hin hown hK hU (bx_L0 (by omega)) rfl rfl 0 (by omega) hlink rfl hdg kk
theorem bp_X2_code (hx : p.tables.exec = Jvm.exec) (hb : c.code = cc) {own : String} {index : Nat} {Ts : List Cond} (hts : ∀ w ∈ Ts, w.before args s = true) (hin : ∀ w ∈ wsX20, w ∈ Ts) (hown : s.vm.findClass own = some m.cls) (hK : bx_K g s) (hU : bx_U g ad σ τ w H) (hlc : bx_Lc g locs) {z : Int} (hlink : (Cond.fieldLink own index (TX2 0).1 (TX2 0).2.1 (TX2 0).2.2.1).before args s = true) (hdg : decode cc pc = .ok (.putfield index, 3))
    (kk : ∀ (H1 : Heap) (locs1 : List Loc), bx_U g ad σ τ (w.1, z) H1 → bx_F g H H1 → bx_Lc g locs1 → W p l e R s m args below meth c H1 locs1 cells slots Q (F0 m (pc + 3) ls rest)) : W p l e R s m args below meth c H locs cells slots Q (F0 m pc ls (.int (iI z) :: .ref (ad 7 0) :: rest)) :=
  bx_put (ci := 2) (T := TX2) (C := RX2) (N := 15) (ty := .int) hx hb hts hin tyX2 tyX2_ok nmX2 hown hK hU hlc (bx_L0 (by omega)) rfl rfl 0 (by omega) hlink rfl (by decide +kernel) rfl rfl (Nat.le_of_ble_eq_true rfl) (bf_code g ad σ τ w z) (rfl) hdg kk
theorem bg_X2_made (hx : p.tables.exec = Jvm.exec) (hb : c.code = cc) {own : String} {index : Nat} {Ts : List Cond} (hts : ∀ w ∈ Ts, w.before args s = true) (hin : ∀ w ∈ wsX20, w ∈ Ts) (hown : s.vm.findClass own = some m.cls) (hK : bx_K g s) (hU : bx_U g ad σ τ w H) (hlink : (Cond.fieldLink own index (TX2 1).1 (TX2 1).2.1 (TX2 1).2.2.1).before args s = true) (hdg : decode cc pc = .ok (.getfield index, 3))
    (kk : W p l e R s m args below meth c H locs cells slots Q (F0 m (pc + 3) ls (.int (iI (τ 0 0 0)) :: rest))) : W p l e R s m args below meth c H locs cells slots Q (F0 m pc ls (.ref (ad 7 0) :: rest)) :=
  bx_get (ci := 2) (T := TX2) (C := RX2) (N := 15) hx hb hts hin hown hK hU (bx_L0 (by omega)) rfl rfl 1 (by omega) hlink rfl hdg kk
theorem bp_X2_made (hx : p.tables.exec = Jvm.exec) (hb : c.code = cc) {own : String} {index : Nat} {Ts : List Cond} (hts : ∀ w ∈ Ts, w.before args s = true) (hin : ∀ w ∈ wsX20, w ∈ Ts) (hown : s.vm.findClass own = some m.cls) (hK : bx_K g s) (hU : bx_U g ad σ τ w H) (hlc : bx_Lc g locs) {z : Int} (hlink : (Cond.fieldLink own index (TX2 1).1 (TX2 1).2.1 (TX2 1).2.2.1).before args s = true) (hdg : decode cc pc = .ok (.putfield index, 3))
    (kk : ∀ (H1 : Heap) (locs1 : List Loc), bx_U g ad σ (up3 τ 0 0 0 z) w H1 → bx_F g H H1 → bx_Lc g locs1 → W p l e R s m args below meth c H1 locs1 cells slots Q (F0 m (pc + 3) ls rest)) : W p l e R s m args below meth c H locs cells slots Q (F0 m pc ls (.int (iI z) :: .ref (ad 7 0) :: rest)) :=
  bx_put (ci := 2) (T := TX2) (C := RX2) (N := 15) (ty := .int) hx hb hts hin tyX2 tyX2_ok nmX2 hown hK hU hlc (bx_L0 (by omega)) rfl rfl 1 (by omega) hlink rfl (by decide +kernel) rfl rfl (Nat.le_of_ble_eq_true rfl) (bf_m0 g ad σ τ w z) (by simp [bx_E, up3]) hdg kk
theorem bg_X2_count (hx : p.tables.exec = Jvm.exec) (hb : c.code = cc) {own : String} {index : Nat} {Ts : List Cond} (hts : ∀ w ∈ Ts, w.before args s = true) (hin : ∀ w ∈ wsX20, w ∈ Ts) (hown : s.vm.findClass own = some m.cls) (hK : bx_K g s) (hU : bx_U g ad σ τ w H) (hlink : (Cond.fieldLink own index (TX2 2).1 (TX2 2).2.1 (TX2 2).2.2.1).before args s = true) (hdg : decode cc pc = .ok (.getfield index, 3))
    (kk : W p l e R s m args below meth c H locs cells slots Q (F0 m (pc + 3) ls (.int (iI (τ 1 0 0)) :: rest))) : W p l e R s m args below meth c H locs cells slots Q (F0 m pc ls (.ref (ad 7 0) :: rest)) :=
  bx_get (ci := 2) (T := TX2) (C := RX2) (N := 15) hx hb hts hin hown hK hU (bx_L0 (by omega)) rfl rfl 2 (by omega) hlink rfl hdg kk
theorem bp_X2_count (hx : p.tables.exec = Jvm.exec) (hb : c.code = cc) {own : String} {index : Nat} {Ts : List Cond} (hts : ∀ w ∈ Ts, w.before args s = true) (hin : ∀ w ∈ wsX20, w ∈ Ts) (hown : s.vm.findClass own = some m.cls) (hK : bx_K g s) (hU : bx_U g ad σ τ w H) (hlc : bx_Lc g locs) {z : Int} (hlink : (Cond.fieldLink own index (TX2 2).1 (TX2 2).2.1 (TX2 2).2.2.1).before args s = true) (hdg : decode cc pc = .ok (.putfield index, 3))
    (kk : ∀ (H1 : Heap) (locs1 : List Loc), bx_U g ad σ (up3 τ 1 0 0 z) w H1 → bx_F g H H1 → bx_Lc g locs1 → W p l e R s m args below meth c H1 locs1 cells slots Q (F0 m (pc + 3) ls rest)) : W p l e R s m args below meth c H locs cells slots Q (F0 m pc ls (.int (iI z) :: .ref (ad 7 0) :: rest)) :=
  bx_put (ci := 2) (T := TX2) (C := RX2) (N := 15) (ty := .int) hx hb hts hin tyX2 tyX2_ok nmX2 hown hK hU hlc (bx_L0 (by omega)) rfl rfl 2 (by omega) hlink rfl (by decide +kernel) rfl rfl (Nat.le_of_ble_eq_true rfl) (bf_m1 g ad σ τ w z) (by simp [bx_E, up3]) hdg kk
theorem bg_X2_isThere (hx : p.tables.exec = Jvm.exec) (hb : c.code = cc) {own : String} {index : Nat} {Ts : List Cond} (hts : ∀ w ∈ Ts, w.before args s = true) (hin : ∀ w ∈ wsX20, w ∈ Ts) (hown : s.vm.findClass own = some m.cls) (hK : bx_K g s) (hU : bx_U g ad σ τ w H) (hlink : (Cond.fieldLink own index (TX2 3).1 (TX2 3).2.1 (TX2 3).2.2.1).before args s = true) (hdg : decode cc pc = .ok (.getfield index, 3))
    (kk : W p l e R s m args below meth c H locs cells slots Q (F0 m (pc + 3) ls (.ref (ad 8 0) :: rest))) : W p l e R s m args below meth c H locs cells slots Q (F0 m pc ls (.ref (ad 7 0) :: rest)) :=
  bx_get (ci := 2) (T := TX2) (C := RX2) (N := 15) hx hb hts hin hown hK hU (bx_L0 (by omega)) rfl rfl 3 (by omega) hlink rfl hdg kk
theorem bg_X2_kinds (hx : p.tables.exec = Jvm.exec) (hb : c.code = cc) {own : String} {index : Nat} {Ts : List Cond} (hts : ∀ w ∈ Ts, w.before args s = true) (hin : ∀ w ∈ wsX20, w ∈ Ts) (hown : s.vm.findClass own = some m.cls) (hK : bx_K g s) (hU : bx_U g ad σ τ w H) (hlink : (Cond.fieldLink own index (TX2 4).1 (TX2 4).2.1 (TX2 4).2.2.1).before args s = true) (hdg : decode cc pc = .ok (.getfield index, 3))
    (kk : W p l e R s m args below meth c H locs cells slots Q (F0 m (pc + 3) ls (.ref (ad 9 0) :: rest))) : W p l e R s m args below meth c H locs cells slots Q (F0 m pc ls (.ref (ad 7 0) :: rest)) :=
  bx_get (ci := 2) (T := TX2) (C := RX2) (N := 15) hx hb hts hin hown hK hU (bx_L0 (by omega)) rfl rfl 4 (by omega) hlink rfl hdg kk
theorem bg_X2_margins (hx : p.tables.exec = Jvm.exec) (hb : c.code = cc) {own : String} {index : Nat} {Ts : List Cond} (hts : ∀ w ∈ Ts, w.before args s = true) (hin : ∀ w ∈ wsX20, w ∈ Ts) (hown : s.vm.findClass own = some m.cls) (hK : bx_K g s) (hU : bx_U g ad σ τ w H) (hlink : (Cond.fieldLink own index (TX2 5).1 (TX2 5).2.1 (TX2 5).2.2.1).before args s = true) (hdg : decode cc pc = .ok (.getfield index, 3))
    (kk : W p l e R s m args below meth c H locs cells slots Q (F0 m (pc + 3) ls (.ref (ad 10 0) :: rest))) : W p l e R s m args below meth c H locs cells slots Q (F0 m pc ls (.ref (ad 7 0) :: rest)) :=
  bx_get (ci := 2) (T := TX2) (C := RX2) (N := 15) hx hb hts hin hown hK hU (bx_L0 (by omega)) rfl rfl 5 (by omega) hlink rfl hdg kk
theorem bg_X2_axes (hx : p.tables.exec = Jvm.exec) (hb : c.code = cc) {own : String} {index : Nat} {Ts : List Cond} (hts : ∀ w ∈ Ts, w.before args s = true) (hin : ∀ w ∈ wsX20, w ∈ Ts) (hown : s.vm.findClass own = some m.cls) (hK : bx_K g s) (hU : bx_U g ad σ τ w H) (hlink : (Cond.fieldLink own index (TX2 6).1 (TX2 6).2.1 (TX2 6).2.2.1).before args s = true) (hdg : decode cc pc = .ok (.getfield index, 3))
    (kk : W p l e R s m args below meth c H locs cells slots Q (F0 m (pc + 3) ls (.ref (ad 11 0) :: rest))) : W p l e R s m args below meth c H locs cells slots Q (F0 m pc ls (.ref (ad 7 0) :: rest)) :=
  bx_get (ci := 2) (T := TX2) (C := RX2) (N := 15) hx hb hts hin hown hK hU (bx_L0 (by omega)) rfl rfl 6 (by omega) hlink rfl hdg kk
theorem bg_X2_radii (hx : p.tables.exec = Jvm.exec) (hb : c.code = cc) {own : String} {index : Nat} {Ts : List Cond} (hts : ∀ w ∈ Ts, w.before args s = true) (hin : ∀ w ∈ wsX20, w ∈ Ts) (hown : s.vm.findClass own = some m.cls) (hK : bx_K g s) (hU : bx_U g ad σ τ w H) (hlink : (Cond.fieldLink own index (TX2 7).1 (TX2 7).2.1 (TX2 7).2.2.1).before args s = true) (hdg : decode cc pc = .ok (.getfield index, 3))
    (kk : W p l e R s m args below meth c H locs cells slots Q (F0 m (pc + 3) ls (.ref (ad 12 0) :: rest))) : W p l e R s m args below meth c H locs cells slots Q (F0 m pc ls (.ref (ad 7 0) :: rest)) :=
  bx_get (ci := 2) (T := TX2) (C := RX2) (N := 15) hx hb hts hin hown hK hU (bx_L0 (by omega)) rfl rfl 7 (by omega) hlink rfl hdg kk
theorem bg_X2_lows (hx : p.tables.exec = Jvm.exec) (hb : c.code = cc) {own : String} {index : Nat} {Ts : List Cond} (hts : ∀ w ∈ Ts, w.before args s = true) (hin : ∀ w ∈ wsX20, w ∈ Ts) (hown : s.vm.findClass own = some m.cls) (hK : bx_K g s) (hU : bx_U g ad σ τ w H) (hlink : (Cond.fieldLink own index (TX2 8).1 (TX2 8).2.1 (TX2 8).2.2.1).before args s = true) (hdg : decode cc pc = .ok (.getfield index, 3))
    (kk : W p l e R s m args below meth c H locs cells slots Q (F0 m (pc + 3) ls (.ref (ad 13 0) :: rest))) : W p l e R s m args below meth c H locs cells slots Q (F0 m pc ls (.ref (ad 7 0) :: rest)) :=
  bx_get (ci := 2) (T := TX2) (C := RX2) (N := 15) hx hb hts hin hown hK hU (bx_L0 (by omega)) rfl rfl 8 (by omega) hlink rfl hdg kk
theorem bg_X2_highs (hx : p.tables.exec = Jvm.exec) (hb : c.code = cc) {own : String} {index : Nat} {Ts : List Cond} (hts : ∀ w ∈ Ts, w.before args s = true) (hin : ∀ w ∈ wsX20, w ∈ Ts) (hown : s.vm.findClass own = some m.cls) (hK : bx_K g s) (hU : bx_U g ad σ τ w H) (hlink : (Cond.fieldLink own index (TX2 9).1 (TX2 9).2.1 (TX2 9).2.2.1).before args s = true) (hdg : decode cc pc = .ok (.getfield index, 3))
    (kk : W p l e R s m args below meth c H locs cells slots Q (F0 m (pc + 3) ls (.ref (ad 14 0) :: rest))) : W p l e R s m args below meth c H locs cells slots Q (F0 m pc ls (.ref (ad 7 0) :: rest)) :=
  bx_get (ci := 2) (T := TX2) (C := RX2) (N := 15) hx hb hts hin hown hK hU (bx_L0 (by omega)) rfl rfl 9 (by omega) hlink rfl hdg kk
theorem bg_X2_areFree (hx : p.tables.exec = Jvm.exec) (hb : c.code = cc) {own : String} {index : Nat} {Ts : List Cond} (hts : ∀ w ∈ Ts, w.before args s = true) (hin : ∀ w ∈ wsX20, w ∈ Ts) (hown : s.vm.findClass own = some m.cls) (hK : bx_K g s) (hU : bx_U g ad σ τ w H) (hlink : (Cond.fieldLink own index (TX2 10).1 (TX2 10).2.1 (TX2 10).2.2.1).before args s = true) (hdg : decode cc pc = .ok (.getfield index, 3))
    (kk : W p l e R s m args below meth c H locs cells slots Q (F0 m (pc + 3) ls (.ref (ad 15 0) :: rest))) : W p l e R s m args below meth c H locs cells slots Q (F0 m pc ls (.ref (ad 7 0) :: rest)) :=
  bx_get (ci := 2) (T := TX2) (C := RX2) (N := 15) hx hb hts hin hown hK hU (bx_L0 (by omega)) rfl rfl 10 (by omega) hlink rfl hdg kk
theorem bg_X2_groups (hx : p.tables.exec = Jvm.exec) (hb : c.code = cc) {own : String} {index : Nat} {Ts : List Cond} (hts : ∀ w ∈ Ts, w.before args s = true) (hin : ∀ w ∈ wsX20, w ∈ Ts) (hown : s.vm.findClass own = some m.cls) (hK : bx_K g s) (hU : bx_U g ad σ τ w H) (hlink : (Cond.fieldLink own index (TX2 11).1 (TX2 11).2.1 (TX2 11).2.2.1).before args s = true) (hdg : decode cc pc = .ok (.getfield index, 3))
    (kk : W p l e R s m args below meth c H locs cells slots Q (F0 m (pc + 3) ls (.ref (ad 16 0) :: rest))) : W p l e R s m args below meth c H locs cells slots Q (F0 m pc ls (.ref (ad 7 0) :: rest)) :=
  bx_get (ci := 2) (T := TX2) (C := RX2) (N := 15) hx hb hts hin hown hK hU (bx_L0 (by omega)) rfl rfl 11 (by omega) hlink rfl hdg kk
theorem bg_X2_movedPart (hx : p.tables.exec = Jvm.exec) (hb : c.code = cc) {own : String} {index : Nat} {Ts : List Cond} (hts : ∀ w ∈ Ts, w.before args s = true) (hin : ∀ w ∈ wsX20, w ∈ Ts) (hown : s.vm.findClass own = some m.cls) (hK : bx_K g s) (hU : bx_U g ad σ τ w H) (hlink : (Cond.fieldLink own index (TX2 12).1 (TX2 12).2.1 (TX2 12).2.2.1).before args s = true) (hdg : decode cc pc = .ok (.getfield index, 3))
    (kk : W p l e R s m args below meth c H locs cells slots Q (F0 m (pc + 3) ls (.int (iI (τ 15 0 0)) :: rest))) : W p l e R s m args below meth c H locs cells slots Q (F0 m pc ls (.ref (ad 7 0) :: rest)) :=
  bx_get (ci := 2) (T := TX2) (C := RX2) (N := 15) hx hb hts hin hown hK hU (bx_L0 (by omega)) rfl rfl 12 (by omega) hlink rfl hdg kk
theorem bp_X2_movedPart (hx : p.tables.exec = Jvm.exec) (hb : c.code = cc) {own : String} {index : Nat} {Ts : List Cond} (hts : ∀ w ∈ Ts, w.before args s = true) (hin : ∀ w ∈ wsX20, w ∈ Ts) (hown : s.vm.findClass own = some m.cls) (hK : bx_K g s) (hU : bx_U g ad σ τ w H) (hlc : bx_Lc g locs) {z : Int} (hlink : (Cond.fieldLink own index (TX2 12).1 (TX2 12).2.1 (TX2 12).2.2.1).before args s = true) (hdg : decode cc pc = .ok (.putfield index, 3))
    (kk : ∀ (H1 : Heap) (locs1 : List Loc), bx_U g ad σ (up3 τ 15 0 0 z) w H1 → bx_F g H H1 → bx_Lc g locs1 → W p l e R s m args below meth c H1 locs1 cells slots Q (F0 m (pc + 3) ls rest)) : W p l e R s m args below meth c H locs cells slots Q (F0 m pc ls (.int (iI z) :: .ref (ad 7 0) :: rest)) :=
  bx_put (ci := 2) (T := TX2) (C := RX2) (N := 15) (ty := .int) hx hb hts hin tyX2 tyX2_ok nmX2 hown hK hU hlc (bx_L0 (by omega)) rfl rfl 12 (by omega) hlink rfl (by decide +kernel) rfl rfl (Nat.le_of_ble_eq_true rfl) (bf_m15 g ad σ τ w z) (by simp [bx_E, up3]) hdg kk
theorem bg_X2_movedAxis (hx : p.tables.exec = Jvm.exec) (hb : c.code = cc) {own : String} {index : Nat} {Ts : List Cond} (hts : ∀ w ∈ Ts, w.before args s = true) (hin : ∀ w ∈ wsX20, w ∈ Ts) (hown : s.vm.findClass own = some m.cls) (hK : bx_K g s) (hU : bx_U g ad σ τ w H) (hlink : (Cond.fieldLink own index (TX2 13).1 (TX2 13).2.1 (TX2 13).2.2.1).before args s = true) (hdg : decode cc pc = .ok (.getfield index, 3))
    (kk : W p l e R s m args below meth c H locs cells slots Q (F0 m (pc + 3) ls (.int (iI (τ 16 0 0)) :: rest))) : W p l e R s m args below meth c H locs cells slots Q (F0 m pc ls (.ref (ad 7 0) :: rest)) :=
  bx_get (ci := 2) (T := TX2) (C := RX2) (N := 15) hx hb hts hin hown hK hU (bx_L0 (by omega)) rfl rfl 13 (by omega) hlink rfl hdg kk
theorem bp_X2_movedAxis (hx : p.tables.exec = Jvm.exec) (hb : c.code = cc) {own : String} {index : Nat} {Ts : List Cond} (hts : ∀ w ∈ Ts, w.before args s = true) (hin : ∀ w ∈ wsX20, w ∈ Ts) (hown : s.vm.findClass own = some m.cls) (hK : bx_K g s) (hU : bx_U g ad σ τ w H) (hlc : bx_Lc g locs) {z : Int} (hlink : (Cond.fieldLink own index (TX2 13).1 (TX2 13).2.1 (TX2 13).2.2.1).before args s = true) (hdg : decode cc pc = .ok (.putfield index, 3))
    (kk : ∀ (H1 : Heap) (locs1 : List Loc), bx_U g ad σ (up3 τ 16 0 0 z) w H1 → bx_F g H H1 → bx_Lc g locs1 → W p l e R s m args below meth c H1 locs1 cells slots Q (F0 m (pc + 3) ls rest)) : W p l e R s m args below meth c H locs cells slots Q (F0 m pc ls (.int (iI z) :: .ref (ad 7 0) :: rest)) :=
  bx_put (ci := 2) (T := TX2) (C := RX2) (N := 15) (ty := .int) hx hb hts hin tyX2 tyX2_ok nmX2 hown hK hU hlc (bx_L0 (by omega)) rfl rfl 13 (by omega) hlink rfl (by decide +kernel) rfl rfl (Nat.le_of_ble_eq_true rfl) (bf_m16 g ad σ τ w z) (by simp [bx_E, up3]) hdg kk
theorem bg_X2_movedBy (hx : p.tables.exec = Jvm.exec) (hb : c.code = cc) {own : String} {index : Nat} {Ts : List Cond} (hts : ∀ w ∈ Ts, w.before args s = true) (hin : ∀ w ∈ wsX20, w ∈ Ts) (hown : s.vm.findClass own = some m.cls) (hK : bx_K g s) (hU : bx_U g ad σ τ w H) (hlink : (Cond.fieldLink own index (TX2 14).1 (TX2 14).2.1 (TX2 14).2.2.1).before args s = true) (hdg : decode cc pc = .ok (.getfield index, 3))
    (kk : W p l e R s m args below meth c H locs cells slots Q (F0 m (pc + 3) ls (.int (iI (τ 17 0 0)) :: rest))) : W p l e R s m args below meth c H locs cells slots Q (F0 m pc ls (.ref (ad 7 0) :: rest)) :=
  bx_get (ci := 2) (T := TX2) (C := RX2) (N := 15) hx hb hts hin hown hK hU (bx_L0 (by omega)) rfl rfl 14 (by omega) hlink rfl hdg kk
theorem bp_X2_movedBy (hx : p.tables.exec = Jvm.exec) (hb : c.code = cc) {own : String} {index : Nat} {Ts : List Cond} (hts : ∀ w ∈ Ts, w.before args s = true) (hin : ∀ w ∈ wsX20, w ∈ Ts) (hown : s.vm.findClass own = some m.cls) (hK : bx_K g s) (hU : bx_U g ad σ τ w H) (hlc : bx_Lc g locs) {z : Int} (hlink : (Cond.fieldLink own index (TX2 14).1 (TX2 14).2.1 (TX2 14).2.2.1).before args s = true) (hdg : decode cc pc = .ok (.putfield index, 3))
    (kk : ∀ (H1 : Heap) (locs1 : List Loc), bx_U g ad σ (up3 τ 17 0 0 z) w H1 → bx_F g H H1 → bx_Lc g locs1 → W p l e R s m args below meth c H1 locs1 cells slots Q (F0 m (pc + 3) ls rest)) : W p l e R s m args below meth c H locs cells slots Q (F0 m pc ls (.int (iI z) :: .ref (ad 7 0) :: rest)) :=
  bx_put (ci := 2) (T := TX2) (C := RX2) (N := 15) (ty := .int) hx hb hts hin tyX2 tyX2_ok nmX2 hown hK hU hlc (bx_L0 (by omega)) rfl rfl 14 (by omega) hlink rfl (by decide +kernel) rfl rfl (Nat.le_of_ble_eq_true rfl) (bf_m17 g ad σ τ w z) (by simp [bx_E, up3]) hdg kk
theorem bg_X0_kind (hx : p.tables.exec = Jvm.exec) (hb : c.code = cc) {own : String} {index : Nat} {Ts : List Cond} (hts : ∀ w ∈ Ts, w.before args s = true) (hin : ∀ w ∈ wsX00, w ∈ Ts) (hown : s.vm.findClass own = some m.cls) (hK : bx_K g s) (hU : bx_U g ad σ τ w H) (hp : 0 ≤ k ∧ k < 60 ∧ σ 2 k 0 ≠ 0) (hlink : (Cond.fieldLink own index (TX0 0).1 (TX0 0).2.1 (TX0 0).2.2.1).before args s = true) (hdg : decode cc pc = .ok (.getfield index, 3))
    (kk : W p l e R s m args below meth c H locs cells slots Q (F0 m (pc + 3) ls (.int (iI (σ 3 k 0)) :: rest))) : W p l e R s m args below meth c H locs cells slots Q (F0 m pc ls (.ref (ad 20 k) :: rest)) :=
  bx_get (ci := 0) (T := TX0) (C := RX0) (N := 6) hx hb hts hin hown hK hU (bx_Lp (by omega) (by omega) hp) rfl rfl 0 (by omega) hlink rfl hdg kk
theorem bg_X0_tubeAxis (hx : p.tables.exec = Jvm.exec) (hb : c.code = cc) {own : String} {index : Nat} {Ts : List Cond} (hts : ∀ w ∈ Ts, w.before args s = true) (hin : ∀ w ∈ wsX00, w ∈ Ts) (hown : s.vm.findClass own = some m.cls) (hK : bx_K g s) (hU : bx_U g ad σ τ w H) (hp : 0 ≤ k ∧ k < 60 ∧ σ 2 k 0 ≠ 0) (hlink : (Cond.fieldLink own index (TX0 1).1 (TX0 1).2.1 (TX0 1).2.2.1).before args s = true) (hdg : decode cc pc = .ok (.getfield index, 3))
    (kk : W p l e R s m args below meth c H locs cells slots Q (F0 m (pc + 3) ls (.int (iI (σ 5 k 0)) :: rest))) : W p l e R s m args below meth c H locs cells slots Q (F0 m pc ls (.ref (ad 20 k) :: rest)) :=
  bx_get (ci := 0) (T := TX0) (C := RX0) (N := 6) hx hb hts hin hown hK hU (bx_Lp (by omega) (by omega) hp) rfl rfl 1 (by omega) hlink rfl hdg kk
theorem bg_X0_radius (hx : p.tables.exec = Jvm.exec) (hb : c.code = cc) {own : String} {index : Nat} {Ts : List Cond} (hts : ∀ w ∈ Ts, w.before args s = true) (hin : ∀ w ∈ wsX00, w ∈ Ts) (hown : s.vm.findClass own = some m.cls) (hK : bx_K g s) (hU : bx_U g ad σ τ w H) (hp : 0 ≤ k ∧ k < 60 ∧ σ 2 k 0 ≠ 0) (hlink : (Cond.fieldLink own index (TX0 2).1 (TX0 2).2.1 (TX0 2).2.2.1).before args s = true) (hdg : decode cc pc = .ok (.getfield index, 3))
    (kk : W p l e R s m args below meth c H locs cells slots Q (F0 m (pc + 3) ls (.int (iI (σ 6 k 0)) :: rest))) : W p l e R s m args below meth c H locs cells slots Q (F0 m pc ls (.ref (ad 20 k) :: rest)) :=
  bx_get (ci := 0) (T := TX0) (C := RX0) (N := 6) hx hb hts hin hown hK hU (bx_Lp (by omega) (by omega) hp) rfl rfl 2 (by omega) hlink rfl hdg kk
theorem bg_X0_least (hx : p.tables.exec = Jvm.exec) (hb : c.code = cc) {own : String} {index : Nat} {Ts : List Cond} (hts : ∀ w ∈ Ts, w.before args s = true) (hin : ∀ w ∈ wsX00, w ∈ Ts) (hown : s.vm.findClass own = some m.cls) (hK : bx_K g s) (hU : bx_U g ad σ τ w H) (hp : 0 ≤ k ∧ k < 60 ∧ σ 2 k 0 ≠ 0) (hlink : (Cond.fieldLink own index (TX0 3).1 (TX0 3).2.1 (TX0 3).2.2.1).before args s = true) (hdg : decode cc pc = .ok (.getfield index, 3))
    (kk : W p l e R s m args below meth c H locs cells slots Q (F0 m (pc + 3) ls (.ref (ad 21 k) :: rest))) : W p l e R s m args below meth c H locs cells slots Q (F0 m pc ls (.ref (ad 20 k) :: rest)) :=
  bx_get (ci := 0) (T := TX0) (C := RX0) (N := 6) hx hb hts hin hown hK hU (bx_Lp (by omega) (by omega) hp) rfl rfl 3 (by omega) hlink rfl hdg kk
theorem bg_X0_greatest (hx : p.tables.exec = Jvm.exec) (hb : c.code = cc) {own : String} {index : Nat} {Ts : List Cond} (hts : ∀ w ∈ Ts, w.before args s = true) (hin : ∀ w ∈ wsX00, w ∈ Ts) (hown : s.vm.findClass own = some m.cls) (hK : bx_K g s) (hU : bx_U g ad σ τ w H) (hp : 0 ≤ k ∧ k < 60 ∧ σ 2 k 0 ≠ 0) (hlink : (Cond.fieldLink own index (TX0 4).1 (TX0 4).2.1 (TX0 4).2.2.1).before args s = true) (hdg : decode cc pc = .ok (.getfield index, 3))
    (kk : W p l e R s m args below meth c H locs cells slots Q (F0 m (pc + 3) ls (.ref (ad 22 k) :: rest))) : W p l e R s m args below meth c H locs cells slots Q (F0 m pc ls (.ref (ad 20 k) :: rest)) :=
  bx_get (ci := 0) (T := TX0) (C := RX0) (N := 6) hx hb hts hin hown hK hU (bx_Lp (by omega) (by omega) hp) rfl rfl 4 (by omega) hlink rfl hdg kk
theorem bg_X0_softSpace (hx : p.tables.exec = Jvm.exec) (hb : c.code = cc) {own : String} {index : Nat} {Ts : List Cond} (hts : ∀ w ∈ Ts, w.before args s = true) (hin : ∀ w ∈ wsX00, w ∈ Ts) (hown : s.vm.findClass own = some m.cls) (hK : bx_K g s) (hU : bx_U g ad σ τ w H) (hp : 0 ≤ k ∧ k < 60 ∧ σ 2 k 0 ≠ 0) (hlink : (Cond.fieldLink own index (TX0 5).1 (TX0 5).2.1 (TX0 5).2.2.1).before args s = true) (hdg : decode cc pc = .ok (.getfield index, 3))
    (kk : W p l e R s m args below meth c H locs cells slots Q (F0 m (pc + 3) ls (.int (iI (σ 4 k 0)) :: rest))) : W p l e R s m args below meth c H locs cells slots Q (F0 m pc ls (.ref (ad 20 k) :: rest)) :=
  bx_get (ci := 0) (T := TX0) (C := RX0) (N := 6) hx hb hts hin hown hK hU (bx_Lp (by omega) (by omega) hp) rfl rfl 5 (by omega) hlink rfl hdg kk
theorem bp_X0_softSpace (hx : p.tables.exec = Jvm.exec) (hb : c.code = cc) {own : String} {index : Nat} {Ts : List Cond} (hts : ∀ w ∈ Ts, w.before args s = true) (hin : ∀ w ∈ wsX00, w ∈ Ts) (hown : s.vm.findClass own = some m.cls) (hK : bx_K g s) (hU : bx_U g ad σ τ w H) (hlc : bx_Lc g locs) (hp : 0 ≤ k ∧ k < 60 ∧ σ 2 k 0 ≠ 0) {z : Int} (hlink : (Cond.fieldLink own index (TX0 5).1 (TX0 5).2.1 (TX0 5).2.2.1).before args s = true) (hdg : decode cc pc = .ok (.putfield index, 3))
    (kk : ∀ (H1 : Heap) (locs1 : List Loc), bx_U g ad (up3 σ 4 k 0 z) τ w H1 → bx_F g H H1 → bx_Lc g locs1 → W p l e R s m args below meth c H1 locs1 cells slots Q (F0 m (pc + 3) ls rest)) : W p l e R s m args below meth c H locs cells slots Q (F0 m pc ls (.int (iI z) :: .ref (ad 20 k) :: rest)) :=
  bx_put (ci := 0) (T := TX0) (C := RX0) (N := 6) (ty := .int) hx hb hts hin tyX0 tyX0_ok nmX0 hown hK hU hlc (bx_Lp (by omega) (by omega) hp) rfl rfl 5 (by omega) hlink rfl (by decide +kernel) rfl rfl (Nat.le_of_ble_eq_true rfl) (bf_c4 g ad σ τ w k z) (by simp [bx_E, up3]) hdg kk
theorem bf_c2 (g : bxG) (ad : bxA) (σ τ : bxS) (w : bxW) (i : Int) : bx_Fr g ad σ τ w (up3 σ 2 i 0 0) τ w 1 0 := by
  refine ⟨fun kd' k' hl hne => ?_, fun kd' k' hl => ?_⟩
  · rcases hl with ⟨h1, rfl⟩ | ⟨h1, h2, -⟩
    · rcases (by omega : kd' = 0 ∨ kd' = 1 ∨ kd' = 2 ∨ kd' = 3 ∨ kd' = 4 ∨ kd' = 5 ∨ kd' = 6 ∨ kd' = 7 ∨ kd' = 8 ∨ kd' = 9 ∨ kd' = 10 ∨ kd' = 11 ∨ kd' = 12 ∨ kd' = 13 ∨ kd' = 14 ∨ kd' = 15 ∨ kd' = 16 ∨ kd' = 17) with rfl | rfl | rfl | rfl | rfl | rfl | rfl | rfl | rfl | rfl | rfl | rfl | rfl | rfl | rfl | rfl | rfl | rfl <;> first | rfl | exact absurd ⟨rfl, rfl⟩ hne
    · rcases (by omega : kd' = 20 ∨ kd' = 21 ∨ kd' = 22) with rfl | rfl | rfl <;> rfl
  · rcases hl with h | ⟨h1, h2, h3, h4, h5⟩
    · exact Or.inl h
    · refine Or.inr ⟨h1, h2, h3, h4, h5.elim (fun h5 => Or.inl (fun q => h5 ?_)) (fun h5 => Or.inr h5)⟩
      by_cases hk : k' = i
      · subst hk; exact up3_s _ _ _ _ _
      · rw [up3_i _ _ hk]; exact q
theorem bx_qstN (hx : p.tables.exec = Jvm.exec) (hb : c.code = cc) (hK : bx_K g s) (hU : bx_U g ad σ τ w H) (hlc : bx_Lc g locs) (hl : bx_L σ kd k) {n : Nat} {f : Nat → Option Nat} (he : bx_E g ad σ τ w kd k = .inl (g.2.1 2, n, .inr (.inr (.inr (.inr f))))) {i : Int} (h0 : 0 ≤ i) (h1 : i < n) (hn : n < 2147483648)
    (hF : bx_Fr g ad σ τ w σ' τ' w' kd k) (he' : bx_E g ad σ' τ' w' kd k = .inl (g.2.1 2, n, .inr (.inr (.inr (.inr (va_up f i.toNat none)))))) (hdg : decode cc pc = .ok (.aastore, 1))
    (kk : ∀ (H1 : Heap) (locs1 : List Loc), bx_U g ad σ' τ' w' H1 → bx_F g H H1 → bx_Lc g locs1 → W p l e R s m args below meth c H1 locs1 cells slots Q (F0 m (pc + 1) ls rest)) : W p l e R s m args below meth c H locs cells slots Q (F0 m pc ls (.null :: .int (iI i) :: .ref (ad kd k) :: rest)) := by
  have hin := iI_in h0 h1 hn
  refine va_WaastN (C := RX0) hx hb (bx_P hU hl he 0 _ rfl) ((hK.2 2 _ rfl).1 n (fun j => va_rf (f j))) (fun q => by cases q) (by show ¬ (_ < 0 ∨ (arrV _ _ _).slots.size ≤ _); rw [arrV_size]; exact hin) rfl rfl hdg fun H1 e2 z2 oq => ?_
  refine kk H1 _ (hU.set hl hF he' ?_ oq) (bx_F.put hU hl z2 oq) (hlc.add (hU.2.2 kd k hl))
  show H1[ad kd k]? = some (vp_cell _ _)
  rw [e2, vp_cell_q, vp_cell_q, arrV_store, iI_clamp h0 (by omega)]
  congr 2
  funext q
  by_cases hq : q = i.toNat
  · subst hq
    simp [updV, va_up, va_rf]
  · simp [updV, va_up, hq]
theorem bx_updq (σ : bxS) (ad : bxA) {i : Int} (h0 : 0 ≤ i) : va_up (fun j : Nat => if σ 2 (j : Int) 0 = 0 then none else some (ad 20 (j : Int))) i.toNat none = fun j : Nat => if up3 σ 2 i 0 0 2 (j : Int) 0 = 0 then none else some (ad 20 (j : Int)) := by
  funext j
  by_cases hj : j = i.toNat
  · have h2 : (j : Int) = i := by omega
    rw [h2, up3_s, if_pos rfl]
    simp [va_up, hj]
  · have h2 : (j : Int) ≠ i := by omega
    rw [up3_i _ _ h2]
    simp [va_up, hj]
theorem bs_rowN (hx : p.tables.exec = Jvm.exec) (hb : c.code = cc) (hK : bx_K g s) (hU : bx_U g ad σ τ w H) (hlc : bx_Lc g locs) {i : Int} (h0 : 0 ≤ i) (h1 : i < 60) (hdg : decode cc pc = .ok (.aastore, 1))
    (kk : ∀ (H1 : Heap) (locs1 : List Loc), bx_U g ad (up3 σ 2 i 0 0) τ w H1 → bx_F g H H1 → bx_Lc g locs1 → W p l e R s m args below meth c H1 locs1 cells slots Q (F0 m (pc + 1) ls rest)) : W p l e R s m args below meth c H locs cells slots Q (F0 m pc ls (.null :: .int (iI i) :: .ref (ad 1 0) :: rest)) :=
  bx_qstN (n := 60) (f := fun j : Nat => if σ 2 (j : Int) 0 = 0 then none else some (ad 20 (j : Int))) hx hb hK hU hlc (bx_L0 (by omega)) rfl h0 h1 (by omega) (bf_c2 g ad σ τ w i) (by rw [bx_updq σ ad h0]; rfl) hdg kk
end BXR
