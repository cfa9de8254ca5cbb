/-! whole rows of a state at once; states that agree below the rows that single calls use -/
def setF (σ : bxS) (f : Nat) (N : Int → Int) : bxS := fun f' i a => if f' = f then (if a = 0 then N i else σ f' i a) else σ f' i a
theorem setF_self (σ : bxS) (f : Nat) : setF σ f (fun i => σ f i 0) = σ := by
  funext f' i a
  unfold setF
  by_cases h : f' = f
  · subst h
    rw [if_pos rfl]
    by_cases ha : a = 0
    · subst ha; rw [if_pos rfl]
    · rw [if_neg ha]
  · rw [if_neg h]
theorem setF_setF (σ : bxS) (f : Nat) (N M : Int → Int) : setF (setF σ f N) f M = setF σ f M := by
  funext f' i a
  unfold setF
  by_cases h : f' = f
  · subst h
    rw [if_pos rfl, if_pos rfl, if_pos rfl]
    by_cases ha : a = 0
    · rw [if_pos ha, if_pos ha]
    · rw [if_neg ha, if_neg ha, if_neg ha]
  · rw [if_neg h, if_neg h, if_neg h]
theorem up3_setF (σ : bxS) (f : Nat) (N : Int → Int) (i z : Int) : up3 (setF σ f N) f i 0 z = setF σ f (fun j => if j = i then z else N j) := by
  funext f' j a
  unfold up3 setF
  by_cases h : f' = f
  · subst h
    rw [if_pos rfl, if_pos rfl, if_pos rfl]
    by_cases ha : a = 0
    · subst ha
      rw [if_pos rfl, if_pos rfl]
      by_cases hj : j = i
      · rw [if_pos ⟨hj, rfl⟩]; exact (if_pos hj).symm
      · rw [if_neg (fun q => hj q.1)]; exact (if_neg hj).symm
    · rw [if_neg ha, if_neg ha, if_neg (fun q => ha q.2)]
  · rw [if_neg h, if_neg h, if_neg h]
theorem up3_setF2 (σ : bxS) {f f2 : Nat} (hf : f ≠ f2) (N M : Int → Int) (i z : Int) : up3 (setF (setF σ f N) f2 M) f i 0 z = setF (setF σ f (fun j => if j = i then z else N j)) f2 M := by
  rw [← up3_setF]
  funext f' j a
  unfold up3 setF
  by_cases h : f' = f2
  · subst h
    have h2 : ¬ f' = f := fun q => hf q.symm
    simp only [if_true, if_neg h2]
  · simp only [if_neg h]
def bAg (σ' σ : bxS) : Prop := ∀ f, f < 10 → σ' f = σ f
theorem ag_setF (σ : bxS) {f : Nat} (h : 10 ≤ f) (N : Int → Int) : bAg (setF σ f N) σ := fun f' h' => by
  funext i a
  unfold setF
  rw [if_neg (by omega)]
theorem ag_up3 (σ : bxS) {f : Nat} (h : 10 ≤ f) (i a z : Int) : bAg (up3 σ f i a z) σ := fun f' h' => by
  funext i a
  unfold up3
  rw [if_neg (by omega)]
theorem bAg.rf {σ : bxS} : bAg σ σ := fun _ _ => rfl
theorem bAg.tr {σ σ1 σ2 : bxS} (h : bAg σ2 σ1) (h2 : bAg σ1 σ) : bAg σ2 σ := fun f hf => (h f hf).trans (h2 f hf)
section AG
variable {σ' σ : bxS}
theorem hLo_ag (h : bAg σ' σ) : hLo σ' = hLo σ := by funext p a; unfold hLo; rw [h 5 (by omega), h 6 (by omega), h 7 (by omega)]
theorem hHi_ag (h : bAg σ' σ) : hHi σ' = hHi σ := by funext p a; unfold hHi; rw [h 5 (by omega), h 6 (by omega), h 8 (by omega)]
theorem cgap_ag (h : bAg σ' σ) : cgap σ' = cgap σ := by funext p q a; unfold cgap; rw [h 7 (by omega), h 8 (by omega)]
theorem rAx_ag (h : bAg σ' σ) : rAx σ' = rAx σ := by funext p q; unfold rAx; rw [h 5 (by omega)]
theorem ovl_ag (h : bAg σ' σ) : ovl σ' = ovl σ := by funext p m q a; unfold ovl; rw [hLo_ag h, hHi_ag h]
theorem near_ag (h : bAg σ' σ) : near σ' = near σ := by funext p m q ax; unfold near nsum gapc rch cgr; rw [cgap_ag h, h 5 (by omega), h 6 (by omega)]
theorem mt_ag (h : bAg σ' σ) : mt σ' = mt σ := by funext p m q; unfold mt; rw [rAx_ag h, ovl_ag h, near_ag h]
theorem stO_ag (h : bAg σ' σ) : stO σ' = stO σ := by funext p q; unfold stO; rw [mt_ag h, h 9 (by omega), h 3 (by omega), h 4 (by omega)]
theorem pairP_ag (h : bAg σ' σ) : pairP σ' = pairP σ := by funext st p q; unfold pairP; rw [stO_ag h, h 2 (by omega)]
theorem bx_B.ag (h : bAg σ' σ) (hB : bx_B σ) : bx_B σ' := by
  unfold bx_B bx_Bp at *
  rw [h 0 (by omega), h 2 (by omega), h 3 (by omega), h 4 (by omega), h 5 (by omega), h 6 (by omega), h 7 (by omega), h 8 (by omega), h 9 (by omega)]
  exact hB
end AG
theorem ag_eff (τ : bxS) {f : Nat} (h : 10 ≤ f) (h2 : f < 15) (N : Int → Int) : bAg (eff (setF τ f N)) (eff τ) := fun f' h' => by
  funext i a
  have e15 : setF τ f N 15 = τ 15 := by funext i a; unfold setF; rw [if_neg (by omega)]
  have e16 : setF τ f N 16 = τ 16 := by funext i a; unfold setF; rw [if_neg (by omega)]
  have e17 : setF τ f N 17 = τ 17 := by funext i a; unfold setF; rw [if_neg (by omega)]
  have e7 : setF τ f N 7 = τ 7 := by funext i a; unfold setF; rw [if_neg (by omega)]
  have e8 : setF τ f N 8 = τ 8 := by funext i a; unfold setF; rw [if_neg (by omega)]
  have ef : setF τ f N f' = τ f' := by funext i a; unfold setF; rw [if_neg (by omega)]
  unfold eff mvd
  rw [e15, e16, e17, e7, e8, ef]
theorem bx_M_setF {τ : bxS} {f : Nat} (h : f < 15) (N : Int → Int) (hM : bx_M τ) : bx_M (setF τ f N) := by
  have e15 : setF τ f N 15 = τ 15 := by funext i a; unfold setF; rw [if_neg (by omega)]
  have e16 : setF τ f N 16 = τ 16 := by funext i a; unfold setF; rw [if_neg (by omega)]
  have e17 : setF τ f N 17 = τ 17 := by funext i a; unfold setF; rw [if_neg (by omega)]
  unfold bx_M at *
  rw [e15, e16, e17]
  exact hM
/-! the names of the groups -/
noncomputable def zA {α : Type} (P : Prop) (a b : α) : α := @ite α P (Classical.propDecidable P) a b
theorem zA_t {α : Type} {P : Prop} (h : P) (a b : α) : zA P a b = a := @if_pos P (Classical.propDecidable P) h α a b
theorem zA_f {α : Type} {P : Prop} (h : ¬ P) (a b : α) : zA P a b = b := @if_neg P (Classical.propDecidable P) h α a b
def nin (N : Int → Int) (i : Int) : Int → Int := fun t => if 0 ≤ t ∧ t < i then t else N t
theorem nin_0 (N : Int → Int) : nin N 0 = N := by funext t; unfold nin; rw [if_neg (by omega)]
theorem nin_s (N : Int → Int) {i : Int} (h : 0 ≤ i) : (fun j => if j = i then i else nin N i j) = nin N (i + 1) := by
  funext t
  unfold nin
  by_cases ht : t = i
  · rw [if_pos ht, if_pos (by omega), ht]
  · rw [if_neg ht]
    by_cases h2 : 0 ≤ t ∧ t < i
    · rw [if_pos h2, if_pos (by omega)]
    · rw [if_neg h2, if_neg (by omega)]
def jnp (N : Int → Int) (n kp gv : Int) : Int → Int := fun t => if 0 ≤ t ∧ t < n ∧ N t = gv then kp else N t
theorem jnp_0 (N : Int → Int) (kp gv : Int) : jnp N 0 kp gv = N := by funext t; unfold jnp; rw [if_neg (by omega)]
theorem jnp_at (N : Int → Int) (kp gv i : Int) : jnp N i kp gv i = N i := by unfold jnp; rw [if_neg (by omega)]
theorem jnp_st {N : Int → Int} {kp gv i : Int} (h0 : 0 ≤ i) (h : N i = gv) : (fun j => if j = i then kp else jnp N i kp gv j) = jnp N (i + 1) kp gv := by
  funext t
  unfold jnp
  by_cases ht : t = i
  · subst ht; rw [if_pos rfl, if_pos ⟨h0, by omega, h⟩]
  · rw [if_neg ht]
    by_cases h2 : 0 ≤ t ∧ t < i ∧ N t = gv
    · rw [if_pos h2, if_pos ⟨h2.1, by omega, h2.2.2⟩]
    · rw [if_neg h2, if_neg (fun q => h2 ⟨q.1, by omega, q.2.2⟩)]
theorem jnp_ns {N : Int → Int} {kp gv i : Int} (h : N i ≠ gv) : jnp N i kp gv = jnp N (i + 1) kp gv := by
  funext t
  unfold jnp
  by_cases h2 : 0 ≤ t ∧ t < i ∧ N t = gv
  · rw [if_pos h2, if_pos ⟨h2.1, by omega, h2.2.2⟩]
  · rw [if_neg h2, if_neg (fun q => ?_)]
    by_cases ht : t = i
    · subst ht; exact h q.2.2
    · exact h2 ⟨q.1, by omega, q.2.2⟩
theorem up_same (N : Int → Int) (i : Int) : (fun j => if j = i then N i else N j) = N := by
  funext t
  by_cases ht : t = i
  · rw [if_pos ht, ht]
  · rw [if_neg ht]
noncomputable def gstep (σ : bxS) (i j : Int) (N : Int → Int) : Int → Int := zA (N i ≠ N j ∧ pairP σ 2 i j) (jnp N (σ 0 0 0) (min (N i) (N j)) (max (N i) (N j))) N
noncomputable def gI (σ : bxS) (i : Int) (N : Int → Int) : Nat → Int → Int
  | 0 => N
  | n + 1 => gstep σ i (i + 1 + n) (gI σ i N n)
noncomputable def gIf (σ : bxS) (i : Int) (N : Int → Int) (j : Int) : Int → Int := gI σ i N (j - (i + 1)).toNat
theorem gIf_0 (σ : bxS) (i : Int) (N : Int → Int) : gIf σ i N (i + 1) = N := by
  unfold gIf
  rw [show (i + 1 - (i + 1)).toNat = 0 by omega]
  rfl
theorem gIf_s (σ : bxS) {i : Int} (N : Int → Int) {j : Int} (h : i + 1 ≤ j) : gIf σ i N (j + 1) = gstep σ i j (gIf σ i N j) := by
  unfold gIf
  rw [show (j + 1 - (i + 1)).toNat = (j - (i + 1)).toNat + 1 by omega]
  show gstep σ i (i + 1 + ((j - (i + 1)).toNat : Nat)) _ = _
  rw [show i + 1 + (((j - (i + 1)).toNat : Nat) : Int) = j by omega]
noncomputable def gO (σ : bxS) (N : Int → Int) : Nat → Int → Int
  | 0 => N
  | n + 1 => gIf σ n (gO σ N n) (σ 0 0 0)
noncomputable def gOf (σ : bxS) (N : Int → Int) (i : Int) : Int → Int := gO σ N i.toNat
theorem gOf_0 (σ : bxS) (N : Int → Int) : gOf σ N 0 = N := rfl
theorem gOf_s (σ : bxS) (N : Int → Int) {i : Int} (h : 0 ≤ i) : gOf σ N (i + 1) = gIf σ i (gOf σ N i) (σ 0 0 0) := by
  unfold gOf
  rw [show (i + 1).toNat = i.toNat + 1 by omega]
  show gIf σ (i.toNat : Int) _ _ = _
  rw [Int.toNat_of_nonneg h]
/-- the names of all parts' groups -/
noncomputable def gnm (σ : bxS) (N : Int → Int) : Int → Int := gOf σ (nin N (σ 0 0 0)) (σ 0 0 0)
def nmB (σ : bxS) (N : Int → Int) : Prop := ∀ t, 0 ≤ t → t < σ 0 0 0 → 0 ≤ N t ∧ N t < σ 0 0 0
theorem nmB_nin (σ : bxS) (N : Int → Int) : nmB σ (nin N (σ 0 0 0)) := fun t h0 h1 => by
  unfold nin
  rw [if_pos ⟨h0, h1⟩]
  omega
theorem nmB_gstep {σ : bxS} {N : Int → Int} (h : nmB σ N) {i j : Int} (hi : 0 ≤ i ∧ i < σ 0 0 0) (hj : 0 ≤ j ∧ j < σ 0 0 0) : nmB σ (gstep σ i j N) := fun t h0 h1 => by
  have a := h i hi.1 hi.2
  have b := h j hj.1 hj.2
  have d := h t h0 h1
  unfold gstep zA
  split
  · unfold jnp
    split <;> omega
  · exact d
theorem nmB_gIf {σ : bxS} {N : Int → Int} (h : nmB σ N) {i : Int} (hi : 0 ≤ i ∧ i < σ 0 0 0) {j : Int} (hj : j ≤ σ 0 0 0) : nmB σ (gIf σ i N j) := by
  unfold gIf
  have key : ∀ n : Nat, (n : Int) ≤ σ 0 0 0 - (i + 1) → nmB σ (gI σ i N n) := by
    intro n
    induction n with
    | zero => exact fun _ => h
    | succ n ih => exact fun hn => nmB_gstep (ih (by omega)) hi ⟨by omega, by omega⟩
  by_cases hc : i + 1 ≤ j
  · exact key _ (by omega)
  · rw [show (j - (i + 1)).toNat = 0 by omega]
    exact h
theorem nmB_gOf {σ : bxS} {N : Int → Int} (h : nmB σ N) {i : Int} (hi : i ≤ σ 0 0 0) : nmB σ (gOf σ N i) := by
  unfold gOf
  have key : ∀ n : Nat, (n : Int) ≤ σ 0 0 0 → nmB σ (gO σ N n) := by
    intro n
    induction n with
    | zero => exact fun _ => h
    | succ n ih => exact fun hn => nmB_gIf (ih (by omega)) ⟨by omega, by omega⟩ (Int.le_refl _)
  by_cases hc : 0 ≤ i
  · exact key _ (by omega)
  · rw [show i.toNat = 0 by omega]
    exact h
theorem gstep_ag {σ' σ : bxS} (h : bAg σ' σ) : gstep σ' = gstep σ := by funext i j N; unfold gstep; rw [pairP_ag h, h 0 (by omega)]
theorem gI_ag {σ' σ : bxS} (h : bAg σ' σ) (i : Int) (N : Int → Int) : ∀ n, gI σ' i N n = gI σ i N n := by
  intro n
  induction n with
  | zero => rfl
  | succ n ih => show gstep σ' _ _ _ = gstep σ _ _ _; rw [ih, gstep_ag h]
theorem gIf_ag {σ' σ : bxS} (h : bAg σ' σ) : gIf σ' = gIf σ := by funext i N j; unfold gIf; rw [gI_ag h]
theorem gO_ag {σ' σ : bxS} (h : bAg σ' σ) (N : Int → Int) : ∀ n, gO σ' N n = gO σ N n := by
  intro n
  induction n with
  | zero => rfl
  | succ n ih => show gIf σ' _ _ _ = gIf σ _ _ _; rw [ih, gIf_ag h, h 0 (by omega)]
theorem gnm_ag {σ' σ : bxS} (h : bAg σ' σ) (N : Int → Int) : gnm σ' N = gnm σ N := by unfold gnm gOf; rw [gO_ag h, h 0 (by omega)]
theorem gnm_B (σ : bxS) (N : Int → Int) : nmB σ (gnm σ N) := nmB_gOf (nmB_nin σ N) (Int.le_refl _)
def nz (Z : Int → Int) (i : Int) : Int → Int := fun t => if 0 ≤ t ∧ t < i then 0 else Z t
theorem nz_0 (Z : Int → Int) : nz Z 0 = Z := by funext t; unfold nz; rw [if_neg (by omega)]
theorem nz_s (Z : Int → Int) {i : Int} (h : 0 ≤ i) : (fun j => if j = i then 0 else nz Z i j) = nz Z (i + 1) := by
  funext t
  unfold nz
  by_cases ht : t = i
  · rw [if_pos ht, if_pos (by omega)]
  · rw [if_neg ht]
    by_cases h2 : 0 ≤ t ∧ t < i
    · rw [if_pos h2, if_pos (by omega)]
    · rw [if_neg h2, if_neg (by omega)]
noncomputable def szf (M Z : Int → Int) (n i : Int) : Int → Int := fun t => if 0 ≤ t ∧ t < n then cnt (fun s => M s = t) 0 i else Z t
theorem szf_0 (M Z : Int → Int) (n : Int) : szf M Z n 0 = nz Z n := by
  funext t
  unfold szf nz
  by_cases h : 0 ≤ t ∧ t < n
  · rw [if_pos h, if_pos h, cnt_0 _ (Int.le_refl _)]
  · rw [if_neg h, if_neg h]
theorem szf_at (M Z : Int → Int) {n t : Int} (i : Int) (h : 0 ≤ t ∧ t < n) : szf M Z n i t = cnt (fun s => M s = t) 0 i := by unfold szf; rw [if_pos h]
theorem szf_s (M Z : Int → Int) {n i : Int} (h : 0 ≤ i) (hm : 0 ≤ M i ∧ M i < n) : (fun j => if j = M i then szf M Z n i (M i) + 1 else szf M Z n i j) = szf M Z n (i + 1) := by
  funext t
  by_cases ht : t = M i
  · subst ht
    rw [if_pos rfl, szf_at M Z _ hm, szf_at M Z _ hm, cnt_s _ h, zB_t rfl]
  · rw [if_neg ht]
    unfold szf
    by_cases h2 : 0 ≤ t ∧ t < n
    · rw [if_pos h2, if_pos h2, cnt_s _ h, zB_f (fun q => ht q.symm), Int.add_zero]
    · rw [if_neg h2, if_neg h2]
noncomputable def grs (M : Int → Int) (s : Int) : Int := zB (cnt (fun u => M u = M s) 0 (s + 1) = 2)
