/-! the shortest free shift, from the runs and by trying -/
theorem cntN_full {P : Int → Prop} {lo : Int} : ∀ n : Nat, (n : Int) ≤ cntN P lo n → ∀ t, lo ≤ t → t < lo + n → P t := by
  intro n
  induction n with
  | zero => intro _ t a b; omega
  | succ n ih =>
    intro h t a b
    have e : cntN P lo (n + 1) = cntN P lo n + zB (P (lo + n)) := rfl
    have le : ∀ k : Nat, cntN P lo k ≤ k := by
      intro k
      induction k with
      | zero => exact Int.le_refl _
      | succ k ihk =>
        have := zB_01 (P (lo + k))
        show cntN P lo k + zB (P (lo + k)) ≤ ((k + 1 : Nat) : Int)
        omega
    have hn := le n
    have hz := zB_01 (P (lo + n))
    rw [e] at h
    by_cases et : t = lo + n
    · rw [et]; exact zB_of (by omega)
    · exact ih (by omega) t a (by omega)
theorem cntN_strict {P P' : Int → Prop} {lo h : Int} (hPP : ∀ t, P t → P' t) (hn : ¬ P h) (hp : P' h) : ∀ n : Nat, lo ≤ h → h < lo + n → cntN P lo n + 1 ≤ cntN P' lo n := by
  intro n
  induction n with
  | zero => intro a b; omega
  | succ n ih =>
    intro a b
    show cntN P lo n + zB (P (lo + n)) + 1 ≤ cntN P' lo n + zB (P' (lo + n))
    by_cases e : h = lo + n
    · rw [← e, zB_f hn, zB_t hp]
      have := cntN_le (lo := lo) hPP n
      omega
    · have := ih a (by omega)
      by_cases c : P (lo + n)
      · rw [zB_t c, zB_t (hPP _ c)]; omega
      · have := zB_01 (P' (lo + n))
        rw [zB_f c]; omega
def blkd (L G : Int → Int) (n d : Int) : Prop := ∃ j, 0 ≤ j ∧ j < n ∧ inB L G d j
theorem cnt_eqN (P : Int → Prop) {n : Int} (hn : 0 ≤ n) : cnt P 0 n = cntN P 0 n.toNat := by
  unfold cnt
  rw [Int.sub_zero]
theorem fs_up {L G : Int → Int} {n : Int} (hn : 0 ≤ n) : ∀ (k : Nat) (b : Int), 0 ≤ b → (∀ d, 0 ≤ d → d < b → blkd L G n d) → n - k ≤ cnt (fun j => G j < b) 0 n → 0 ≤ fsN L G n 1 k b ∧ (∀ d, 0 ≤ d → d < fsN L G n 1 k b → blkd L G n d) ∧ ¬ blkd L G n (fsN L G n 1 k b) := by
  intro k
  induction k with
  | zero =>
    intro b hb hd hc
    refine ⟨hb, hd, fun ⟨j, j0, j1, hj⟩ => ?_⟩
    rw [cnt_eqN _ hn] at hc
    have := cntN_full (P := fun j => G j < b) (lo := 0) n.toNat (by omega) j j0 (by omega)
    have h2 : b ≤ G j := hj.2
    have h3 : G j < b := this
    omega
  | succ k ih =>
    intro b hb hd hc
    have e : fsN L G n 1 (k + 1) b = if bAt L G n b = -1 then b else fsN L G n 1 k (if (1 : Int) = 0 then L (bAt L G n b) - 1 else G (bAt L G n b) + 1) := rfl
    rw [e]
    by_cases c : bAt L G n b = -1
    · rw [if_pos c]
      exact ⟨hb, hd, fun ⟨j, j0, j1, hj⟩ => nth_none (P := inB L G b) c (Int.le_refl _) j j0 j1 hj⟩
    · rw [if_neg c, if_neg (by decide)]
      have hh := (nth_bd (inB L G b) 0 n 0).resolve_left c
      have hL : L (bAt L G n b) ≤ b := hh.2.2.1
      have hG : b ≤ G (bAt L G n b) := hh.2.2.2
      refine ih _ (by omega) (fun d d0 d1 => ?_) ?_
      · by_cases q : d < b
        · exact hd d d0 q
        · exact ⟨bAt L G n b, hh.1, hh.2.1, by omega, by omega⟩
      · rw [cnt_eqN _ hn] at hc ⊢
        have := cntN_strict (P := fun j => G j < b) (P' := fun j => G j < G (bAt L G n b) + 1) (lo := 0) (h := bAt L G n b) (fun t ht => by have h9 : G t < b := ht; show G t < _; omega) (fun q => by have h9 : G (bAt L G n b) < b := q; omega) (by show G (bAt L G n b) < G (bAt L G n b) + 1; omega) n.toNat hh.1 (by have h9 : bAt L G n b < n := hh.2.1; omega)
        omega
theorem fs_dn {L G : Int → Int} {n : Int} (hn : 0 ≤ n) : ∀ (k : Nat) (b : Int), b ≤ 0 → (∀ d, d ≤ 0 → b < d → blkd L G n d) → n - k ≤ cnt (fun j => b < L j) 0 n → fsN L G n 0 k b ≤ 0 ∧ (∀ d, d ≤ 0 → fsN L G n 0 k b < d → blkd L G n d) ∧ ¬ blkd L G n (fsN L G n 0 k b) := by
  intro k
  induction k with
  | zero =>
    intro b hb hd hc
    refine ⟨hb, hd, fun ⟨j, j0, j1, hj⟩ => ?_⟩
    rw [cnt_eqN _ hn] at hc
    have := cntN_full (P := fun j => b < L j) (lo := 0) n.toNat (by omega) j j0 (by omega)
    have h2 : L j ≤ b := hj.1
    have h3 : b < L j := this
    omega
  | succ k ih =>
    intro b hb hd hc
    have e : fsN L G n 0 (k + 1) b = if bAt L G n b = -1 then b else fsN L G n 0 k (if (0 : Int) = 0 then L (bAt L G n b) - 1 else G (bAt L G n b) + 1) := rfl
    rw [e]
    by_cases c : bAt L G n b = -1
    · rw [if_pos c]
      exact ⟨hb, hd, fun ⟨j, j0, j1, hj⟩ => nth_none (P := inB L G b) c (Int.le_refl _) j j0 j1 hj⟩
    · rw [if_neg c, if_pos rfl]
      have hh := (nth_bd (inB L G b) 0 n 0).resolve_left c
      have hL : L (bAt L G n b) ≤ b := hh.2.2.1
      have hG : b ≤ G (bAt L G n b) := hh.2.2.2
      refine ih _ (by omega) (fun d d0 d1 => ?_) ?_
      · by_cases q : b < d
        · exact hd d d0 q
        · exact ⟨bAt L G n b, hh.1, hh.2.1, by omega, by omega⟩
      · rw [cnt_eqN _ hn] at hc ⊢
        have := cntN_strict (P := fun j => b < L j) (P' := fun j => L (bAt L G n b) - 1 < L j) (lo := 0) (h := bAt L G n b) (fun t ht => by have h9 : b < L t := ht; show _ < L t; omega) (fun q => by have h9 : b < L (bAt L G n b) := q; omega) (by show L (bAt L G n b) - 1 < L (bAt L G n b); omega) n.toNat hh.1 (by have h9 : bAt L G n b < n := hh.2.1; omega)
        omega
theorem fsh_up {L G : Int → Int} {n : Int} (hn : 0 ≤ n) : 0 ≤ fsh L G n 1 ∧ (∀ d, 0 ≤ d → d < fsh L G n 1 → blkd L G n d) ∧ ¬ blkd L G n (fsh L G n 1) :=
  fs_up hn n.toNat 0 (Int.le_refl _) (fun d a b => by omega) (by have := (cnt_bd (fun j => G j < 0) 0 n).1; omega)
theorem fsh_dn {L G : Int → Int} {n : Int} (hn : 0 ≤ n) : fsh L G n 0 ≤ 0 ∧ (∀ d, d ≤ 0 → fsh L G n 0 < d → blkd L G n d) ∧ ¬ blkd L G n (fsh L G n 0) :=
  fs_dn hn n.toNat 0 (Int.le_refl _) (fun d a b => by omega) (by have := (cnt_bd (fun j => 0 < L j) 0 n).1; omega)
theorem msh_skip {F : Int → Prop} {mo : Int} : ∀ (n : Nat) (i m : Int), (m - i).toNat = n → i ≤ m → m ≤ mo + 1 → (∀ b, i ≤ b → b < m → ¬ F b ∧ ¬ F (-b)) → msh F mo i = msh F mo m := by
  intro n
  induction n with
  | zero => intro i m hn h1 _ _; rw [show i = m by omega]
  | succ n ih =>
    intro i m hn h1 h2 h
    have hi := h i (Int.le_refl _) (by omega)
    rw [msh_s F (by omega), zI_f hi.1, zI_f hi.2]
    exact ih (i + 1) m (by omega) (by omega) h2 (fun b a c => h b (by omega) c)
/-- by the nearest free shifts up and down, within an interval around 0 -/
theorem shR_msh {u dn mo A C : Int} {Fr F S : Int → Prop} (hS : ∀ d, S d ↔ (0 ≤ A + d ∧ C + d ≤ 1000)) (hA : 0 ≤ A) (hC : C ≤ 1000) (hF : ∀ d, F d ↔ (S d ∧ Fr d)) (hmo : 0 ≤ mo) (hu0 : 0 ≤ u) (hu : ∀ d, 0 ≤ d → d < u → ¬ Fr d) (hu1 : Fr u) (hd0 : dn ≤ 0) (hd : ∀ d, d ≤ 0 → dn < d → ¬ Fr d) (hd1 : Fr dn) : shR u dn mo S = msh F mo 0 := by
  have nu : ∀ b, 0 ≤ b → b < u → ¬ F b := fun b a c q => hu b a c ((hF b).mp q).2
  have nd : ∀ b, 0 ≤ b → b < -dn → ¬ F (-b) := fun b a c q => hd (-b) (by omega) (by omega) ((hF (-b)).mp q).2
  have su : ¬ S u → ∀ b, u ≤ b → ¬ F b := fun q b hb z => by
    have h1 := (hS b).mp ((hF b).mp z).1
    exact q ((hS u).mpr (by omega))
  have sd : ¬ S dn → ∀ b, -dn ≤ b → ¬ F (-b) := fun q b hb z => by
    have h1 := (hS (-b)).mp ((hF (-b)).mp z).1
    exact q ((hS dn).mpr (by omega))
  have aU : ¬ (u ≤ mo ∧ S u) → ∀ b, 0 ≤ b → b ≤ mo → ¬ F b := fun q b a c => by
    by_cases e : b < u
    · exact nu b a e
    · exact su (fun z => q ⟨by omega, z⟩) b (by omega)
  have aD : ¬ (-dn ≤ mo ∧ S dn) → ∀ b, 0 ≤ b → b ≤ mo → ¬ F (-b) := fun q b a c => by
    by_cases e : b < -dn
    · exact nd b a e
    · exact sd (fun z => q ⟨by omega, z⟩) b (by omega)
  unfold shR
  by_cases c1 : (u ≤ mo ∧ S u) ∧ (¬ (-dn ≤ mo ∧ S dn) ∨ u ≤ -dn)
  · rw [zI_t c1]
    have hsk := msh_skip (F := F) (mo := mo) _ 0 u rfl hu0 (by omega) (fun b a c => ⟨nu b a c, by
      rcases c1.2 with q | q
      · exact aD q b a (by omega)
      · exact nd b a (by omega)⟩)
    rw [hsk, msh_s F c1.1.1, zI_t ((hF u).mpr ⟨c1.1.2, hu1⟩)]
  · rw [zI_f c1]
    by_cases c2 : -dn ≤ mo ∧ S dn
    · rw [zI_t c2]
      have nf : ∀ b, 0 ≤ b → b ≤ -dn → ¬ F b := fun b a c => by
        by_cases cu : u ≤ mo ∧ S u
        · have : -dn < u := by
            by_cases z : u ≤ -dn
            · exact absurd ⟨cu, Or.inr z⟩ c1
            · omega
          exact nu b a (by omega)
        · exact aU cu b a (by omega)
      have hsk := msh_skip (F := F) (mo := mo) _ 0 (-dn) rfl (by omega) (by omega) (fun b a c => ⟨nf b a (by omega), nd b a c⟩)
      rw [hsk, msh_s F c2.1, zI_f (nf (-dn) (by omega) (Int.le_refl _)), Int.neg_neg, zI_t ((hF dn).mpr ⟨c2.2, hd1⟩)]
    · rw [zI_f c2]
      have cu : ¬ (u ≤ mo ∧ S u) := fun z => c1 ⟨z, Or.inl c2⟩
      have hsk := msh_skip (F := F) (mo := mo) _ 0 (mo + 1) rfl (by omega) (Int.le_refl _) (fun b a c => ⟨aU cu b a (by omega), aD c2 b a (by omega)⟩)
      rw [hsk, msh_end F (by omega)]
theorem frA_ag {σ τ : bxS} (h : bAg σ τ) (p a d : Int) : frA σ p a d = frA τ p a d := by
  have e : bAg (eff (mv3 σ p a d)) (eff (mv3 τ p a d)) := fun f hf => by
    funext i x
    have e7 : mv3 σ p a d 7 = mv3 τ p a d 7 := by rw [ag_mv3 σ p a d 7 (by omega), ag_mv3 τ p a d 7 (by omega), h 7 (by omega)]
    have e8 : mv3 σ p a d 8 = mv3 τ p a d 8 := by rw [ag_mv3 σ p a d 8 (by omega), ag_mv3 τ p a d 8 (by omega), h 8 (by omega)]
    have ef : mv3 σ p a d f = mv3 τ p a d f := by rw [ag_mv3 σ p a d f hf, ag_mv3 τ p a d f hf, h f hf]
    unfold eff
    rw [e7, e8, ef]
    rfl
  have eb : blkM σ p a d = blkM τ p a d := by
    funext q
    unfold blkM
    rw [mt_ag e, h 2 (by omega), h 9 (by omega), h 3 (by omega)]
  unfold frA stS
  rw [eb, h 7 (by omega), h 8 (by omega), h 0 (by omega)]
theorem blkd_iff {σ : bxS} (hB : bx_B σ) {p a : Int} (hp : 0 ≤ p ∧ p < 60 ∧ σ 2 p 0 ≠ 0) (ha : 0 ≤ a ∧ a < 3) (L G : Int → Int) (d : Int) : allN (blkM σ p a d) (σ 0 0 0) ↔ ¬ blkd (fb σ p a (fun i => bLo σ p i a) L (σ 0 0 0)) (fb σ p a (fun i => bHi σ p i a) G (σ 0 0 0)) (cnt (blkP σ p a) 0 (σ 0 0 0)) d := by
  have hm := bB0 hB
  have em : (((σ 0 0 0).toNat : Nat) : Int) = σ 0 0 0 := by omega
  have at_ : ∀ j, 0 ≤ j → j < cnt (blkP σ p a) 0 (σ 0 0 0) → ∃ i, 0 ≤ i ∧ i < σ 0 0 0 ∧ blkP σ p a i ∧ cnt (blkP σ p a) 0 i = j ∧ ∀ V L : Int → Int, fb σ p a V L (σ 0 0 0) j = V i := by
    have := fb_at (σ := σ) (p := p) (a := a) L L (σ 0 0 0).toNat
    rw [em] at this
    exact this
  constructor
  · rintro hall ⟨j, j0, j1, hj⟩
    obtain ⟨i, i0, i1, ib, -, iv⟩ := at_ j j0 j1
    have h1 : fb σ p a (fun i => bLo σ p i a) L (σ 0 0 0) j ≤ d := hj.1
    have h2 : d ≤ fb σ p a (fun i => bHi σ p i a) G (σ 0 0 0) j := hj.2
    rw [iv] at h1 h2
    have hq : 0 ≤ i ∧ i < 60 ∧ σ 2 i 0 ≠ 0 := ⟨i0, by omega, ib.1.1⟩
    have hmt := (blk_iff hB (d := d) hp hq ib.1.2.1 ha).mpr ⟨ib.2, h1, h2⟩
    refine hall i i0 i1 ⟨ib.1.2.1, ib.1.1, ?_, hmt⟩
    rw [show 8 * σ 3 p 0 + σ 3 i 0 = σ 3 p 0 * 8 + σ 3 i 0 by omega]
    exact ib.1.2.2
  · intro hn t t0 t1 hb
    obtain ⟨b1, b2, b3, b4⟩ := hb
    have hq : 0 ≤ t ∧ t < 60 ∧ σ 2 t 0 ≠ 0 := ⟨t0, by omega, b2⟩
    obtain ⟨ok, l1, l2⟩ := (blk_iff hB (d := d) hp hq b1 ha).mp b4
    have hbl : blkP σ p a t := ⟨⟨b2, b1, by rw [show σ 3 p 0 * 8 + σ 3 t 0 = 8 * σ 3 p 0 + σ 3 t 0 by omega]; exact b3⟩, ok⟩
    have hj := fb_place σ p a t0 t1 hbl
    have hj0 := (cnt_bd (blkP σ p a) 0 t).1
    obtain ⟨i, i0, i1, ib, ic, iv⟩ := at_ _ hj0 hj
    have eit : i = t := by
      rcases (by omega : i = t ∨ i < t ∨ t < i) with q | q | q
      · exact q
      · have := fb_place σ p a i0 q ib; omega
      · have := fb_place σ p a t0 q hbl; omega
    subst eit
    refine hn ⟨_, hj0, hj, ?_, ?_⟩
    · rw [iv]; exact l1
    · rw [iv]; exact l2
theorem v_shift {σ τ : bxS} (h : inv σ τ) {p a mo : Int} (hp : 0 ≤ p ∧ p < 60 ∧ σ 2 p 0 ≠ 0) (ha : 0 ≤ a ∧ a < 3) (hmo : 0 ≤ mo) (L G : Int → Int) : shR (fsh (fb σ p a (fun i => bLo σ p i a) L (σ 0 0 0)) (fb σ p a (fun i => bHi σ p i a) G (σ 0 0 0)) (cnt (blkP σ p a) 0 (σ 0 0 0)) 1) (fsh (fb σ p a (fun i => bLo σ p i a) L (σ 0 0 0)) (fb σ p a (fun i => bHi σ p i a) G (σ 0 0 0)) (cnt (blkP σ p a) 0 (σ 0 0 0)) 0) mo (stS σ p a) = msh (frA τ p a) mo 0 := by
  have hn := (cnt_bd (blkP σ p a) 0 (σ 0 0 0)).1
  have h7 := bB7 h.B hp ha.1 ha.2
  have u := fsh_up (L := fb σ p a (fun i => bLo σ p i a) L (σ 0 0 0)) (G := fb σ p a (fun i => bHi σ p i a) G (σ 0 0 0)) hn
  have d := fsh_dn (L := fb σ p a (fun i => bLo σ p i a) L (σ 0 0 0)) (G := fb σ p a (fun i => bHi σ p i a) G (σ 0 0 0)) hn
  refine shR_msh (A := σ 7 p a) (C := σ 8 p a) (Fr := fun d => ¬ blkd (fb σ p a (fun i => bLo σ p i a) L (σ 0 0 0)) (fb σ p a (fun i => bHi σ p i a) G (σ 0 0 0)) (cnt (blkP σ p a) 0 (σ 0 0 0)) d) (F := frA τ p a) (fun d => Iff.rfl) (by omega) (by omega) (fun x => ?_) hmo u.1 (fun x x0 x1 q => q (u.2.1 x x0 x1)) u.2.2 d.1 (fun x x0 x1 q => q (d.2.1 x x0 x1)) d.2.2
  rw [← frA_ag h.1]
  unfold frA
  rw [blkd_iff h.B hp ha L G x]
