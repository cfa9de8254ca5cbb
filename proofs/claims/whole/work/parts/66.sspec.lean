/-! shifts -/
/-- it returned v; of the heap P holds -/
def bq_H (v : Option Value) (g : bxG) (P : Heap → Prop) : Array Value → State → Outcome → State → Prop := fun _ st o t => o = .returned v ∧ P t.heap ∧ bx_F g st.heap t.heap
def mv3 (τ : bxS) (P A D : Int) : bxS := up3 (up3 (up3 τ 15 0 0 P) 16 0 0 A) 17 0 0 D
theorem mv3_mv3 (τ : bxS) (P A D P' A' D' : Int) : mv3 (mv3 τ P A D) P' A' D' = mv3 τ P' A' D' := by
  funext f i a
  by_cases h1 : f = 15
  · subst h1; by_cases h4 : i = 0 ∧ a = 0 <;> simp [mv3, up3, h4]
  · by_cases h2 : f = 16
    · subst h2; by_cases h4 : i = 0 ∧ a = 0 <;> simp [mv3, up3, h4]
    · by_cases h3 : f = 17
      · subst h3; by_cases h4 : i = 0 ∧ a = 0 <;> simp [mv3, up3, h4]
      · simp [mv3, up3, h1, h2, h3]
theorem mv3_self (τ : bxS) : mv3 τ (τ 15 0 0) (τ 16 0 0) (τ 17 0 0) = τ := by
  funext f i a
  by_cases h1 : f = 15
  · subst h1; by_cases h4 : i = 0 ∧ a = 0
    · simp [mv3, up3, h4]
    · simp [mv3, up3, h4]
  · by_cases h2 : f = 16
    · subst h2; by_cases h4 : i = 0 ∧ a = 0 <;> simp [mv3, up3, h4]
    · by_cases h3 : f = 17
      · subst h3; by_cases h4 : i = 0 ∧ a = 0 <;> simp [mv3, up3, h4]
      · simp [mv3, up3, h1, h2, h3]
theorem mv3_15 (τ : bxS) (P A D P' : Int) : up3 (mv3 τ P A D) 15 0 0 P' = mv3 τ P' A D := by
  funext f i a
  by_cases h1 : f = 15
  · subst h1; by_cases h4 : i = 0 ∧ a = 0 <;> simp [mv3, up3, h4]
  · simp [mv3, up3, h1]
theorem ag_mv3 (τ : bxS) (P A D : Int) : bAg (mv3 τ P A D) τ := fun f h => by
  funext i a
  unfold mv3 up3
  rw [if_neg (by omega), if_neg (by omega), if_neg (by omega)]
theorem bx_M_mv3 (τ : bxS) {P A D : Int} (h1 : -1 ≤ P ∧ P < 60) (h2 : 0 ≤ A ∧ A ≤ 2) (h3 : -1000 ≤ D ∧ D ≤ 1000) : bx_M (mv3 τ P A D) := ⟨h1, h2, h3⟩
def adB (A D : Int) : Prop := (0 ≤ A ∧ A ≤ 2) ∧ -1000 ≤ D ∧ D ≤ 1000
theorem adB_z {P : Prop} {A D a d : Int} (h : adB A D) (ha : 0 ≤ a ∧ a ≤ 2) (hd : -1000 ≤ d ∧ d ≤ 1000) : adB (zI P a A) (zI P d D) := by
  by_cases c : P
  · rw [zI_t c, zI_t c]; exact ⟨ha, hd⟩
  · rw [zI_f c, zI_f c]; exact h
def mvq (τ t : bxS) : Prop := ∃ A D, t = mv3 τ (-1) A D ∧ adB A D
theorem mvq_0 {τ : bxS} (h : τ 15 0 0 = -1) (hM : bx_M τ) : mvq τ τ := ⟨τ 16 0 0, τ 17 0 0, by rw [← h, mv3_self], hM.2.1, hM.2.2⟩
def allN (P : Int → Prop) (n : Int) : Prop := ∀ t, 0 ≤ t → t < n → ¬ P t
theorem alln_0 (P : Int → Prop) : zB (allN P 0) = 1 := zB_t (fun t h0 h1 => by omega)
theorem alln_t {P : Int → Prop} {q : Int} (h : allN P q) (hq : ¬ P q) : zB (allN P (q + 1)) = 1 := zB_t (fun t h0 h1 => by
  by_cases e : t = q
  · subst e; exact hq
  · exact h t h0 (by omega))
theorem alln_f {P : Int → Prop} {q : Int} (h0 : 0 ≤ q) (hq : P q) : zB (allN P (q + 1)) = 0 := zB_f (fun h => h q h0 (by omega) hq)
theorem alln_mono {P : Int → Prop} {q n : Int} (h : allN P n) (hq : q ≤ n) : allN P q := fun t h0 h1 => h t h0 (by omega)
theorem zB_of {P : Prop} (h : zB P ≠ 0) : P := Classical.byContradiction (fun q => h (zB_f q))
theorem zB_nof {P : Prop} (h : zB P = 0) : ¬ P := fun q => by rw [zB_t q] at h; omega
def blkM (τ : bxS) (p a d q : Int) : Prop := q ≠ p ∧ τ 2 q 0 ≠ 0 ∧ τ 9 (8 * τ 3 p 0 + τ 3 q 0) 0 = 0 ∧ mt (eff (mv3 τ p a d)) p 0 q
def stS (τ : bxS) (p a d : Int) : Prop := 0 ≤ τ 7 p a + d ∧ τ 8 p a + d ≤ 1000
def frA (τ : bxS) (p a d : Int) : Prop := stS τ p a d ∧ allN (blkM τ p a d) (τ 0 0 0)
noncomputable def mshN (F : Int → Prop) (b : Int) : Nat → Int
  | 0 => -10000
  | n + 1 => zI (F b) b (zI (F (-b)) (-b) (mshN F (b + 1) n))
noncomputable def msh (F : Int → Prop) (most b : Int) : Int := mshN F b (most + 1 - b).toNat
theorem msh_end (F : Int → Prop) {most b : Int} (h : most < b) : msh F most b = -10000 := by
  unfold msh
  rw [show (most + 1 - b).toNat = 0 by omega]
  rfl
theorem msh_s (F : Int → Prop) {most b : Int} (h : b ≤ most) : msh F most b = zI (F b) b (zI (F (-b)) (-b) (msh F most (b + 1))) := by
  unfold msh
  rw [show (most + 1 - b).toNat = (most + 1 - (b + 1)).toNat + 1 by omega]
  rfl
theorem mvd_ag {τ' τ : bxS} (h5 : τ' 15 = τ 15) (h6 : τ' 16 = τ 16) (h7 : τ' 17 = τ 17) : mvd τ' = mvd τ := by
  funext p a
  unfold mvd
  rw [h5, h6, h7]
/-! the class's runs of shifts -/
def ovA (σ : bxS) (p q a : Int) : Prop := (0 = a ∨ ovl σ p 0 q 0) ∧ (1 = a ∨ ovl σ p 0 q 1) ∧ (2 = a ∨ ovl σ p 0 q 2)
def wdN (rest : Int) : Nat → Int
  | 0 => -1
  | n + 1 => if (n : Int) * n < rest then n else wdN rest n
def wd (rest w : Int) : Int := wdN rest (w + 1).toNat
theorem wd_end (rest : Int) {w : Int} (h : w < 0) : wd rest w = -1 := by
  unfold wd
  rw [show (w + 1).toNat = 0 by omega]
  rfl
theorem wd_s (rest : Int) {w : Int} (h : 0 ≤ w) : wd rest w = if w * w < rest then w else wd rest (w - 1) := by
  unfold wd
  rw [show (w + 1).toNat = w.toNat + 1 by omega, show (w - 1 + 1).toNat = w.toNat by omega]
  show (if ((w.toNat : Nat) : Int) * (w.toNat : Nat) < rest then ((w.toNat : Nat) : Int) else wdN rest w.toNat) = _
  rw [Int.toNat_of_nonneg h]
theorem wdN_bd (rest : Int) : ∀ n : Nat, -1 ≤ wdN rest n ∧ wdN rest n < n := by
  intro n
  induction n with
  | zero => exact ⟨Int.le_refl _, by show (-1 : Int) < ((0 : Nat) : Int); omega⟩
  | succ n ih =>
    show -1 ≤ (if (n : Int) * n < rest then (n : Int) else wdN rest n) ∧ (if (n : Int) * n < rest then (n : Int) else wdN rest n) < ((n + 1 : Nat) : Int)
    split <;> omega
theorem wd_bd (rest : Int) {w : Int} (h : -1 ≤ w) : -1 ≤ wd rest w ∧ wd rest w ≤ w := by
  have := wdN_bd rest (w + 1).toNat
  unfold wd
  omega
def rwd (σ : bxS) (p q x : Int) : Int := wd ((σ 6 p 0 + σ 6 q 0) * (σ 6 p 0 + σ 6 q 0) - cgap σ p q x * cgap σ p q x) (σ 6 p 0 + σ 6 q 0)
theorem rwd_bd {σ : bxS} (h : bx_B σ) {p q : Int} (hp : 0 ≤ p ∧ p < 60 ∧ σ 2 p 0 ≠ 0) (hq : 0 ≤ q ∧ q < 60 ∧ σ 2 q 0 ≠ 0) (x : Int) : -1 ≤ rwd σ p q x ∧ rwd σ p q x ≤ 400 := by
  have a := bB6 h hp
  have b := bB6 h hq
  have := wd_bd ((σ 6 p 0 + σ 6 q 0) * (σ 6 p 0 + σ 6 q 0) - cgap σ p q x * cgap σ p q x) (w := σ 6 p 0 + σ 6 q 0) (by omega)
  unfold rwd
  omega
def bLo (σ : bxS) (p q a : Int) : Int := if rAx σ p q = -1 ∨ rAx σ p q = a then hLo σ q a - hHi σ p a + 1 else σ 7 q a - σ 8 p a - rwd σ p q (3 - a - rAx σ p q)
def bHi (σ : bxS) (p q a : Int) : Int := if rAx σ p q = -1 ∨ rAx σ p q = a then hHi σ q a - hLo σ p a - 1 else σ 8 q a - σ 7 p a + rwd σ p q (3 - a - rAx σ p q)
def bOk (σ : bxS) (p q a : Int) : Prop := (rAx σ p q = -1 ∧ ovA σ p q a) ∨ (rAx σ p q ≠ -1 ∧ rAx σ p q = a ∧ near σ p 0 q a) ∨ (rAx σ p q ≠ -1 ∧ rAx σ p q ≠ a ∧ rwd σ p q (3 - a - rAx σ p q) ≠ -1 ∧ ovl σ p 0 q (rAx σ p q))
theorem bLH_bd {σ : bxS} (h : bx_B σ) {p q a : Int} (hp : 0 ≤ p ∧ p < 60 ∧ σ 2 p 0 ≠ 0) (hq : 0 ≤ q ∧ q < 60 ∧ σ 2 q 0 ≠ 0) (h0 : 0 ≤ a) (h1 : a < 3) : (-1400 ≤ bLo σ p q a ∧ bLo σ p q a ≤ 1400) ∧ -1400 ≤ bHi σ p q a ∧ bHi σ p q a ≤ 1400 := by
  have a1 := hLo_bd h hp h0 h1
  have a2 := hHi_bd h hp h0 h1
  have a3 := hLo_bd h hq h0 h1
  have a4 := hHi_bd h hq h0 h1
  have a5 := bB7 h hp h0 h1
  have a6 := bB7 h hq h0 h1
  have a7 := rwd_bd h hp hq (3 - a - rAx σ p q)
  unfold bLo bHi
  constructor
  · split <;> omega
  · split <;> omega
def elig (σ : bxS) (p i : Int) : Prop := σ 2 i 0 ≠ 0 ∧ i ≠ p ∧ σ 9 (σ 3 p 0 * 8 + σ 3 i 0) 0 = 0
def blkP (σ : bxS) (p a i : Int) : Prop := elig σ p i ∧ bOk σ p i a
noncomputable def fbN (σ : bxS) (p a : Int) (V : Int → Int) (L : Int → Int) : Nat → Int → Int
  | 0 => L
  | n + 1 => zA (elig σ p n) (fun j => if j = cnt (blkP σ p a) 0 n then V n else fbN σ p a V L n j) (fbN σ p a V L n)
noncomputable def fb (σ : bxS) (p a : Int) (V : Int → Int) (L : Int → Int) (i : Int) : Int → Int := fbN σ p a V L i.toNat
theorem fb_0 (σ : bxS) (p a : Int) (V : Int → Int) (L : Int → Int) : fb σ p a V L 0 = L := rfl
theorem fb_s (σ : bxS) (p a : Int) (V : Int → Int) (L : Int → Int) {i : Int} (h : 0 ≤ i) : fb σ p a V L (i + 1) = zA (elig σ p i) (fun j => if j = cnt (blkP σ p a) 0 i then V i else fb σ p a V L i j) (fb σ p a V L i) := by
  unfold fb
  rw [show (i + 1).toNat = i.toNat + 1 by omega]
  show zA (elig σ p (i.toNat : Int)) (fun j => if j = cnt (blkP σ p a) 0 (i.toNat : Int) then V (i.toNat : Int) else fbN σ p a V L i.toNat j) _ = _
  rw [Int.toNat_of_nonneg h]
theorem fb_t {σ : bxS} {p : Int} (a : Int) (V : Int → Int) (L : Int → Int) {i : Int} (h : 0 ≤ i) (he : elig σ p i) : fb σ p a V L (i + 1) = (fun j => if j = cnt (blkP σ p a) 0 i then V i else fb σ p a V L i j) := by rw [fb_s _ _ _ _ _ h, zA_t he]
theorem fb_f {σ : bxS} {p : Int} (a : Int) (V : Int → Int) (L : Int → Int) {i : Int} (h : 0 ≤ i) (he : ¬ elig σ p i) : fb σ p a V L (i + 1) = fb σ p a V L i := by rw [fb_s _ _ _ _ _ h, zA_f he]
theorem cnt_mono (P : Int → Prop) (lo : Int) {i j : Int} (h : i ≤ j) : cnt P lo i ≤ cnt P lo j := by
  by_cases hl : j ≤ lo
  · rw [cnt_0 P hl, cnt_0 P (by omega)]
    exact Int.le_refl _
  · have key : ∀ n : Nat, lo ≤ i → cnt P lo i ≤ cnt P lo (i + n) := by
      intro n h0
      induction n with
      | zero => rw [show i + ((0 : Nat) : Int) = i by omega]; exact Int.le_refl _
      | succ n ih =>
        have := zB_01 (P (i + n))
        rw [show i + ((n + 1 : Nat) : Int) = (i + n) + 1 by omega, cnt_s P (show lo ≤ i + (n : Int) by omega)]
        omega
    by_cases hi : lo ≤ i
    · have := key (j - i).toNat hi
      rw [show i + (((j - i).toNat : Nat) : Int) = j by omega] at this
      exact this
    · rw [cnt_0 P (by omega)]
      exact (cnt_bd P lo j).1
/-- the runs that were noted are those of the parts that block, in their order -/
theorem fb_at {σ : bxS} {p a : Int} (V L : Int → Int) : ∀ (n : Nat) (j : Int), 0 ≤ j → j < cnt (blkP σ p a) 0 n → ∃ i, 0 ≤ i ∧ i < (n : Int) ∧ blkP σ p a i ∧ cnt (blkP σ p a) 0 i = j ∧ ∀ V L : Int → Int, fb σ p a V L n j = V i := by
  intro n
  induction n with
  | zero => intro j h0 h1; rw [cnt_0 _ (by omega)] at h1; omega
  | succ n ih =>
    intro j h0 h1
    have e1 : ((n + 1 : Nat) : Int) = (n : Int) + 1 := by omega
    rw [e1] at h1 ⊢
    rw [cnt_s _ (by omega)] at h1
    have hz := zB_01 (blkP σ p a n)
    by_cases hj : j < cnt (blkP σ p a) 0 n
    · obtain ⟨i, a1, a2, a3, a4, a5⟩ := ih j h0 hj
      refine ⟨i, a1, by omega, a3, a4, fun V L => ?_⟩
      by_cases he : elig σ p n
      · rw [fb_t _ _ _ (by omega) he]; exact (if_neg (show ¬ j = cnt (blkP σ p a) 0 n by omega)).trans (a5 V L)
      · rw [fb_f _ _ _ (by omega) he]; exact a5 V L
    · have hb : blkP σ p a n := zB_of (by omega)
      rw [zB_t hb] at h1
      refine ⟨n, by omega, by omega, hb, by omega, fun V L => ?_⟩
      rw [fb_t _ _ _ (by omega) hb.1]
      exact if_pos (show j = cnt (blkP σ p a) 0 n by omega)
/-- every part that blocks has its place among them -/
theorem fb_place (σ : bxS) (p a : Int) {i n : Int} (h0 : 0 ≤ i) (hi : i < n) (hb : blkP σ p a i) : cnt (blkP σ p a) 0 i < cnt (blkP σ p a) 0 n := by
  have h1 := cnt_s (blkP σ p a) h0
  rw [zB_t hb] at h1
  have h2 := cnt_mono (blkP σ p a) 0 (show i + 1 ≤ n by omega)
  omega
def inB (L G : Int → Int) (b i : Int) : Prop := L i ≤ b ∧ b ≤ G i
def lgB (L G : Int → Int) (n : Int) : Prop := ∀ j, 0 ≤ j → j < n → (-1400 ≤ L j ∧ L j ≤ 1400) ∧ -1400 ≤ G j ∧ G j ≤ 1400
theorem nth_bd (P : Int → Prop) (i hi k : Int) : nth P i hi k = -1 ∨ (i ≤ nth P i hi k ∧ nth P i hi k < hi ∧ P (nth P i hi k)) := by
  have key : ∀ (n : Nat) (i k : Int), (hi - i).toNat = n → nth P i hi k = -1 ∨ (i ≤ nth P i hi k ∧ nth P i hi k < hi ∧ P (nth P i hi k)) := by
    intro n
    induction n with
    | zero => intro i k hn; exact Or.inl (nth_end P k (by omega))
    | succ n ih =>
      intro i k hn
      by_cases hP : P i
      · rw [nth_t k (by omega) hP]
        by_cases hk : k = 0
        · rw [if_pos hk]; exact Or.inr ⟨Int.le_refl _, by omega, hP⟩
        · rw [if_neg hk]
          rcases ih (i + 1) (k - 1) (by omega) with h | h
          · exact Or.inl h
          · exact Or.inr ⟨by omega, h.2⟩
      · rw [nth_f k (by omega) hP]
        rcases ih (i + 1) k (by omega) with h | h
        · exact Or.inl h
        · exact Or.inr ⟨by omega, h.2⟩
  exact key _ i k rfl
theorem nth_none {P : Int → Prop} {i hi : Int} (h : nth P i hi 0 = -1) (h0 : 0 ≤ i) : ∀ j, i ≤ j → j < hi → ¬ P j := by
  have key : ∀ (n : Nat) (i : Int), 0 ≤ i → (hi - i).toNat = n → nth P i hi 0 = -1 → ∀ j, i ≤ j → j < hi → ¬ P j := by
    intro n
    induction n with
    | zero => intro i _ hn _ j h1 h2; omega
    | succ n ih =>
      intro i h0 hn h j h1 h2 hp
      by_cases hP : P i
      · rw [nth_t 0 (by omega) hP, if_pos rfl] at h; omega
      · rw [nth_f 0 (by omega) hP] at h
        by_cases e : j = i
        · subst e; exact hP hp
        · exact ih (i + 1) (by omega) (by omega) h j (by omega) h2 hp
  exact key _ i h0 rfl h
noncomputable def bAt (L G : Int → Int) (n b : Int) : Int := nth (inB L G b) 0 n 0
noncomputable def fsN (L G : Int → Int) (n up : Int) : Nat → Int → Int
  | 0, b => b
  | k + 1, b => if bAt L G n b = -1 then b else fsN L G n up k (if up = 0 then L (bAt L G n b) - 1 else G (bAt L G n b) + 1)
noncomputable def fsh (L G : Int → Int) (n up : Int) : Int := fsN L G n up n.toNat 0
theorem fsN_s (L G : Int → Int) (n up : Int) {i : Int} (b : Int) (h : i < n) : fsN L G n up (n - i).toNat b = if bAt L G n b = -1 then b else fsN L G n up (n - (i + 1)).toNat (if up = 0 then L (bAt L G n b) - 1 else G (bAt L G n b) + 1) := by
  rw [show (n - i).toNat = (n - (i + 1)).toNat + 1 by omega]
  rfl
theorem fsN_bd {L G : Int → Int} {n : Int} (up : Int) (h : lgB L G n) : ∀ (k : Nat) (b : Int), -1401 ≤ b → b ≤ 1401 → -1401 ≤ fsN L G n up k b ∧ fsN L G n up k b ≤ 1401 := by
  intro k
  induction k with
  | zero => exact fun b h1 h2 => ⟨h1, h2⟩
  | succ k ih =>
    intro b h1 h2
    show -1401 ≤ (if bAt L G n b = -1 then b else _) ∧ (if bAt L G n b = -1 then b else _) ≤ 1401
    by_cases hb : bAt L G n b = -1
    · rw [if_pos hb]; exact ⟨h1, h2⟩
    · rw [if_neg hb]
      have h3 := (nth_bd (inB L G b) 0 n 0).resolve_left hb
      have h4 := h _ h3.1 h3.2.1
      have h5 : -1401 ≤ (if up = 0 then L (bAt L G n b) - 1 else G (bAt L G n b) + 1) ∧ (if up = 0 then L (bAt L G n b) - 1 else G (bAt L G n b) + 1) ≤ 1401 := by
        have h6 : bAt L G n b = nth (inB L G b) 0 n 0 := rfl
        rw [← h6] at h4
        split <;> omega
      exact ih _ h5.1 h5.2
theorem fsh_bd {L G : Int → Int} {n : Int} (up : Int) (h : lgB L G n) : -1401 ≤ fsh L G n up ∧ fsh L G n up ≤ 1401 := fsN_bd up h _ 0 (by omega) (by omega)
noncomputable def shR (up dn most : Int) (S : Int → Prop) : Int := zI ((up ≤ most ∧ S up) ∧ (¬ (-dn ≤ most ∧ S dn) ∨ up ≤ -dn)) up (zI (-dn ≤ most ∧ S dn) dn (-10000))
theorem setF_self2 (σ : bxS) {f f2 : Nat} (h : f2 ≠ f) : setF (setF σ f (fun t => σ f t 0)) f2 (fun t => σ f2 t 0) = σ := by
  rw [setF_self σ f]
  exact setF_self σ f2
section AG2
variable {σ' σ : bxS}
theorem ovA_ag (h : bAg σ' σ) : ovA σ' = ovA σ := by funext p q a; unfold ovA; rw [ovl_ag h]
theorem rwd_ag (h : bAg σ' σ) : rwd σ' = rwd σ := by funext p q x; unfold rwd; rw [cgap_ag h, h 6 (by omega)]
end AG2
theorem ag_set2 (σ : bxS) (L G : Int → Int) : bAg (setF (setF σ 12 L) 13 G) σ := (ag_setF _ (by omega) G).tr (ag_setF σ (by omega) L)
theorem fb_lgB {σ : bxS} (h : bx_B σ) {p a n : Int} (hp : 0 ≤ p ∧ p < 60 ∧ σ 2 p 0 ≠ 0) (h0 : 0 ≤ a) (h1 : a < 3) (hn : 0 ≤ n ∧ n ≤ 60) (L G : Int → Int) : lgB (fb σ p a (fun i => bLo σ p i a) L n) (fb σ p a (fun i => bHi σ p i a) G n) (cnt (blkP σ p a) 0 n) := by
  intro j hj0 hj1
  rw [show n = ((n.toNat : Nat) : Int) by omega] at hj1 ⊢
  obtain ⟨i, a1, a2, a3, -, a5⟩ := fb_at (σ := σ) (p := p) (a := a) L L n.toNat j hj0 hj1
  rw [a5, a5]
  exact bLH_bd h hp ⟨a1, by omega, a3.1.1⟩ h0 h1
section BXE
variable {p : Program} {l : Launch} {e : Env} {R : Room} {s : State} {m : MethodId} {args : Array Value} {below : List Frame} {meth : Method} {c : Code} {H : Heap} {locs : List Loc} {cells slots : Nat}
variable {cc : ByteArray} {pc : Nat} {ls : Array Slot} {g : bxG}
theorem bh_i (hx : p.tables.exec = Jvm.exec) (hb : c.code = cc) (hr : meth.sig.returnType = some .int) (hlocks : meth.locks = false) {P : Heap → Prop} (hP : P H) (hF : bx_F g s.heap H) (hlc : bx_Lc g locs) {z z' : Int} (hz : z = z') (hdg : decode cc pc = .ok (.ireturn, 1)) : W p l e R s m args below meth c H locs cells slots (MQ below (bq_H (some (.int (iI z'))) g P) args s cells slots (bq_fr g)) (F0 m pc ls [.int (iI z)]) :=
  W.iret hx hb hr (fun t ht _ => ⟨by rw [hz], by rw [ht]; exact hP, by rw [ht]; exact hF⟩) hlc hdg hlocks
end BXE
