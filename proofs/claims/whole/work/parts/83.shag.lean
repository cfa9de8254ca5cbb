/-! shifts: each other part blocks one run of shifts; the shortest free one -/
theorem em_f (τ : bxS) (p a d : Int) {f : Nat} (h7 : f ≠ 7) (h8 : f ≠ 8) (h : f < 10) : eff (mv3 τ p a d) f = τ f := by
  funext i x
  unfold eff
  rw [if_neg h7, if_neg h8]
  exact congrFun (congrFun (ag_mv3 τ p a d f h) i) x
theorem em_7 (τ : bxS) {p : Int} (hp : 0 ≤ p) (a d i x : Int) : eff (mv3 τ p a d) 7 i x = τ 7 i x + (if i = p ∧ x = a then d else 0) := by
  show τ 7 i x + (if i = p ∧ 0 ≤ i ∧ x = a then d else 0) = _
  by_cases h : i = p ∧ x = a
  · rw [if_pos h, if_pos ⟨h.1, by omega, h.2⟩]
  · rw [if_neg h, if_neg (fun q => h ⟨q.1, q.2.2⟩)]
theorem em_8 (τ : bxS) {p : Int} (hp : 0 ≤ p) (a d i x : Int) : eff (mv3 τ p a d) 8 i x = τ 8 i x + (if i = p ∧ x = a then d else 0) := by
  show τ 8 i x + (if i = p ∧ 0 ≤ i ∧ x = a then d else 0) = _
  by_cases h : i = p ∧ x = a
  · rw [if_pos h, if_pos ⟨h.1, by omega, h.2⟩]
  · rw [if_neg h, if_neg (fun q => h ⟨q.1, q.2.2⟩)]
theorem em_7q (τ : bxS) {p i : Int} (hp : 0 ≤ p) (h : i ≠ p) (a d x : Int) : eff (mv3 τ p a d) 7 i x = τ 7 i x := by rw [em_7 τ hp, if_neg (fun z => h z.1), Int.add_zero]
theorem em_8q (τ : bxS) {p i : Int} (hp : 0 ≤ p) (h : i ≠ p) (a d x : Int) : eff (mv3 τ p a d) 8 i x = τ 8 i x := by rw [em_8 τ hp, if_neg (fun z => h z.1), Int.add_zero]
theorem em_7n (τ : bxS) {p a x : Int} (hp : 0 ≤ p) (h : x ≠ a) (d i : Int) : eff (mv3 τ p a d) 7 i x = τ 7 i x := by rw [em_7 τ hp, if_neg (fun z => h z.2), Int.add_zero]
theorem em_8n (τ : bxS) {p a x : Int} (hp : 0 ≤ p) (h : x ≠ a) (d i : Int) : eff (mv3 τ p a d) 8 i x = τ 8 i x := by rw [em_8 τ hp, if_neg (fun z => h z.2), Int.add_zero]
theorem em_7s (τ : bxS) {p : Int} (hp : 0 ≤ p) (a d : Int) : eff (mv3 τ p a d) 7 p a = τ 7 p a + d := by rw [em_7 τ hp, if_pos ⟨rfl, rfl⟩]
theorem em_8s (τ : bxS) {p : Int} (hp : 0 ≤ p) (a d : Int) : eff (mv3 τ p a d) 8 p a = τ 8 p a + d := by rw [em_8 τ hp, if_pos ⟨rfl, rfl⟩]
theorem em_5 (τ : bxS) (p a d : Int) : eff (mv3 τ p a d) 5 = τ 5 := em_f τ p a d (by omega) (by omega) (by omega)
theorem em_6 (τ : bxS) (p a d : Int) : eff (mv3 τ p a d) 6 = τ 6 := em_f τ p a d (by omega) (by omega) (by omega)
theorem em_lo_q (τ : bxS) {p q : Int} (hp : 0 ≤ p) (hq : q ≠ p) (a d x : Int) : hLo (eff (mv3 τ p a d)) q x = hLo τ q x := by
  unfold hLo
  rw [em_5, em_6, em_7q τ hp hq]
theorem em_hi_q (τ : bxS) {p q : Int} (hp : 0 ≤ p) (hq : q ≠ p) (a d x : Int) : hHi (eff (mv3 τ p a d)) q x = hHi τ q x := by
  unfold hHi
  rw [em_5, em_6, em_8q τ hp hq]
theorem em_rAx (τ : bxS) (p q a d : Int) : rAx (eff (mv3 τ p a d)) p q = rAx τ p q := by
  unfold rAx
  rw [em_5]
theorem em_lo_n (τ : bxS) {p a x : Int} (hp : 0 ≤ p) (h : x ≠ a) (d i : Int) : hLo (eff (mv3 τ p a d)) i x = hLo τ i x := by
  unfold hLo
  rw [em_5, em_6, em_7n τ hp h]
theorem em_hi_n (τ : bxS) {p a x : Int} (hp : 0 ≤ p) (h : x ≠ a) (d i : Int) : hHi (eff (mv3 τ p a d)) i x = hHi τ i x := by
  unfold hHi
  rw [em_5, em_6, em_8n τ hp h]
theorem em_lo_s (τ : bxS) {p : Int} (hp : 0 ≤ p) (a d : Int) : hLo (eff (mv3 τ p a d)) p a = hLo τ p a + d := by
  unfold hLo
  rw [em_5, em_6, em_7s τ hp]
  split <;> omega
theorem em_hi_s (τ : bxS) {p : Int} (hp : 0 ≤ p) (a d : Int) : hHi (eff (mv3 τ p a d)) p a = hHi τ p a + d := by
  unfold hHi
  rw [em_5, em_6, em_8s τ hp]
  split <;> omega
theorem em_ovl_a (τ : bxS) {p q : Int} (hp : 0 ≤ p) (hq : q ≠ p) (a d : Int) : ovl (eff (mv3 τ p a d)) p 0 q a ↔ (hLo τ q a - hHi τ p a + 1 ≤ d ∧ d ≤ hHi τ q a - hLo τ p a - 1) := by
  unfold ovl
  rw [em_lo_s τ hp, em_hi_s τ hp, em_lo_q τ hp hq, em_hi_q τ hp hq]
  omega
theorem em_ovl_n (τ : bxS) {p : Int} (hp : 0 ≤ p) (q : Int) (a d : Int) {x : Int} (h : x ≠ a) : ovl (eff (mv3 τ p a d)) p 0 q x ↔ ovl τ p 0 q x := by
  unfold ovl
  rw [em_lo_n τ hp h, em_hi_n τ hp h, em_lo_n τ hp h, em_hi_n τ hp h]
theorem em_gap_n (τ : bxS) {p : Int} (hp : 0 ≤ p) (q : Int) (a d : Int) {x : Int} (h : x ≠ a) : cgap (eff (mv3 τ p a d)) p q x = cgap τ p q x := by
  unfold cgap
  rw [em_7n τ hp h, em_7n τ hp h, em_8n τ hp h, em_8n τ hp h]
theorem em_gap_a (τ : bxS) {p q : Int} (hp : 0 ≤ p) (hq : q ≠ p) (a d : Int) : cgap (eff (mv3 τ p a d)) p q a = max 0 (max (τ 7 q a - (τ 8 p a + d)) (τ 7 p a + d - τ 8 q a)) := by
  unfold cgap
  rw [em_7s τ hp, em_8s τ hp, em_7q τ hp hq, em_8q τ hp hq]
theorem cgr_0 (σ : bxS) (p : Int) : cgr σ p 0 = 0 := by unfold cgr; split <;> rfl
theorem gapc_0 (σ : bxS) (p q x : Int) : gapc σ p q 0 x = cgap σ p q x := by unfold gapc cgap; omega
theorem rch_0 (σ : bxS) (p q : Int) : rch σ p 0 q = σ 6 p 0 + σ 6 q 0 := by unfold rch; rw [cgr_0]; omega
/-- the greatest width: what lies within it, and nothing else, has a square below the rest -/
theorem wd_iff {rest R g : Int} (hR : 0 ≤ R) (hrest : rest ≤ R * R) (hg : 0 ≤ g) : g * g < rest ↔ (wd rest R ≠ -1 ∧ g ≤ wd rest R) := by
  have key : ∀ n : Nat, (wdN rest n = -1 ∧ ∀ x : Int, 0 ≤ x → x < n → ¬ x * x < rest) ∨ (0 ≤ wdN rest n ∧ wdN rest n * wdN rest n < rest ∧ ∀ x : Int, wdN rest n < x → x < n → ¬ x * x < rest) := by
    intro n
    induction n with
    | zero => exact Or.inl ⟨rfl, fun x a b => by omega⟩
    | succ n ih =>
      have e : wdN rest (n + 1) = if (n : Int) * n < rest then (n : Int) else wdN rest n := rfl
      rw [e]
      by_cases c : (n : Int) * n < rest
      · rw [if_pos c]; exact Or.inr ⟨by omega, c, fun x a b => by omega⟩
      · rw [if_neg c]
        rcases ih with ⟨i1, i2⟩ | ⟨i1, i2, i3⟩
        · refine Or.inl ⟨i1, fun x a b => ?_⟩
          by_cases ex : x = n
          · subst ex; exact c
          · exact i2 x a (by omega)
        · refine Or.inr ⟨i1, i2, fun x a b => ?_⟩
          by_cases ex : x = n
          · subst ex; exact c
          · exact i3 x a (by omega)
  have big : ∀ x : Int, R < x → ¬ x * x < rest := fun x hx hl => by
    have := Int.mul_le_mul (show R ≤ x by omega) (show R ≤ x by omega) hR (by omega)
    omega
  have hk := key (R + 1).toNat
  have en : (((R + 1).toNat : Nat) : Int) = R + 1 := by omega
  rw [en] at hk
  show g * g < rest ↔ (wdN rest (R + 1).toNat ≠ -1 ∧ g ≤ wdN rest (R + 1).toNat)
  rcases hk with ⟨i1, i2⟩ | ⟨i1, i2, i3⟩
  · refine ⟨fun h => ?_, fun h => absurd i1 h.1⟩
    by_cases c : g < R + 1
    · exact absurd h (i2 g hg c)
    · exact absurd h (big g (by omega))
  · refine ⟨fun h => ⟨by omega, ?_⟩, fun h => ?_⟩
    · by_cases c : wdN rest (R + 1).toNat < g
      · by_cases c2 : g < R + 1
        · exact absurd h (i3 g c c2)
        · exact absurd h (big g (by omega))
      · omega
    · have := Int.mul_le_mul h.2 h.2 hg i1
      omega
/-- the two axes that are not r: a and the third -/
theorem ns_two {F : Int → Int} {a r : Int} (ha : 0 ≤ a ∧ a < 3) (hr : 0 ≤ r ∧ r < 3) (hn : r ≠ a) : ((if 0 = r then 0 else F 0) + (if 1 = r then 0 else F 1)) + (if 2 = r then 0 else F 2) = F a + F (3 - a - r) := by
  rcases (by omega : a = 0 ∨ a = 1 ∨ a = 2) with rfl | rfl | rfl <;> rcases (by omega : r = 0 ∨ r = 1 ∨ r = 2) with rfl | rfl | rfl <;> first | (exfalso; omega) | (simp; done) | (simp; omega)
theorem ns_one {F F' : Int → Int} {r : Int} (h : ∀ x, 0 ≤ x → x < 3 → x ≠ r → F x = F' x) : ((if 0 = r then 0 else F 0) + (if 1 = r then 0 else F 1)) + (if 2 = r then 0 else F 2) = ((if 0 = r then 0 else F' 0) + (if 1 = r then 0 else F' 1)) + (if 2 = r then 0 else F' 2) :=
  s3c (fun q => h 0 (by omega) (by omega) q) (fun q => h 1 (by omega) (by omega) q) (fun q => h 2 (by omega) (by omega) q)
theorem blk_iff {τ : bxS} (hB : bx_B τ) {p q a d : Int} (hp : 0 ≤ p ∧ p < 60 ∧ τ 2 p 0 ≠ 0) (hqq : 0 ≤ q ∧ q < 60 ∧ τ 2 q 0 ≠ 0) (hq : q ≠ p) (ha : 0 ≤ a ∧ a < 3) : mt (eff (mv3 τ p a d)) p 0 q ↔ (bOk τ p q a ∧ bLo τ p q a ≤ d ∧ d ≤ bHi τ p q a) := by
  have hr := rAx_bd hB hp hqq
  have oa := em_ovl_a τ hp.1 hq a d
  have on : ∀ {x : Int}, x ≠ a → (ovl (eff (mv3 τ p a d)) p 0 q x ↔ ovl τ p 0 q x) := fun h => em_ovl_n τ hp.1 q a d h
  have e6 : eff (mv3 τ p a d) 6 = τ 6 := em_f τ p a d (by omega) (by omega) (by omega)
  unfold mt
  rw [em_rAx]
  by_cases c1 : rAx τ p q = -1
  · have el : bLo τ p q a = hLo τ q a - hHi τ p a + 1 := if_pos (Or.inl c1)
    have eh : bHi τ p q a = hHi τ q a - hLo τ p a - 1 := if_pos (Or.inl c1)
    rw [el, eh]
    have ok : bOk τ p q a ↔ ovA τ p q a := ⟨fun z => z.elim (fun z => z.2) (fun z => z.elim (fun z => absurd c1 z.1) (fun z => absurd c1 z.1)), fun z => Or.inl ⟨c1, z⟩⟩
    rw [ok]
    constructor
    · rintro (⟨-, o0, o1, o2⟩ | ⟨z, -⟩)
      · rcases (by omega : a = 0 ∨ a = 1 ∨ a = 2) with rfl | rfl | rfl
        · exact ⟨⟨Or.inl rfl, Or.inr ((on (by omega)).mp o1), Or.inr ((on (by omega)).mp o2)⟩, oa.mp o0⟩
        · exact ⟨⟨Or.inr ((on (by omega)).mp o0), Or.inl rfl, Or.inr ((on (by omega)).mp o2)⟩, oa.mp o1⟩
        · exact ⟨⟨Or.inr ((on (by omega)).mp o0), Or.inr ((on (by omega)).mp o1), Or.inl rfl⟩, oa.mp o2⟩
      · exact absurd c1 z
    · rintro ⟨⟨o0, o1, o2⟩, hd⟩
      refine Or.inl ⟨c1, ?_⟩
      rcases (by omega : a = 0 ∨ a = 1 ∨ a = 2) with rfl | rfl | rfl
      · exact ⟨oa.mpr hd, (on (by omega)).mpr (o1.resolve_left (by omega)), (on (by omega)).mpr (o2.resolve_left (by omega))⟩
      · exact ⟨(on (by omega)).mpr (o0.resolve_left (by omega)), oa.mpr hd, (on (by omega)).mpr (o2.resolve_left (by omega))⟩
      · exact ⟨(on (by omega)).mpr (o0.resolve_left (by omega)), (on (by omega)).mpr (o1.resolve_left (by omega)), oa.mpr hd⟩
  · by_cases c2 : rAx τ p q = a
    · have el : bLo τ p q a = hLo τ q a - hHi τ p a + 1 := if_pos (Or.inr c2)
      have eh : bHi τ p q a = hHi τ q a - hLo τ p a - 1 := if_pos (Or.inr c2)
      rw [el, eh]
      have en : near (eff (mv3 τ p a d)) p 0 q a ↔ near τ p 0 q a := by
        unfold near
        rw [rch_0, rch_0, e6, cgr_0, cgr_0]
        have : nsum (eff (mv3 τ p a d)) p q 0 a = nsum τ p q 0 a := by
          unfold nsum
          exact ns_one (F := fun x => gapc (eff (mv3 τ p a d)) p q 0 x * gapc (eff (mv3 τ p a d)) p q 0 x) (F' := fun x => gapc τ p q 0 x * gapc τ p q 0 x) (fun x _ _ hx => by show gapc _ p q 0 x * gapc _ p q 0 x = _; rw [gapc_0, gapc_0, em_gap_n τ hp.1 q a d hx])
        rw [this]
      constructor
      · rintro (⟨z, -⟩ | ⟨-, o, n⟩)
        · exact absurd z c1
        · rw [c2] at o n
          exact ⟨Or.inr (Or.inl ⟨c1, c2, en.mp n⟩), oa.mp o⟩
      · rintro ⟨ok, hd⟩
        refine Or.inr ⟨c1, ?_⟩
        rw [c2]
        refine ⟨oa.mpr hd, en.mpr ?_⟩
        rcases ok with z | z | z
        · exact absurd z.1 c1
        · exact z.2.2
        · exact absurd c2 z.2.1
    · have el : bLo τ p q a = τ 7 q a - τ 8 p a - rwd τ p q (3 - a - rAx τ p q) := if_neg (fun z => z.elim c1 c2)
      have eh : bHi τ p q a = τ 8 q a - τ 7 p a + rwd τ p q (3 - a - rAx τ p q) := if_neg (fun z => z.elim c1 c2)
      rw [el, eh]
      have hrr : 0 ≤ rAx τ p q ∧ rAx τ p q < 3 := by omega
      have ht : 3 - a - rAx τ p q ≠ a ∨ True := Or.inr trivial
      have h6p := bB6 hB hp
      have h6q := bB6 hB hqq
      have b7p := bB7 hB hp ha.1 ha.2
      have b7q := bB7 hB hqq ha.1 ha.2
      have htn : 3 - a - rAx τ p q ≠ a ∨ 3 - a - rAx τ p q = a := by omega
      have en : near (eff (mv3 τ p a d)) p 0 q (rAx τ p q) ↔ cgap (eff (mv3 τ p a d)) p q a * cgap (eff (mv3 τ p a d)) p q a < (τ 6 p 0 + τ 6 q 0) * (τ 6 p 0 + τ 6 q 0) - cgap τ p q (3 - a - rAx τ p q) * cgap τ p q (3 - a - rAx τ p q) := by
        unfold near
        rw [rch_0, e6, cgr_0]
        unfold nsum
        rw [ns_two (F := fun x => gapc (eff (mv3 τ p a d)) p q 0 x * gapc (eff (mv3 τ p a d)) p q 0 x) ha hrr c2]
        show gapc _ p q 0 a * gapc _ p q 0 a + gapc _ p q 0 (3 - a - rAx τ p q) * gapc _ p q 0 (3 - a - rAx τ p q) < _ ↔ _
        rw [gapc_0, gapc_0, em_gap_n τ hp.1 q a d (x := 3 - a - rAx τ p q) (by omega)]
        omega
      have hg0 : 0 ≤ cgap (eff (mv3 τ p a d)) p q a := by unfold cgap; omega
      have hsq : 0 ≤ cgap τ p q (3 - a - rAx τ p q) * cgap τ p q (3 - a - rAx τ p q) := Int.mul_nonneg (by unfold cgap; omega) (by unfold cgap; omega)
      have wi := wd_iff (rest := (τ 6 p 0 + τ 6 q 0) * (τ 6 p 0 + τ 6 q 0) - cgap τ p q (3 - a - rAx τ p q) * cgap τ p q (3 - a - rAx τ p q)) (R := τ 6 p 0 + τ 6 q 0) (g := cgap (eff (mv3 τ p a d)) p q a) (by omega) (by omega) hg0
      have er : wd ((τ 6 p 0 + τ 6 q 0) * (τ 6 p 0 + τ 6 q 0) - cgap τ p q (3 - a - rAx τ p q) * cgap τ p q (3 - a - rAx τ p q)) (τ 6 p 0 + τ 6 q 0) = rwd τ p q (3 - a - rAx τ p q) := rfl
      rw [er] at wi
      have hw := rwd_bd hB hp hqq (3 - a - rAx τ p q)
      have eg := em_gap_a τ hp.1 hq a d
      have or_ := on (x := rAx τ p q) c2
      constructor
      · rintro (⟨z, -⟩ | ⟨-, o, n⟩)
        · exact absurd z c1
        · have w2 := wi.mp (en.mp n)
          refine ⟨Or.inr (Or.inr ⟨c1, c2, w2.1, or_.mp o⟩), ?_⟩
          omega
      · rintro ⟨ok, hd⟩
        rcases ok with z | z | z
        · exact absurd z.1 c1
        · exact absurd z.2.1 c2
        · refine Or.inr ⟨c1, or_.mpr z.2.2.2, en.mpr (wi.mpr ⟨z.2.2.1, ?_⟩)⟩
          omega
