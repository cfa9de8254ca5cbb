/-! the reference's own way of meeting is the class's -/
def wf (ε : bxS) (p : Int) : Prop := (∀ a, 0 ≤ a → a < 3 → ε 7 p a ≤ ε 8 p a) ∧ (-1 ≤ ε 5 p 0 ∧ ε 5 p 0 ≤ 2) ∧ 0 ≤ ε 6 p 0 ∧ (ε 5 p 0 = -1 → ε 6 p 0 = 0) ∧ (ε 5 p 0 ≠ -1 → ∀ a, 0 ≤ a → a < 3 → a ≠ ε 5 p 0 → ε 7 p a = ε 8 p a)
theorem wf_eff {τ : bxS} (hB : bx_B τ) {p : Int} (hp : 0 ≤ p ∧ p < 60 ∧ τ 2 p 0 ≠ 0) : wf (eff τ) p := by
  refine ⟨fun a h0 h1 => ?_, bB5 hB hp, (bB6 hB hp).1, bB_box hB hp, fun ht a h0 h1 hn => ?_⟩
  · have := bB7 hB hp h0 h1
    rw [eff_7, eff_8]; omega
  · have := bB_tube hB hp ht h0 h1 hn
    rw [eff_7, eff_8]; omega
theorem mE_a {ε : bxS} {p a : Int} (h : acr ε p a) (hi gr : Int) : mE ε p a hi gr = if hi = 0 then ε 7 p a else ε 8 p a := by unfold mE; rw [zI_t h]
theorem mE_n {ε : bxS} {p a : Int} (h : ¬ acr ε p a) (hi gr : Int) : mE ε p a hi gr = if hi = 0 then ε 7 p a - gr else ε 8 p a + gr := by unfold mE; rw [zI_f h]
theorem acr_own (ε : bxS) (p : Int) : ¬ acr ε p (ε 5 p 0) := fun h => h.2 rfl
theorem acr_box {ε : bxS} {p a : Int} (h : ε 5 p 0 = -1) : ¬ acr ε p a := fun q => by have := q.1; omega
theorem acr_tube {ε : bxS} {p a : Int} (hw : wf ε p) (h : ε 5 p 0 ≠ -1) (hn : a ≠ ε 5 p 0) : acr ε p a := ⟨by have := hw.2.1; omega, fun q => hn q.symm⟩
theorem mE_a0 {ε : bxS} {p a : Int} (h : acr ε p a) (gr : Int) : mE ε p a 0 gr = ε 7 p a := by rw [mE_a h, if_pos rfl]
theorem mE_n0 {ε : bxS} {p a : Int} (h : ¬ acr ε p a) (gr : Int) : mE ε p a 0 gr = ε 7 p a - gr := by rw [mE_n h, if_pos rfl]
theorem mE_n1 {ε : bxS} {p a : Int} (h : ¬ acr ε p a) (gr : Int) : mE ε p a 1 gr = ε 8 p a + gr := by rw [mE_n h, if_neg (by decide)]
theorem hLo_o (ε : bxS) (p : Int) : hLo ε p (ε 5 p 0) = ε 7 p (ε 5 p 0) := by unfold hLo; rw [if_pos rfl]
theorem hHi_o (ε : bxS) (p : Int) : hHi ε p (ε 5 p 0) = ε 8 p (ε 5 p 0) := by unfold hHi; rw [if_pos rfl]
theorem hLo_b {ε : bxS} {p : Int} (hw : wf ε p) (h : ε 5 p 0 = -1) (a : Int) : hLo ε p a = ε 7 p a := by
  unfold hLo
  rw [hw.2.2.2.1 h]
  split <;> omega
theorem hHi_b {ε : bxS} {p : Int} (hw : wf ε p) (h : ε 5 p 0 = -1) (a : Int) : hHi ε p a = ε 8 p a := by
  unfold hHi
  rw [hw.2.2.2.1 h]
  split <;> omega
theorem mH_lo {ε : bxS} {p : Int} (hw : wf ε p) (a m : Int) : mH ε p a 0 m = hLo ε p a - m := by
  unfold mH hLo
  by_cases ht : ε 5 p 0 = -1
  · rw [zI_f (acr_box ht), hw.2.2.2.1 ht, if_pos rfl]
    split <;> omega
  · by_cases ha : a = ε 5 p 0
    · subst ha
      rw [zI_f (acr_own ε p), if_pos rfl, if_pos rfl]
    · rw [zI_t (acr_tube hw ht ha), if_pos rfl, if_neg ha]
      omega
theorem mH_hi {ε : bxS} {p : Int} (hw : wf ε p) (a m : Int) : mH ε p a 1 m = hHi ε p a + m := by
  unfold mH hHi
  by_cases ht : ε 5 p 0 = -1
  · rw [zI_f (acr_box ht), hw.2.2.2.1 ht, if_neg (by decide)]
    split <;> omega
  · by_cases ha : a = ε 5 p 0
    · subst ha
      rw [zI_f (acr_own ε p), if_neg (by decide), if_pos rfl]
    · rw [zI_t (acr_tube hw ht ha), if_neg (by decide), if_neg ha]
      omega
theorem hmt_ovl {ε : bxS} {p q : Int} (hp : wf ε p) (hq : wf ε q) (m a : Int) : hmt ε p m q a ↔ ovl ε p m q a := by
  unfold hmt ovl
  rw [mH_lo hp, mH_hi hp, mH_lo hq, mH_hi hq]
  omega
theorem s3c {ax F0 F1 F2 G0 G1 G2 : Int} (h0 : 0 ≠ ax → F0 = G0) (h1 : 1 ≠ ax → F1 = G1) (h2 : 2 ≠ ax → F2 = G2) : ((if 0 = ax then 0 else F0) + (if 1 = ax then 0 else F1)) + (if 2 = ax then 0 else F2) = ((if 0 = ax then 0 else G0) + (if 1 = ax then 0 else G1)) + (if 2 = ax then 0 else G2) := by
  have e0 : (if 0 = ax then 0 else F0) = (if 0 = ax then 0 else G0) := by split; rfl; exact h0 (by assumption)
  have e1 : (if 1 = ax then 0 else F1) = (if 1 = ax then 0 else G1) := by split; rfl; exact h1 (by assumption)
  have e2 : (if 2 = ax then 0 else F2) = (if 2 = ax then 0 else G2) := by split; rfl; exact h2 (by assumption)
  rw [e0, e1, e2]
theorem tg_tb {ε : bxS} {p q : Int} (hp : wf ε p) (hq : wf ε q) (ht : ε 5 p 0 ≠ -1) (hb : ε 5 q 0 = -1) {a : Int} (h0 : 0 ≤ a) (h1 : a < 3) (hn : a ≠ ε 5 p 0) : tgap ε p q 0 a = gapc ε p q 0 a := by
  have e := hp.2.2.2.2 ht a h0 h1 hn
  have e2 := hq.1 a h0 h1
  unfold tgap gapc cgap offv
  rw [mE_a0 (acr_tube hp ht hn), mE_n0 (acr_box hb), mE_n1 (acr_box hb)]
  split <;> (try split) <;> omega
theorem tg_bt {ε : bxS} {p q : Int} (hp : wf ε p) (hq : wf ε q) (hb : ε 5 p 0 = -1) (ht : ε 5 q 0 ≠ -1) {m : Int} (hm : 0 ≤ m) {a : Int} (h0 : 0 ≤ a) (h1 : a < 3) (hn : a ≠ ε 5 q 0) : tgap ε q p m a = gapc ε p q m a := by
  have e := hq.2.2.2.2 ht a h0 h1 hn
  have e2 := hp.1 a h0 h1
  unfold tgap gapc cgap offv
  rw [mE_a0 (acr_tube hq ht hn), mE_n0 (acr_box hb), mE_n1 (acr_box hb)]
  split <;> (try split) <;> omega
theorem mt_bb {ε : bxS} {p q : Int} (hp : wf ε p) (hq : wf ε q) (m : Int) (h : (ε 5 p 0 = -1 ∧ ε 5 q 0 = -1) ∨ (ε 5 p 0 ≠ -1 ∧ ε 5 q 0 ≠ -1 ∧ ε 5 p 0 ≠ ε 5 q 0)) : (hmt ε p m q 0 ∧ hmt ε p m q 1 ∧ hmt ε p m q 2) ↔ mt ε p m q := by
  have hr : rAx ε p q = -1 := by
    unfold rAx
    rcases h with ⟨h1, h2⟩ | ⟨h1, h2, h3⟩
    · rw [if_pos h1, h2]
    · rw [if_neg h1, if_neg (fun q => q.elim h2 (fun q => h3 q.symm))]
  rw [hmt_ovl hp hq, hmt_ovl hp hq, hmt_ovl hp hq]
  unfold mt
  rw [hr]
  constructor
  · exact fun h => Or.inl ⟨rfl, h⟩
  · rintro (⟨-, h⟩ | ⟨h, -⟩)
    · exact h
    · exact absurd rfl h
theorem mt_tb {ε : bxS} {p q : Int} (hp : wf ε p) (hq : wf ε q) (m : Int) (ht : ε 5 p 0 ≠ -1) (hb : ε 5 q 0 = -1) : tbx ε p m q 0 (ε 5 p 0) ↔ mt ε p m q := by
  have hr : rAx ε p q = ε 5 p 0 := by
    unfold rAx
    rw [if_neg ht, if_pos (Or.inl hb)]
  have hc : cgr ε p m = 0 := by unfold cgr; rw [if_neg ht]
  have hs : tsum ε p q 0 (ε 5 p 0) = nsum ε p q 0 (ε 5 p 0) := by
    unfold tsum nsum
    exact s3c (fun h => by rw [tg_tb hp hq ht hb (by omega) (by omega) h]) (fun h => by rw [tg_tb hp hq ht hb (by omega) (by omega) h]) (fun h => by rw [tg_tb hp hq ht hb (by omega) (by omega) h])
  have ho : (mE ε p (ε 5 p 0) 0 m < mE ε q (ε 5 p 0) 1 0 ∧ mE ε q (ε 5 p 0) 0 0 < mE ε p (ε 5 p 0) 1 m) ↔ ovl ε p m q (ε 5 p 0) := by
    unfold ovl
    rw [mE_n0 (acr_own ε p), mE_n1 (acr_box hb), mE_n0 (acr_box hb), mE_n1 (acr_own ε p), hLo_o, hHi_o, hLo_b hq hb, hHi_b hq hb]
    omega
  have hrc : rch ε p m q = ε 6 p 0 + m := by
    unfold rch
    rw [hc, hq.2.2.2.1 hb]
    omega
  unfold mt tbx
  rw [hr, ho, hs]
  unfold near
  rw [hc, hrc]
  constructor
  · exact fun h => Or.inr ⟨ht, h.1, h.2⟩
  · rintro (⟨h, -⟩ | ⟨-, h⟩)
    · exact absurd h ht
    · exact h
theorem mt_bt {ε : bxS} {p q : Int} (hp : wf ε p) (hq : wf ε q) {m : Int} (hm : 0 ≤ m) (hb : ε 5 p 0 = -1) (ht : ε 5 q 0 ≠ -1) : tbx ε q 0 p m (ε 5 q 0) ↔ mt ε p m q := by
  have hr : rAx ε p q = ε 5 q 0 := by
    unfold rAx
    rw [if_pos hb]
  have hc : cgr ε p m = m := by unfold cgr; rw [if_pos hb]
  have hs : tsum ε q p m (ε 5 q 0) = nsum ε p q m (ε 5 q 0) := by
    unfold tsum nsum
    exact s3c (fun h => by rw [tg_bt hp hq hb ht hm (by omega) (by omega) h]) (fun h => by rw [tg_bt hp hq hb ht hm (by omega) (by omega) h]) (fun h => by rw [tg_bt hp hq hb ht hm (by omega) (by omega) h])
  have ho : (mE ε q (ε 5 q 0) 0 0 < mE ε p (ε 5 q 0) 1 m ∧ mE ε p (ε 5 q 0) 0 m < mE ε q (ε 5 q 0) 1 0) ↔ ovl ε p m q (ε 5 q 0) := by
    unfold ovl
    rw [mE_n0 (acr_own ε q), mE_n1 (acr_box hb), mE_n0 (acr_box hb), mE_n1 (acr_own ε q), hLo_o, hHi_o, hLo_b hp hb, hHi_b hp hb]
    omega
  have hrc : rch ε p m q = ε 6 q 0 + 0 := by
    unfold rch
    rw [hc, hp.2.2.2.1 hb]
    omega
  unfold mt tbx
  rw [hr, ho, hs]
  unfold near
  rw [hc, hrc]
  constructor
  · exact fun h => Or.inr ⟨ht, h.1, h.2⟩
  · rintro (⟨h, -⟩ | ⟨-, h⟩)
    · exact absurd h ht
    · exact h
theorem sq_abs {x y : Int} (h : x = y ∨ x = -y) : x * x = y * y := by
  rcases h with rfl | rfl
  · rfl
  · rw [Int.neg_mul_neg]
theorem mt_tt {ε : bxS} {p q : Int} (hp : wf ε p) (hq : wf ε q) (m : Int) (ht : ε 5 p 0 ≠ -1) (he : ε 5 q 0 = ε 5 p 0) : ttx ε p m q (ε 5 p 0) ↔ mt ε p m q := by
  have ht2 : ε 5 q 0 ≠ -1 := by rw [he]; exact ht
  have hr : rAx ε p q = ε 5 p 0 := by
    unfold rAx
    rw [if_neg ht, if_pos (Or.inr he)]
  have hc : cgr ε p m = 0 := by unfold cgr; rw [if_neg ht]
  have tg : ∀ a, 0 ≤ a → a < 3 → a ≠ ε 5 p 0 → (mE ε p a 0 0 - mE ε q a 0 0) * (mE ε p a 0 0 - mE ε q a 0 0) = gapc ε p q 0 a * gapc ε p q 0 a := by
    intro a h0 h1 hn
    have e := hp.2.2.2.2 ht a h0 h1 hn
    have e2 := hq.2.2.2.2 ht2 a h0 h1 (by rw [he]; exact hn)
    rw [mE_a (acr_tube hp ht hn), mE_a (acr_tube hq ht2 (by rw [he]; exact hn)), if_pos rfl, if_pos rfl]
    refine sq_abs ?_
    unfold gapc cgap
    omega
  have hs : dsum ε p q (ε 5 p 0) = nsum ε p q 0 (ε 5 p 0) := by
    unfold dsum nsum
    exact s3c (fun h => tg 0 (by omega) (by omega) h) (fun h => tg 1 (by omega) (by omega) h) (fun h => tg 2 (by omega) (by omega) h)
  have ho : (mE ε p (ε 5 p 0) 0 m < mE ε q (ε 5 p 0) 1 0 ∧ mE ε q (ε 5 p 0) 0 0 < mE ε p (ε 5 p 0) 1 m) ↔ ovl ε p m q (ε 5 p 0) := by
    have ha : ¬ acr ε q (ε 5 p 0) := by rw [← he]; exact acr_own ε q
    unfold ovl hLo hHi
    rw [mE_n (acr_own ε p), mE_n ha, mE_n ha, mE_n (acr_own ε p), if_pos rfl, if_pos rfl, if_pos rfl, if_pos he.symm, if_pos he.symm, if_pos rfl]
    simp only [if_neg (show ¬ (1 : Int) = 0 by decide)]
    omega
  have hrc : rch ε p m q = ε 6 p 0 + m + ε 6 q 0 := by
    unfold rch
    rw [hc]
    omega
  unfold mt ttx
  rw [hr, ho, hs]
  unfold near
  rw [hc, hrc]
  constructor
  · exact fun h => Or.inr ⟨ht, h.1, h.2⟩
  · rintro (⟨h, -⟩ | ⟨-, h⟩)
    · exact absurd h ht
    · exact h
/-- at no growth it does not matter which is the first -/
theorem cgap_sym (ε : bxS) (p q a : Int) : cgap ε p q a = cgap ε q p a := by unfold cgap; omega
theorem ovl_sym (ε : bxS) (p q a : Int) : ovl ε p 0 q a ↔ ovl ε q 0 p a := by unfold ovl; omega
theorem rAx_sym (ε : bxS) (p q : Int) : rAx ε p q = rAx ε q p := by
  unfold rAx
  split <;> (try split) <;> (try split) <;> omega
theorem near_sym (ε : bxS) (p q ax : Int) : near ε p 0 q ax ↔ near ε q 0 p ax := by
  have h1 : cgr ε p 0 = 0 := by unfold cgr; split <;> rfl
  have h2 : cgr ε q 0 = 0 := by unfold cgr; split <;> rfl
  have h3 : nsum ε p q 0 ax = nsum ε q p 0 ax := by unfold nsum gapc; rw [cgap_sym ε p q 0, cgap_sym ε p q 1, cgap_sym ε p q 2]
  have h4 : rch ε p 0 q = rch ε q 0 p := by unfold rch; rw [h1, h2]; omega
  unfold near
  rw [h1, h2, h3, h4]
theorem mt_sym (ε : bxS) (p q : Int) : mt ε p 0 q ↔ mt ε q 0 p := by
  unfold mt
  rw [rAx_sym ε p q, ovl_sym ε p q 0, ovl_sym ε p q 1, ovl_sym ε p q 2, ovl_sym ε p q (rAx ε q p), near_sym]
