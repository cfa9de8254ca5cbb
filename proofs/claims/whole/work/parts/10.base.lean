/-! ints by their mathematical values -/
def iI (z : Int) : Int32 := Int32.ofInt z
def iR (z : Int) : Prop := -2147483648 ≤ z ∧ z < 2147483648
theorem iI_add (a b : Int) : iI a + iI b = iI (a + b) := (Int32.ofInt_add a b).symm
theorem iI_sub (a b : Int) : iI a - iI b = iI (a - b) := (Int32.ofInt_sub a b).symm
theorem iI_mul (a b : Int) : iI a * iI b = iI (a * b) := (Int32.ofInt_mul a b).symm
theorem iI_neg (a : Int) : -iI a = iI (-a) := (Int32.ofInt_neg a).symm
theorem iI_toInt {a : Int} (h : iR a) : (iI a).toInt = a := Int32.toInt_ofInt_of_le (by have := h.1; omega) (by have := h.2; omega)
theorem iI_lt {a b : Int} (ha : iR a) (hb : iR b) : iI a < iI b ↔ a < b := by rw [Int32.lt_iff_toInt_lt, iI_toInt ha, iI_toInt hb]
theorem iI_le {a b : Int} (ha : iR a) (hb : iR b) : iI a ≤ iI b ↔ a ≤ b := by rw [Int32.le_iff_toInt_le, iI_toInt ha, iI_toInt hb]
theorem iI_eq {a b : Int} (ha : iR a) (hb : iR b) : iI a = iI b ↔ a = b := by rw [← Int32.toInt_inj, iI_toInt ha, iI_toInt hb]
theorem iI_self (x : Int32) : iI x.toInt = x := Int32.ofInt_toInt x
theorem iR_self (x : Int32) : iR x.toInt := ⟨by have := x.le_toInt; omega, by have := x.toInt_lt; omega⟩
theorem iR_0 : iR 0 := ⟨by omega, by omega⟩
theorem iI_0 : iI 0 = 0 := rfl
theorem iI_nat (n : Nat) : Int32.ofNat n = iI n := rfl
theorem iI_clamp {i : Int} (h0 : 0 ≤ i) (h1 : i < 2147483648) : (iI i).toNatClampNeg = i.toNat := by
  have h := iI_toInt (a := i) ⟨by omega, h1⟩
  show (iI i).toInt.toNat = i.toNat
  rw [h]
theorem iI_in {i : Int} {n : Nat} (h0 : 0 ≤ i) (h1 : i < n) (hn : n < 2147483648) : vp_in (iI i) n := by
  rw [vp_in_iff, iI_toInt ⟨by omega, by omega⟩]
  exact ⟨h0, h1⟩
/-- 1 where it holds, else 0 -/
noncomputable def zB (P : Prop) : Int := @ite Int P (Classical.propDecidable P) 1 0
theorem zB_t {P : Prop} (h : P) : zB P = 1 := @if_pos P (Classical.propDecidable P) h Int 1 0
theorem zB_f {P : Prop} (h : ¬ P) : zB P = 0 := @if_neg P (Classical.propDecidable P) h Int 1 0
theorem zB_01 (P : Prop) : zB P = 0 ∨ zB P = 1 := by
  by_cases h : P
  · exact Or.inr (zB_t h)
  · exact Or.inl (zB_f h)
theorem zB_iff {P P' : Prop} (h : P ↔ P') : zB P = zB P' := by rw [propext h]
section LI
variable {p : Program} {l : Launch} {e : Env} {R : Room} {s : State} {m : MethodId} {args : Array Value} {below : List Frame} {meth : Method} {c : Code} {H : Heap} {locs : List Loc} {cells slots : Nat} {Q : State → Prop}
variable {cc : ByteArray} {pc : Nat} {ls : Array Slot} {rest : List Value}
theorem W.mono {Q' : State → Prop} {g : JFrame} (h : ∀ t, Q t → Q' t) (k : W p l e R s m args below meth c H locs cells slots Q g) : W p l e R s m args below meth c H locs cells slots Q' g := fun T hT X => (k T hT X).elim fun t ht => ⟨t, ht.1, h t ht.2⟩
theorem li_iconst (hx : p.tables.exec = Jvm.exec) (hb : c.code = cc) {n : Int} (hdg : decode cc pc = .ok (.iconst n, 1))
    (k : W p l e R s m args below meth c H locs cells slots Q (F0 m (pc + 1) ls (.int (iI n) :: rest))) : W p l e R s m args below meth c H locs cells slots Q (F0 m pc ls rest) := lv_iconst hx hb hdg rfl k
theorem li_bipush (hx : p.tables.exec = Jvm.exec) (hb : c.code = cc) {n : Int} (hdg : decode cc pc = .ok (.bipush n, 2)) (hv : (Int8.ofInt n).toInt32 = iI n)
    (k : W p l e R s m args below meth c H locs cells slots Q (F0 m (pc + 2) ls (.int (iI n) :: rest))) : W p l e R s m args below meth c H locs cells slots Q (F0 m pc ls rest) := lv_bipush hx hb hdg hv k
theorem li_sipush (hx : p.tables.exec = Jvm.exec) (hb : c.code = cc) {n : Int} (hdg : decode cc pc = .ok (.sipush n, 3)) (hv : (Int16.ofInt n).toInt32 = iI n)
    (k : W p l e R s m args below meth c H locs cells slots Q (F0 m (pc + 3) ls (.int (iI n) :: rest))) : W p l e R s m args below meth c H locs cells slots Q (F0 m pc ls rest) := lv_sipush hx hb hdg hv k
theorem li_iadd (hx : p.tables.exec = Jvm.exec) (hb : c.code = cc) {a b : Int} (hdg : decode cc pc = .ok (.iadd, 1))
    (k : W p l e R s m args below meth c H locs cells slots Q (F0 m (pc + 1) ls (.int (iI (a + b)) :: rest))) : W p l e R s m args below meth c H locs cells slots Q (F0 m pc ls (.int (iI b) :: .int (iI a) :: rest)) := lv_iadd hx hb hdg (by rw [iI_add]; exact k)
theorem li_isub (hx : p.tables.exec = Jvm.exec) (hb : c.code = cc) {a b : Int} (hdg : decode cc pc = .ok (.isub, 1))
    (k : W p l e R s m args below meth c H locs cells slots Q (F0 m (pc + 1) ls (.int (iI (a - b)) :: rest))) : W p l e R s m args below meth c H locs cells slots Q (F0 m pc ls (.int (iI b) :: .int (iI a) :: rest)) := lv_isub hx hb hdg (by rw [iI_sub]; exact k)
theorem li_imul (hx : p.tables.exec = Jvm.exec) (hb : c.code = cc) {a b : Int} (hdg : decode cc pc = .ok (.imul, 1))
    (k : W p l e R s m args below meth c H locs cells slots Q (F0 m (pc + 1) ls (.int (iI (a * b)) :: rest))) : W p l e R s m args below meth c H locs cells slots Q (F0 m pc ls (.int (iI b) :: .int (iI a) :: rest)) := lv_imul hx hb hdg (by rw [iI_mul]; exact k)
theorem li_ineg (hx : p.tables.exec = Jvm.exec) (hb : c.code = cc) {a : Int} (hdg : decode cc pc = .ok (.ineg, 1))
    (k : W p l e R s m args below meth c H locs cells slots Q (F0 m (pc + 1) ls (.int (iI (-a)) :: rest))) : W p l e R s m args below meth c H locs cells slots Q (F0 m pc ls (.int (iI a) :: rest)) := lv_ineg hx hb hdg (by rw [iI_neg]; exact k)
theorem li_iinc (hx : p.tables.exec = Jvm.exec) (hb : c.code = cc) {i nL k0 : Nat} {n z : Int} {lv lv' : List (Nat × Value)} (hdg : decode cc pc = .ok (.iinc i n, 3)) (h : lv_has ls nL lv) (hk : lv[k0]? = some (i, .int (iI z))) (hn : i < nL) (hl : (i, Value.int (iI (z + n))) :: lv.filter (fun q => !(q.1 == i) && !(q.1 + 1 == i && q.2.category == 2)) = lv')
    (kk : ∀ ls' : Array Slot, lv_has ls' nL lv' → W p l e R s m args below meth c H locs cells slots Q (F0 m (pc + 3) ls' rest)) : W p l e R s m args below meth c H locs cells slots Q (F0 m pc ls rest) := lv_iinc hx hb hdg h hk (iI_add z n) hn hl kk
theorem li_icmp_eq (hx : p.tables.exec = Jvm.exec) (hb : c.code = cc) {a b : Int} (ha : iR a) (hb2 : iR b) {off : Int} {tgt : Nat} (hdg : decode cc pc = .ok (.if_icmp .eq off, 3)) (ht : (pc : Int) + off = (tgt : Int))
    (kt : a = b → W p l e R s m args below meth c H locs cells slots Q (F0 m tgt ls rest)) (kf : ¬ (a = b) → W p l e R s m args below meth c H locs cells slots Q (F0 m (pc + 3) ls rest)) : W p l e R s m args below meth c H locs cells slots Q (F0 m pc ls (.int (iI b) :: .int (iI a) :: rest)) := lv_icmp_eq hx hb hdg ht (fun h => kt ((iI_eq ha hb2).mp h)) (fun h => kf (fun q => h ((iI_eq ha hb2).mpr q)))
theorem li_if_eq (hx : p.tables.exec = Jvm.exec) (hb : c.code = cc) {a : Int} (ha : iR a) {off : Int} {tgt : Nat} (hdg : decode cc pc = .ok (.ifCond .eq off, 3)) (ht : (pc : Int) + off = (tgt : Int))
    (kt : a = 0 → W p l e R s m args below meth c H locs cells slots Q (F0 m tgt ls rest)) (kf : ¬ (a = 0) → W p l e R s m args below meth c H locs cells slots Q (F0 m (pc + 3) ls rest)) : W p l e R s m args below meth c H locs cells slots Q (F0 m pc ls (.int (iI a) :: rest)) := lv_if_eq hx hb hdg ht (fun h => kt ((iI_eq ha iR_0).mp h)) (fun h => kf (fun q => h ((iI_eq ha iR_0).mpr q)))
theorem li_icmp_ne (hx : p.tables.exec = Jvm.exec) (hb : c.code = cc) {a b : Int} (ha : iR a) (hb2 : iR b) {off : Int} {tgt : Nat} (hdg : decode cc pc = .ok (.if_icmp .ne off, 3)) (ht : (pc : Int) + off = (tgt : Int))
    (kt : ¬ a = b → W p l e R s m args below meth c H locs cells slots Q (F0 m tgt ls rest)) (kf : a = b → W p l e R s m args below meth c H locs cells slots Q (F0 m (pc + 3) ls rest)) : W p l e R s m args below meth c H locs cells slots Q (F0 m pc ls (.int (iI b) :: .int (iI a) :: rest)) := lv_icmp_ne hx hb hdg ht (fun h => kt (fun q => h ((iI_eq ha hb2).mpr q))) (fun h => kf ((iI_eq ha hb2).mp h))
theorem li_if_ne (hx : p.tables.exec = Jvm.exec) (hb : c.code = cc) {a : Int} (ha : iR a) {off : Int} {tgt : Nat} (hdg : decode cc pc = .ok (.ifCond .ne off, 3)) (ht : (pc : Int) + off = (tgt : Int))
    (kt : ¬ a = 0 → W p l e R s m args below meth c H locs cells slots Q (F0 m tgt ls rest)) (kf : a = 0 → W p l e R s m args below meth c H locs cells slots Q (F0 m (pc + 3) ls rest)) : W p l e R s m args below meth c H locs cells slots Q (F0 m pc ls (.int (iI a) :: rest)) := lv_if_ne hx hb hdg ht (fun h => kt (fun q => h ((iI_eq ha iR_0).mpr q))) (fun h => kf ((iI_eq ha iR_0).mp h))
theorem li_icmp_lt (hx : p.tables.exec = Jvm.exec) (hb : c.code = cc) {a b : Int} (ha : iR a) (hb2 : iR b) {off : Int} {tgt : Nat} (hdg : decode cc pc = .ok (.if_icmp .lt off, 3)) (ht : (pc : Int) + off = (tgt : Int))
    (kt : a < b → W p l e R s m args below meth c H locs cells slots Q (F0 m tgt ls rest)) (kf : ¬ (a < b) → W p l e R s m args below meth c H locs cells slots Q (F0 m (pc + 3) ls rest)) : W p l e R s m args below meth c H locs cells slots Q (F0 m pc ls (.int (iI b) :: .int (iI a) :: rest)) := lv_icmp_lt hx hb hdg ht (fun h => kt ((iI_lt ha hb2).mp h)) (fun h => kf (fun q => h ((iI_lt ha hb2).mpr q)))
theorem li_if_lt (hx : p.tables.exec = Jvm.exec) (hb : c.code = cc) {a : Int} (ha : iR a) {off : Int} {tgt : Nat} (hdg : decode cc pc = .ok (.ifCond .lt off, 3)) (ht : (pc : Int) + off = (tgt : Int))
    (kt : a < 0 → W p l e R s m args below meth c H locs cells slots Q (F0 m tgt ls rest)) (kf : ¬ (a < 0) → W p l e R s m args below meth c H locs cells slots Q (F0 m (pc + 3) ls rest)) : W p l e R s m args below meth c H locs cells slots Q (F0 m pc ls (.int (iI a) :: rest)) := lv_if_lt hx hb hdg ht (fun h => kt ((iI_lt ha iR_0).mp h)) (fun h => kf (fun q => h ((iI_lt ha iR_0).mpr q)))
theorem li_icmp_ge (hx : p.tables.exec = Jvm.exec) (hb : c.code = cc) {a b : Int} (ha : iR a) (hb2 : iR b) {off : Int} {tgt : Nat} (hdg : decode cc pc = .ok (.if_icmp .ge off, 3)) (ht : (pc : Int) + off = (tgt : Int))
    (kt : b ≤ a → W p l e R s m args below meth c H locs cells slots Q (F0 m tgt ls rest)) (kf : ¬ (b ≤ a) → W p l e R s m args below meth c H locs cells slots Q (F0 m (pc + 3) ls rest)) : W p l e R s m args below meth c H locs cells slots Q (F0 m pc ls (.int (iI b) :: .int (iI a) :: rest)) := lv_icmp_ge hx hb hdg ht (fun h => kt ((iI_le hb2 ha).mp h)) (fun h => kf (fun q => h ((iI_le hb2 ha).mpr q)))
theorem li_if_ge (hx : p.tables.exec = Jvm.exec) (hb : c.code = cc) {a : Int} (ha : iR a) {off : Int} {tgt : Nat} (hdg : decode cc pc = .ok (.ifCond .ge off, 3)) (ht : (pc : Int) + off = (tgt : Int))
    (kt : 0 ≤ a → W p l e R s m args below meth c H locs cells slots Q (F0 m tgt ls rest)) (kf : ¬ (0 ≤ a) → W p l e R s m args below meth c H locs cells slots Q (F0 m (pc + 3) ls rest)) : W p l e R s m args below meth c H locs cells slots Q (F0 m pc ls (.int (iI a) :: rest)) := lv_if_ge hx hb hdg ht (fun h => kt ((iI_le iR_0 ha).mp h)) (fun h => kf (fun q => h ((iI_le iR_0 ha).mpr q)))
theorem li_icmp_gt (hx : p.tables.exec = Jvm.exec) (hb : c.code = cc) {a b : Int} (ha : iR a) (hb2 : iR b) {off : Int} {tgt : Nat} (hdg : decode cc pc = .ok (.if_icmp .gt off, 3)) (ht : (pc : Int) + off = (tgt : Int))
    (kt : b < a → W p l e R s m args below meth c H locs cells slots Q (F0 m tgt ls rest)) (kf : ¬ (b < a) → W p l e R s m args below meth c H locs cells slots Q (F0 m (pc + 3) ls rest)) : W p l e R s m args below meth c H locs cells slots Q (F0 m pc ls (.int (iI b) :: .int (iI a) :: rest)) := lv_icmp_gt hx hb hdg ht (fun h => kt ((iI_lt hb2 ha).mp h)) (fun h => kf (fun q => h ((iI_lt hb2 ha).mpr q)))
theorem li_if_gt (hx : p.tables.exec = Jvm.exec) (hb : c.code = cc) {a : Int} (ha : iR a) {off : Int} {tgt : Nat} (hdg : decode cc pc = .ok (.ifCond .gt off, 3)) (ht : (pc : Int) + off = (tgt : Int))
    (kt : 0 < a → W p l e R s m args below meth c H locs cells slots Q (F0 m tgt ls rest)) (kf : ¬ (0 < a) → W p l e R s m args below meth c H locs cells slots Q (F0 m (pc + 3) ls rest)) : W p l e R s m args below meth c H locs cells slots Q (F0 m pc ls (.int (iI a) :: rest)) := lv_if_gt hx hb hdg ht (fun h => kt ((iI_lt iR_0 ha).mp h)) (fun h => kf (fun q => h ((iI_lt iR_0 ha).mpr q)))
theorem li_icmp_le (hx : p.tables.exec = Jvm.exec) (hb : c.code = cc) {a b : Int} (ha : iR a) (hb2 : iR b) {off : Int} {tgt : Nat} (hdg : decode cc pc = .ok (.if_icmp .le off, 3)) (ht : (pc : Int) + off = (tgt : Int))
    (kt : a ≤ b → W p l e R s m args below meth c H locs cells slots Q (F0 m tgt ls rest)) (kf : ¬ (a ≤ b) → W p l e R s m args below meth c H locs cells slots Q (F0 m (pc + 3) ls rest)) : W p l e R s m args below meth c H locs cells slots Q (F0 m pc ls (.int (iI b) :: .int (iI a) :: rest)) := lv_icmp_le hx hb hdg ht (fun h => kt ((iI_le ha hb2).mp h)) (fun h => kf (fun q => h ((iI_le ha hb2).mpr q)))
theorem li_if_le (hx : p.tables.exec = Jvm.exec) (hb : c.code = cc) {a : Int} (ha : iR a) {off : Int} {tgt : Nat} (hdg : decode cc pc = .ok (.ifCond .le off, 3)) (ht : (pc : Int) + off = (tgt : Int))
    (kt : a ≤ 0 → W p l e R s m args below meth c H locs cells slots Q (F0 m tgt ls rest)) (kf : ¬ (a ≤ 0) → W p l e R s m args below meth c H locs cells slots Q (F0 m (pc + 3) ls rest)) : W p l e R s m args below meth c H locs cells slots Q (F0 m pc ls (.int (iI a) :: rest)) := lv_if_le hx hb hdg ht (fun h => kt ((iI_le ha iR_0).mp h)) (fun h => kf (fun q => h ((iI_le ha iR_0).mpr q)))
end LI
/-! the universe: all cells of the class's object, of the reference's, and the law's row of one long; by numbers of their own. 0: ClashBoxes, 1 row, 2 freeKinds, 3 names, 4 sizes, 5 blockLeast, 6 blockGreatest; 7 ClashBoxesModel, 8 isThere, 9 kinds, 10 margins, 11 axes, 12 radii, 13 lows, 14 highs, 15 areFree, 16 groups; 17 out; 20 a Part, 21 its least, 22 its greatest. What they hold: σ (class), τ (reference): 0 made, 1 left / count, 2 there, 3 kind, 4 margin, 5 axis, 6 radius, 7 least, 8 greatest, 9 free, 10 names / groups, 11 sizes, 12 blockLeast, 13 blockGreatest; 14 code, 15 movedPart, 16 movedAxis, 17 movedBy -/
abbrev bxS : Type := Nat → Int → Int → Int
abbrev bxA : Type := Nat → Int → Nat
/-- what the law's row holds, and the reference's code -/
abbrev bxW : Type := Int64 × Int
/-- classes and their slots, the arrays' classes (0 int, 1 boolean, 2 Part, 3 long), the heap's size at the law's start -/
abbrev bxG : Type := va_G × (Nat → ClassId) × Nat
def bx_T (g : bxG) : List (ClassId × FieldType) := [(g.2.1 0, .int), (g.2.1 1, .boolean), (g.2.1 2, .object RX0), (g.2.1 3, .long)]
def bx_ints (f : Int → Int) : (Nat → Int32) ⊕ (Nat → Int64) ⊕ (Nat → UInt32) ⊕ (Nat → UInt64) ⊕ (Nat → Option Nat) := .inl (fun j => iI (f j))
def bx_E (g : bxG) (ad : bxA) (σ τ : bxS) (w : bxW) (kd : Nat) (k : Int) : va_E := match kd with
  | 0 => .inr (1, [.ref (ad 1 0), .ref (ad 2 0), .int (iI (σ 0 0 0)), .int (iI (σ 1 0 0)), .ref (ad 3 0), .ref (ad 4 0), .ref (ad 5 0), .ref (ad 6 0)])
  | 1 => .inl (g.2.1 2, 60, .inr (.inr (.inr (.inr (fun j => if σ 2 j 0 = 0 then none else some (ad 20 j))))))
  | 2 => .inl (g.2.1 1, 64, .inl (fun j => iI (σ 9 j 0)))
  | 3 => .inl (g.2.1 0, 60, .inl (fun j => iI (σ 10 j 0)))
  | 4 => .inl (g.2.1 0, 60, .inl (fun j => iI (σ 11 j 0)))
  | 5 => .inl (g.2.1 0, 60, .inl (fun j => iI (σ 12 j 0)))
  | 6 => .inl (g.2.1 0, 60, .inl (fun j => iI (σ 13 j 0)))
  | 7 => .inr (2, [.int (iI w.2), .int (iI (τ 0 0 0)), .int (iI (τ 1 0 0)), .ref (ad 8 0), .ref (ad 9 0), .ref (ad 10 0), .ref (ad 11 0), .ref (ad 12 0), .ref (ad 13 0), .ref (ad 14 0), .ref (ad 15 0), .ref (ad 16 0), .int (iI (τ 15 0 0)), .int (iI (τ 16 0 0)), .int (iI (τ 17 0 0))])
  | 8 => .inl (g.2.1 1, 60, .inl (fun j => iI (τ 2 j 0)))
  | 9 => .inl (g.2.1 0, 60, .inl (fun j => iI (τ 3 j 0)))
  | 10 => .inl (g.2.1 0, 60, .inl (fun j => iI (τ 4 j 0)))
  | 11 => .inl (g.2.1 0, 60, .inl (fun j => iI (τ 5 j 0)))
  | 12 => .inl (g.2.1 0, 60, .inl (fun j => iI (τ 6 j 0)))
  | 13 => .inl (g.2.1 0, 180, .inl (fun j => iI (τ 7 ((j : Int) / 3) ((j : Int) % 3))))
  | 14 => .inl (g.2.1 0, 180, .inl (fun j => iI (τ 8 ((j : Int) / 3) ((j : Int) % 3))))
  | 15 => .inl (g.2.1 1, 64, .inl (fun j => iI (τ 9 j 0)))
  | 16 => .inl (g.2.1 0, 60, .inl (fun j => iI (τ 10 j 0)))
  | 17 => .inl (g.2.1 3, 1, .inr (.inl (fun _ => w.1)))
  | 20 => .inr (0, [.int (iI (σ 3 k 0)), .int (iI (σ 5 k 0)), .int (iI (σ 6 k 0)), .ref (ad 21 k), .ref (ad 22 k), .int (iI (σ 4 k 0))])
  | 21 => .inl (g.2.1 0, 3, .inl (fun j => iI (σ 7 k j)))
  | _ => .inl (g.2.1 0, 3, .inl (fun j => iI (σ 8 k j)))
/-- which cells are there -/
def bx_L (σ : bxS) (kd : Nat) (k : Int) : Prop := (kd < 18 ∧ k = 0) ∨ (20 ≤ kd ∧ kd < 23 ∧ 0 ≤ k ∧ k < 60 ∧ (σ 2 k 0 ≠ 0 ∨ σ 14 k 0 ≠ 0))
def bx_U (g : bxG) (ad : bxA) (σ τ : bxS) (w : bxW) (H : Heap) : Prop :=
  (∀ kd k, bx_L σ kd k → va_at g.1 vwCl (ad kd k, bx_E g ad σ τ w kd k) H) ∧
  (∀ kd k kd' k', bx_L σ kd k → bx_L σ kd' k' → ad kd k = ad kd' k' → kd = kd' ∧ k = k') ∧ ∀ kd k, bx_L σ kd k → g.2.2 ≤ ad kd k
def bx_K (g : bxG) (U : State) : Prop := va_K g.1 vwCl (bx_T g) U
def bx_I (g : bxG) (ad : bxA) (σ τ : bxS) (w : bxW) (U : State) : Prop := bx_U g ad σ τ w U.heap ∧ bx_K g U
/-- nothing below the law's start has changed; nothing went -/
def bx_F (g : bxG) (H H1 : Heap) : Prop := H.size ≤ H1.size ∧ ∀ q : Nat, q < g.2.2 → H1[q]? = H[q]?
theorem bx_F.rf {g : bxG} {H : Heap} : bx_F g H H := ⟨Nat.le_refl _, fun _ _ => rfl⟩
theorem bx_F.tr {g : bxG} {H H1 H2 : Heap} (h : bx_F g H H1) (h2 : bx_F g H1 H2) : bx_F g H H2 := ⟨Nat.le_trans h.1 h2.1, fun q hq => (h2.2 q hq).trans (h.2 q hq)⟩
theorem bx_L0 {σ : bxS} {kd : Nat} (h : kd < 18) : bx_L σ kd 0 := Or.inl ⟨h, rfl⟩
theorem bx_Lp {σ : bxS} {kd : Nat} {k : Int} (h1 : 20 ≤ kd) (h2 : kd < 23) (h : 0 ≤ k ∧ k < 60 ∧ σ 2 k 0 ≠ 0) : bx_L σ kd k := Or.inr ⟨h1, h2, h.1, h.2.1, Or.inl h.2.2⟩
theorem bx_Ln {σ : bxS} {kd : Nat} {k : Int} (h1 : 20 ≤ kd) (h2 : kd < 23) (h : 0 ≤ k ∧ k < 60 ∧ σ 14 k 0 ≠ 0) : bx_L σ kd k := Or.inr ⟨h1, h2, h.1, h.2.1, Or.inr h.2.2⟩
theorem bx_P {g : bxG} {ad : bxA} {σ τ : bxS} {w : bxW} {H : Heap} (h : bx_U g ad σ τ w H) {kd : Nat} {k : Int} (hl : bx_L σ kd k) {E : va_E} (he : bx_E g ad σ τ w kd k = E) : va_P g.1 vwCl [(ad kd k, E)] H := by
  intro j q hq
  cases j with
  | zero => cases hq; rw [← he]; exact h.1 kd k hl
  | succ j => simp at hq
theorem bx_K.moved {g : bxG} {u U : State} (hvm : u.vm.Alike U.vm) (h : bx_K g u) : bx_K g U := va_K.moved hvm h
theorem bx_blind {g : bxG} {ad : bxA} {σ τ : bxS} {w : bxW} {As : List Value} : FrameBlind (va_Pc As (fun U => bx_I g ad σ τ w U)) := fun a U fr mk q => ⟨q.1, q.2.1, va_K.moved (u := U) (U := U.calling fr mk a) (Vm.Alike.refl U.vm) q.2.2⟩
