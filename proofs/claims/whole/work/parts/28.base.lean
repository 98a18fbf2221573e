/-! frames: what a stretch of a run leaves as it was; the two systems' state, told apart from its cells -/
def zL (h : XH) (a : Nat) (i : Int) : Int := (gL h a i.toNat).toInt
theorem gL_A (h : XH) (a : Nat) (i : Int) : gL h a i.toNat = iL (zL h a i) := (iL_of _).1
theorem zL_in (h : XH) (a : Nat) (i : Int) : -9223372036854775808 ≤ zL h a i ∧ zL h a i ≤ 9223372036854775807 := (iL_of _).2
theorem zL_s {h : XH} {a : Nat} {i k z : Int} (hi : 0 ≤ i) (hk : 0 ≤ k) (hz : -9223372036854775808 ≤ z ∧ z ≤ 9223372036854775807) : zL (sL h a i.toNat (iL z)) a k = if k = i then z else zL h a k := by
  unfold zL
  show (if a = a ∧ k.toNat = i.toNat then iL z else h.2.1 a k.toNat).toInt = _
  by_cases e : k = i
  · rw [if_pos ⟨rfl, by rw [e]⟩, if_pos e, iL_t hz]
  · rw [if_neg (by omega), if_neg e]; rfl
theorem zA_sL {h : XH} {a j : Nat} {v : Int64} {a' : Nat} (i : Int) : zA (sL h a j v) a' i = zA h a' i := rfl
theorem zF_sL {h : XH} {a j : Nat} {v : Int64} {a' j' : Nat} : zF (sL h a j v) a' j' = zF h a' j' := rfl
theorem zL_sI {h : XH} {a j : Nat} {v : Int32} {a' : Nat} (i : Int) : zL (sI h a j v) a' i = zL h a' i := rfl
/-- all but the places of P is as it was -/
def Fr (P : Nat → Nat → Bool) (h h' : XH) : Prop := h'.2.2 = h.2.2 ∧ ∀ a j, P a j = false → gI h' a j = gI h a j ∧ gL h' a j = gL h a j
section FR
variable {P Q : Nat → Nat → Bool} {h h' h'' : XH}
theorem Fr.refl (P : Nat → Nat → Bool) (h : XH) : Fr P h h := ⟨rfl, fun _ _ _ => ⟨rfl, rfl⟩⟩
theorem Fr.trans (a : Fr P h h') (b : Fr P h' h'') : Fr P h h'' := ⟨b.1.trans a.1, fun x j q => ⟨(b.2 x j q).1.trans (a.2 x j q).1, (b.2 x j q).2.trans (a.2 x j q).2⟩⟩
theorem Fr.mono (a : Fr P h h') (hq : ∀ x j, Q x j = false → P x j = false) : Fr Q h h' := ⟨a.1, fun x j q => a.2 x j (hq x j q)⟩
theorem Fr.sI (f : Fr P h h') (a j : Nat) (v : Int32) (hp : P a j = true) : Fr P h (sI h' a j v) := by
  refine ⟨f.1, fun x k q => ⟨?_, (f.2 x k q).2⟩⟩
  show (if x = a ∧ k = j then v else h'.1 x k) = _
  rw [if_neg (by rintro ⟨rfl, rfl⟩; rw [hp] at q; cases q)]
  exact (f.2 x k q).1
theorem Fr.sL (f : Fr P h h') (a j : Nat) (v : Int64) (hp : P a j = true) : Fr P h (sL h' a j v) := by
  refine ⟨f.1, fun x k q => ⟨(f.2 x k q).1, ?_⟩⟩
  show (if x = a ∧ k = j then v else h'.2.1 x k) = _
  rw [if_neg (by rintro ⟨rfl, rfl⟩; rw [hp] at q; cases q)]
  exact (f.2 x k q).2
theorem Fr.K (f : Fr P h h') (a : Nat) : gK h' a = gK h a := by unfold gK; rw [show h'.2.2.2.1 = h.2.2.2.1 by rw [f.1]]
theorem Fr.Z (f : Fr P h h') (a : Nat) : gZ h' a = gZ h a := by unfold gZ; rw [show h'.2.2.2.1 = h.2.2.2.1 by rw [f.1]]
theorem Fr.N (f : Fr P h h') : gN h' = gN h := by unfold gN; rw [f.1]
theorem Fr.U (f : Fr P h h') : gU h' = gU h := by unfold gU; rw [f.1]
theorem Fr.R (f : Fr P h h') (a j : Nat) : gR h' a j = gR h a j := by unfold gR; rw [f.1]
theorem Fr.lay (f : Fr P h h') (hL : Lay h) : Lay h' := by
  unfold Lay at hL ⊢
  simp only [f.K, f.Z, f.N, f.R]
  exact hL
theorem Fr.F (f : Fr P h h') {a j : Nat} (hp : P a j = false) : zF h' a j = zF h a j := by unfold zF; rw [(f.2 a j hp).1]
theorem Fr.A (f : Fr P h h') {a : Nat} {i : Int} (hp : P a i.toNat = false) : zA h' a i = zA h a i := by unfold zA; rw [(f.2 a _ hp).1]
theorem Fr.L (f : Fr P h h') {a : Nat} {i : Int} (hp : P a i.toNat = false) : zL h' a i = zL h a i := by unfold zL; rw [(f.2 a _ hp).2]
theorem Fr.rb {rb : Nat} (f : Fr P h h') (hB : RB h rb) : RB h' rb := by
  unfold RB at hB ⊢
  simp only [f.R]
  exact hB
end FR
/-- whole rows -/
def pA (l : List Nat) : Nat → Nat → Bool := fun a _ => l.contains a
/-- fields -/
def pF (l : List (Nat × Nat)) : Nat → Nat → Bool := fun a j => l.contains (a, j)
def pO (p q : Nat → Nat → Bool) : Nat → Nat → Bool := fun a j => p a j || q a j
section FO
variable {d : Nat} {h : XH} {K : Int32 → XH → Prop} {KU : XH → Prop} {rb : Nat}
/-- a sum over 0 .. n - 1 -/
def sumTo (f : Int → Int) : Nat → Int
  | 0 => 0
  | n + 1 => sumTo f n + f n
theorem sumTo_congr {f g : Int → Int} {n : Nat} (hfg : ∀ i : Int, 0 ≤ i → i < n → f i = g i) : sumTo f n = sumTo g n := by
  induction n with
  | zero => rfl
  | succ n ih =>
    show sumTo f n + f n = sumTo g n + g n
    rw [ih (fun i a b => hfg i a (by omega)), hfg n (by omega) (by omega)]
/-- the greatest of 0 and f 0 .. f (n - 1) -/
def maxTo (f : Int → Int) : Nat → Int
  | 0 => 0
  | n + 1 => max (maxTo f n) (f n)
theorem maxTo_congr {f g : Int → Int} {n : Nat} (hfg : ∀ i : Int, 0 ≤ i → i < n → f i = g i) : maxTo f n = maxTo g n := by
  induction n with
  | zero => rfl
  | succ n ih =>
    show max (maxTo f n) (f n) = max (maxTo g n) (g n)
    rw [ih (fun i a b => hfg i a (by omega)), hfg n (by omega) (by omega)]
theorem maxTo_in {f : Int → Int} {b : Int} {n : Nat} (hb : 0 ≤ b) (hf : ∀ i : Int, 0 ≤ i → i < n → f i ≤ b) : 0 ≤ maxTo f n ∧ maxTo f n ≤ b := by
  induction n with
  | zero => exact ⟨Int.le_refl _, hb⟩
  | succ n ih =>
    have e := ih (fun i a b => hf i a (by omega))
    have e2 := hf n (by omega) (by omega)
    show 0 ≤ max (maxTo f n) (f n) ∧ max (maxTo f n) (f n) ≤ b
    omega
end FO
