/-! what a book's text says -/
abbrev PR (α : Type) : Type := Sum (Int × Int) α
def bnd {α β : Type} (r : PR α) (f : α → PR β) : PR β := match r with
  | .inl e => .inl e
  | .inr x => f x
/-- a row of pairs: how many, keys, values, where the text goes on -/
abbrev XR : Type := Int × (Int → Int) × (Int → Int) × Int
def gWord (τ : XT) (w : List Int) (k : Int) : PR Int := if τ.is k w = true then .inr (τ.e k) else .inl (1, τ.a k)
def gNum (τ : XT) (lo hi k : Int) : PR (Int × Int) := if τ.k k = 2 then (if lo ≤ τ.v k ∧ τ.v k ≤ hi then .inr (τ.v k, τ.e k) else .inl (4, τ.a k)) else .inl (1, τ.a k)
def gTold (τ : XT) (w : List Int) (lo hi k : Int) : PR (Int × Int) := bnd (gWord τ w k) (gNum τ lo hi)
def gTurn (τ : XT) (w : List Int) (k : Int) : PR (Int × Int) := bnd (gWord τ w k) (fun j => if τ.k (τ.sk j) = 2 then (if τ.v (τ.sk j) ≤ 4 then .inr (τ.sv j, τ.e (τ.sk j)) else .inl (4, τ.a j)) else .inl (1, τ.a (τ.sk j)))
def gPairs (τ : XT) (mk mv : Int) (ri : Bool) : Nat → Int → Int → Int → Int → (Int → Int) → (Int → Int) → PR XR
  | 0, _, _, _, k, _, _ => .inl (5, τ.a k)
  | n + 1, i, lk, lv, k, ks, vs => bnd (gNum τ (lk + 1) mk k) (fun a => if i = 4 then .inl (5, τ.a k) else bnd (gNum τ (if ri = true then lv else 0) mv a.2) (fun b => if τ.k b.2 = 44 then gPairs τ mk mv ri n (i + 1) a.1 b.1 (τ.e b.2) (up1 ks i a.1) (up1 vs i b.1) else .inr (i + 1, up1 ks i a.1, up1 vs i b.1, b.2)))
def gName (τ : XT) (f : Int → Int) (n mx k : Int) : PR Int := if τ.nm k = true then (if nmI f n (τ.w k) = -1 then (if mx ≤ n then .inl (5, τ.a k) else .inr (τ.e k)) else .inl (3, τ.a k)) else .inl (1, τ.a k)
def z0 : Int → Int := fun _ => 0
def addG (B : XB) (z : Int) (r1 r2 : XR) : XB := (fun i => if i = 0 then B.g + 1 else B.1 i, fun i => if i = 0 then up1 B.nm B.g z else if i = 2 then up1 B.sn B.g r1.1 else if i = 3 then up1 B.gn B.g r2.1 else B.2.1 i, fun i => if i = 0 then (fun j => if j = B.g then r1.2.1 else B.sk j) else if i = 1 then (fun j => if j = B.g then r1.2.2.1 else B.sv j) else if i = 2 then (fun j => if j = B.g then r2.2.1 else B.gk j) else if i = 3 then (fun j => if j = B.g then r2.2.2.1 else B.gv j) else B.2.2 i)
def addT (B : XB) (z e o p : Int) : XB := (fun i => if i = 1 then B.t + 1 else B.1 i, fun i => if i = 1 then up1 B.tn B.t z else if i = 4 then up1 B.ea B.t e else if i = 5 then up1 B.on B.t o else if i = 6 then up1 B.pr B.t p else B.2.1 i, B.2.2)
def setR (B : XB) (w wt cl tp dr : Int) : XB := (fun i => if i = 2 then w else if i = 3 then wt else if i = 4 then cl else if i = 5 then tp else if i = 6 then dr else B.1 i, B.2.1, B.2.2)
def bk0 : XB := (fun i => if i = 2 then 4 else if i = 3 then 100 else if i = 4 then 100 else if i = 5 then 100 else 0, fun _ _ => 0, fun _ _ _ => 0)
def gGround (τ : XT) (B : XB) (k : Int) : PR (XB × Int) := bnd (gName τ B.nm B.g 8 k) (fun k1 => bnd (gWord τ sW_sinks k1) (fun k2 => bnd (gPairs τ 999 300 true 5 0 (-1) 0 k2 z0 z0) (fun r1 => bnd (gWord τ sW_grips r1.2.2.2) (fun k3 => bnd (gPairs τ 90 150 false 5 0 (-1) 0 k3 z0 z0) (fun r2 => .inr (addG B (τ.w k) r1 r2, r2.2.2.2))))))
def gRover (τ : XT) (B : XB) (k : Int) : PR (XB × Int) := bnd (gTold τ sW_wheels 2 6 k) (fun a => bnd (gTold τ sW_weight 1 999 a.2) (fun b => bnd (gTold τ sW_clear 1 300 b.2) (fun c => bnd (gTold τ sW_tip 0 300 c.2) (fun d => bnd (gTold τ sW_drag 0 99 d.2) (fun e => .inr (setR B a.1 b.1 c.1 d.1 e.1, e.2))))))
def gTry (τ : XT) (B : XB) (k : Int) : PR (XB × Int) := bnd (gName τ B.tn B.t 6 k) (fun k1 => bnd (gTurn τ sW_each k1) (fun a => bnd (gTurn τ sW_one a.2) (fun b => bnd (gTold τ sW_cost 1 99 b.2) (fun c => .inr (addT B (τ.w k) a.1 b.1 c.1, c.2)))))
def gLine (τ : XT) (s : XB × Bool) (k : Int) : PR ((XB × Bool) × Int) := if τ.is k sW_ground = true then bnd (gGround τ s.1 (τ.e k)) (fun r => .inr ((r.1, s.2), r.2)) else if τ.is k sW_rover = true then (if s.2 = true then .inl (3, τ.a k) else bnd (gRover τ s.1 (τ.e k)) (fun r => .inr ((r.1, true), r.2))) else if τ.is k sW_try = true then bnd (gTry τ s.1 (τ.e k)) (fun r => .inr ((r.1, s.2), r.2)) else .inl (1, τ.a k)
def gLines (τ : XT) : Nat → XB × Bool → Int → PR XB
  | 0, _, k => .inl (1, τ.a k)
  | n + 1, s, k => bnd (gLine τ s k) (fun r => if τ.k r.2 = 0 then .inr r.1.1 else if τ.k r.2 = 59 then gLines τ n r.1 (τ.e r.2) else .inl (1, τ.a r.2))
section GR
variable {τ : XT} {k : Int} {B : XB}
theorem bnd_l {α β : Type} {r : PR α} {f : α → PR β} {e : Int × Int} (h : r = .inl e) : bnd r f = .inl e := by rw [h]; rfl
theorem bnd_r {α β : Type} {r : PR α} {f : α → PR β} {x : α} (h : r = .inr x) : bnd r f = f x := by rw [h]; rfl
theorem bnd_ok {α β : Type} {r : PR α} {f : α → PR β} {y : β} (h : bnd r f = .inr y) : ∃ x, r = .inr x ∧ f x = .inr y := by
  cases r with
  | inl e => exact absurd h (by intro q; cases q)
  | inr x => exact ⟨x, rfl, h⟩
theorem gWord_ok {w : List Int} {j : Int} (ho : τ.ok) (hk : 0 ≤ k ∧ k ≤ τ.2) (h : gWord τ w k = .inr j) : k ≤ j ∧ j ≤ τ.2 := by
  have a := XT.a_at ho hk.1 hk.2
  have e := XT.e_at ho hk.1 hk.2
  unfold gWord at h
  split at h
  · cases h; omega
  · cases h
theorem gNum_ok {lo hi : Int} {r : Int × Int} (ho : τ.ok) (hk : 0 ≤ k ∧ k ≤ τ.2) (h : gNum τ lo hi k = .inr r) : (lo ≤ r.1 ∧ r.1 ≤ hi) ∧ k ≤ r.2 ∧ r.2 ≤ τ.2 := by
  have a := XT.a_at ho hk.1 hk.2
  have e := XT.e_at ho hk.1 hk.2
  unfold gNum at h
  split at h
  · split at h
    · rename_i q; cases h; exact ⟨q, by show k ≤ τ.e k; omega, by show τ.e k ≤ τ.2; omega⟩
    · cases h
  · cases h
theorem gTold_ok {w : List Int} {lo hi : Int} {r : Int × Int} (ho : τ.ok) (hk : 0 ≤ k ∧ k ≤ τ.2) (h : gTold τ w lo hi k = .inr r) : (lo ≤ r.1 ∧ r.1 ≤ hi) ∧ k ≤ r.2 ∧ r.2 ≤ τ.2 := by
  obtain ⟨j, a, b⟩ := bnd_ok h
  have p := gWord_ok ho hk a
  have q := gNum_ok ho (by omega) b
  exact ⟨q.1, by omega, q.2.2⟩
theorem gTurn_ok {w : List Int} {r : Int × Int} (ho : τ.ok) (hk : 0 ≤ k ∧ k ≤ τ.2) (h : gTurn τ w k = .inr r) : (-4 ≤ r.1 ∧ r.1 ≤ 4) ∧ k ≤ r.2 ∧ r.2 ≤ τ.2 := by
  obtain ⟨j, a, b⟩ := bnd_ok h
  have p := gWord_ok ho hk a
  have ea := XT.a_at ho (k := j) (by omega) (by omega)
  have ee := XT.e_at ho (k := j) (by omega) (by omega)
  have js : j ≤ τ.sk j ∧ τ.sk j ≤ τ.2 := by unfold XT.sk; split <;> omega
  have ea2 := XT.a_at ho (k := τ.sk j) (by omega) (by omega)
  have ee2 := XT.e_at ho (k := τ.sk j) (by omega) (by omega)
  split at b
  · rename_i z
    have vi := XT.v_at ho (k := τ.sk j) (by omega) (by omega) z
    split at b
    · cases b
      refine ⟨?_, by show k ≤ τ.e (τ.sk j); omega, by show τ.e (τ.sk j) ≤ τ.2; omega⟩
      show -4 ≤ τ.sv j ∧ τ.sv j ≤ 4
      unfold XT.sv
      split <;> omega
    · cases b
  · cases b
theorem gName_ok {f : Int → Int} {n mx j : Int} (ho : τ.ok) (hk : 0 ≤ k ∧ k ≤ τ.2) (h : gName τ f n mx k = .inr j) : (k ≤ j ∧ j ≤ τ.2) ∧ n < mx ∧ τ.nm k = true ∧ j = τ.e k ∧ nmI f n (τ.w k) = -1 := by
  have a := XT.a_at ho hk.1 hk.2
  have e := XT.e_at ho hk.1 hk.2
  unfold gName at h
  split at h
  · rename_i z
    split at h
    · rename_i y
      split at h
      · cases h
      · rename_i x; cases h; exact ⟨by omega, by omega, z, rfl, y⟩
    · cases h
  · cases h
theorem nm_word (h : τ.nm k = true) : τ.k k = 1 := by
  unfold XT.nm at h
  simp only [Bool.and_eq_true, decide_eq_true_iff] at h
  exact h.1
/-- pairs that were read -/
def PrOk (mk mv : Int) (n : Int) (ks vs : Int → Int) : Prop := (∀ i, 0 ≤ i → i < n → 0 ≤ ks i ∧ ks i ≤ mk ∧ 0 ≤ vs i ∧ vs i ≤ mv) ∧ ∀ i, 0 ≤ i → i + 1 < n → ks i < ks (i + 1)
theorem gPairs_ok {mk mv : Int} {ri : Bool} (ho : τ.ok) : ∀ (n : Nat) (i lk lv k : Int) (ks vs : Int → Int) (r : XR), (0 ≤ i ∧ i ≤ 4) → (0 ≤ k ∧ k ≤ τ.2) → -1 ≤ lk → 0 ≤ lv → PrOk mk mv i ks vs → (0 < i → lk = ks (i - 1)) → gPairs τ mk mv ri n i lk lv k ks vs = .inr r → (i + 1 ≤ r.1 ∧ r.1 ≤ 4) ∧ PrOk mk mv r.1 r.2.1 r.2.2.1 ∧ k ≤ r.2.2.2 ∧ r.2.2.2 ≤ τ.2 := by
  intro n
  induction n with
  | zero => intro i lk lv k ks vs r _ _ _ _ _ _ h; cases h
  | succ n ih =>
    intro i lk lv k ks vs r hi hk hlk hlv hP hl h
    unfold gPairs at h
    obtain ⟨a, ha, h⟩ := bnd_ok h
    have na := gNum_ok ho hk ha
    split at h
    · cases h
    · rename_i i4
      obtain ⟨b, hb, h⟩ := bnd_ok h
      have nb := gNum_ok ho (by omega) hb
      have b0 : 0 ≤ b.1 := by
        have := nb.1.1
        split at this <;> omega
      have P1 : PrOk mk mv (i + 1) (up1 ks i a.1) (up1 vs i b.1) := by
        constructor
        · intro j j0 j1
          by_cases z : j = i
          · rw [z, up1_at, up1_at]; omega
          · rw [up1_ne z, up1_ne z]; exact hP.1 j j0 (by omega)
        · intro j j0 j1
          by_cases z : j + 1 = i
          · rw [z, up1_at, up1_ne (by omega)]
            have := hl (by omega)
            rw [show j = i - 1 by omega]
            omega
          · rw [up1_ne (show ¬ j = i by omega), up1_ne z]; exact hP.2 j j0 (by omega)
      have ea := XT.a_at ho (k := b.2) (by omega) (by omega)
      have ee := XT.e_at ho (k := b.2) (by omega) (by omega)
      split at h
      · have q := ih (i + 1) a.1 b.1 (τ.e b.2) _ _ r (by omega) (by omega) (by omega) b0 P1 (fun _ => by rw [show i + 1 - 1 = i by omega, up1_at]) h
        exact ⟨by omega, q.2.1, by omega, q.2.2.2⟩
      · cases h
        exact ⟨⟨by show i + 1 ≤ i + 1; omega, by show i + 1 ≤ 4; omega⟩, P1, by show k ≤ b.2; omega, by show b.2 ≤ τ.2; omega⟩
theorem pairs_cv {mk mv : Int} {r : XR} (hm : mk ≤ 999 ∧ mv ≤ 300) (h : (0 + 1 ≤ r.1 ∧ r.1 ≤ 4) ∧ PrOk mk mv r.1 r.2.1 r.2.2.1) : CvOK r.2.1 r.2.2.1 r.1 := ⟨by omega, by omega, fun i a b => by have := h.2.1 i a b; omega, h.2.2⟩
theorem pr0 (mk mv : Int) : PrOk mk mv 0 z0 z0 := ⟨fun i a b => by omega, fun i a b => by omega⟩
theorem addG_ok {z : Int} {r1 r2 : XR} (ho : B.ok) (hg : B.g < 8) (h1 : (0 + 1 ≤ r1.1 ∧ r1.1 ≤ 4) ∧ PrOk 999 300 r1.1 r1.2.1 r1.2.2.1) (h2 : (0 + 1 ≤ r2.1 ∧ r2.1 ≤ 4) ∧ PrOk 90 150 r2.1 r2.2.1 r2.2.2.1) : (addG B z r1 r2).ok := by
  obtain ⟨o, a, b, c, d⟩ := ho
  refine ⟨?_, fun i i0 i1 => ?_, fun i i0 i1 => ?_, fun i i0 i1 => ?_, d⟩
  · show 0 ≤ B.g + 1 ∧ B.g + 1 ≤ 8 ∧ 0 ≤ B.t ∧ B.t ≤ 6 ∧ 2 ≤ B.w ∧ B.w ≤ 6 ∧ 1 ≤ B.wt ∧ B.wt ≤ 999 ∧ 1 ≤ B.cl ∧ B.cl ≤ 300 ∧ 0 ≤ B.tp ∧ B.tp ≤ 300 ∧ 0 ≤ B.dr ∧ B.dr ≤ 99
    omega
  · have i1' : i < B.g + 1 := i1
    show CvOK (if i = B.g then r1.2.1 else B.sk i) (if i = B.g then r1.2.2.1 else B.sv i) (up1 B.sn B.g r1.1 i)
    by_cases q : i = B.g
    · rw [if_pos q, if_pos q, q, up1_at]; exact pairs_cv (by decide) h1
    · rw [if_neg q, if_neg q, up1_ne q]; exact a i i0 (by omega)
  · have i1' : i < B.g + 1 := i1
    show CvOK (if i = B.g then r2.2.1 else B.gk i) (if i = B.g then r2.2.2.1 else B.gv i) (up1 B.gn B.g r2.1 i)
    by_cases q : i = B.g
    · rw [if_pos q, if_pos q, q, up1_at]; exact pairs_cv (by decide) h2
    · rw [if_neg q, if_neg q, up1_ne q]; exact b i i0 (by omega)
  · have i1' : i < B.g + 1 := i1
    show ∀ k, 0 ≤ k → k < up1 B.gn B.g r2.1 i → (if i = B.g then r2.2.2.1 else B.gv i) k ≤ 150
    by_cases q : i = B.g
    · rw [if_pos q, q, up1_at]; exact fun k k0 k1 => (h2.2.1 k k0 k1).2.2.2
    · rw [if_neg q, up1_ne q]; exact c i i0 (by omega)
theorem addT_ok {z e o p : Int} (ho : B.ok) (ht : B.t < 6) (he : -4 ≤ e ∧ e ≤ 4) (h1 : -4 ≤ o ∧ o ≤ 4) (hp : 1 ≤ p ∧ p ≤ 99) : (addT B z e o p).ok := by
  obtain ⟨o', a, b, c, d⟩ := ho
  refine ⟨?_, a, b, c, fun i i0 i1 => ?_⟩
  · show 0 ≤ B.g ∧ B.g ≤ 8 ∧ 0 ≤ B.t + 1 ∧ B.t + 1 ≤ 6 ∧ 2 ≤ B.w ∧ B.w ≤ 6 ∧ 1 ≤ B.wt ∧ B.wt ≤ 999 ∧ 1 ≤ B.cl ∧ B.cl ≤ 300 ∧ 0 ≤ B.tp ∧ B.tp ≤ 300 ∧ 0 ≤ B.dr ∧ B.dr ≤ 99
    omega
  · have i1' : i < B.t + 1 := i1
    show -4 ≤ up1 B.ea B.t e i ∧ up1 B.ea B.t e i ≤ 4 ∧ -4 ≤ up1 B.on B.t o i ∧ up1 B.on B.t o i ≤ 4 ∧ 1 ≤ up1 B.pr B.t p i ∧ up1 B.pr B.t p i ≤ 99
    by_cases q : i = B.t
    · rw [q, up1_at, up1_at, up1_at]; omega
    · rw [up1_ne q, up1_ne q, up1_ne q]; exact d i i0 (by omega)
theorem setR_ok {w wt cl tp dr : Int} (ho : B.ok) (h1 : 2 ≤ w ∧ w ≤ 6) (h2 : 1 ≤ wt ∧ wt ≤ 999) (h3 : 1 ≤ cl ∧ cl ≤ 300) (h4 : 0 ≤ tp ∧ tp ≤ 300) (h5 : 0 ≤ dr ∧ dr ≤ 99) : (setR B w wt cl tp dr).ok := by
  obtain ⟨o, a, b, c, d⟩ := ho
  refine ⟨?_, a, b, c, d⟩
  show 0 ≤ B.g ∧ B.g ≤ 8 ∧ 0 ≤ B.t ∧ B.t ≤ 6 ∧ 2 ≤ w ∧ w ≤ 6 ∧ 1 ≤ wt ∧ wt ≤ 999 ∧ 1 ≤ cl ∧ cl ≤ 300 ∧ 0 ≤ tp ∧ tp ≤ 300 ∧ 0 ≤ dr ∧ dr ≤ 99
  omega
theorem bk0_ok : bk0.ok := by
  refine ⟨by decide, fun i a b => ?_, fun i a b => ?_, fun i a b => ?_, fun i a b => ?_⟩ <;> exact absurd b (by show ¬ i < 0; omega)
theorem gGround_ok {r : XB × Int} (ho : τ.ok) (hk : 0 ≤ k ∧ k ≤ τ.2) (hB : B.ok) (h : gGround τ B k = .inr r) : r.1.ok ∧ k ≤ r.2 ∧ r.2 ≤ τ.2 := by
  unfold gGround at h
  obtain ⟨k1, a1, h⟩ := bnd_ok h
  obtain ⟨k2, a2, h⟩ := bnd_ok h
  obtain ⟨r1, a3, h⟩ := bnd_ok h
  obtain ⟨k3, a4, h⟩ := bnd_ok h
  obtain ⟨r2, a5, h⟩ := bnd_ok h
  have p1 := gName_ok ho hk a1
  have p2 := gWord_ok ho (by omega) a2
  have p3 := gPairs_ok ho 5 0 (-1) 0 k2 z0 z0 r1 (by omega) (by omega) (by omega) (by omega) (pr0 _ _) (fun q => by omega) a3
  have p4 := gWord_ok ho (by omega) a4
  have p5 := gPairs_ok ho 5 0 (-1) 0 k3 z0 z0 r2 (by omega) (by omega) (by omega) (by omega) (pr0 _ _) (fun q => by omega) a5
  cases h
  exact ⟨addG_ok hB p1.2.1 ⟨p3.1, p3.2.1⟩ ⟨p5.1, p5.2.1⟩, by show k ≤ r2.2.2.2; omega, by show r2.2.2.2 ≤ τ.2; omega⟩
theorem gRover_ok {r : XB × Int} (ho : τ.ok) (hk : 0 ≤ k ∧ k ≤ τ.2) (hB : B.ok) (h : gRover τ B k = .inr r) : r.1.ok ∧ k ≤ r.2 ∧ r.2 ≤ τ.2 := by
  unfold gRover at h
  obtain ⟨a, a1, h⟩ := bnd_ok h
  obtain ⟨b, a2, h⟩ := bnd_ok h
  obtain ⟨c, a3, h⟩ := bnd_ok h
  obtain ⟨d, a4, h⟩ := bnd_ok h
  obtain ⟨e, a5, h⟩ := bnd_ok h
  have p1 := gTold_ok ho hk a1
  have p2 := gTold_ok ho (by omega) a2
  have p3 := gTold_ok ho (by omega) a3
  have p4 := gTold_ok ho (by omega) a4
  have p5 := gTold_ok ho (by omega) a5
  cases h
  exact ⟨setR_ok hB p1.1 p2.1 p3.1 p4.1 p5.1, by show k ≤ e.2; omega, by show e.2 ≤ τ.2; omega⟩
theorem gTry_ok {r : XB × Int} (ho : τ.ok) (hk : 0 ≤ k ∧ k ≤ τ.2) (hB : B.ok) (h : gTry τ B k = .inr r) : r.1.ok ∧ k ≤ r.2 ∧ r.2 ≤ τ.2 := by
  unfold gTry at h
  obtain ⟨k1, a1, h⟩ := bnd_ok h
  obtain ⟨a, a2, h⟩ := bnd_ok h
  obtain ⟨b, a3, h⟩ := bnd_ok h
  obtain ⟨c, a4, h⟩ := bnd_ok h
  have p1 := gName_ok ho hk a1
  have p2 := gTurn_ok ho (by omega) a2
  have p3 := gTurn_ok ho (by omega) a3
  have p4 := gTold_ok ho (by omega) a4
  cases h
  exact ⟨addT_ok hB p1.2.1 p2.1 p3.1 p4.1, by show k ≤ c.2; omega, by show c.2 ≤ τ.2; omega⟩
theorem gLine_ok {s : XB × Bool} {r : (XB × Bool) × Int} (ho : τ.ok) (hk : 0 ≤ k ∧ k ≤ τ.2) (hB : s.1.ok) (h : gLine τ s k = .inr r) : r.1.1.ok ∧ k ≤ r.2 ∧ r.2 ≤ τ.2 := by
  have ea := XT.a_at ho hk.1 hk.2
  have ee := XT.e_at ho hk.1 hk.2
  unfold gLine at h
  split at h
  · obtain ⟨x, a, h⟩ := bnd_ok h
    have p := gGround_ok ho (by omega) hB a
    cases h
    exact ⟨p.1, by show k ≤ x.2; omega, p.2.2⟩
  · split at h
    · split at h
      · cases h
      · obtain ⟨x, a, h⟩ := bnd_ok h
        have p := gRover_ok ho (by omega) hB a
        cases h
        exact ⟨p.1, by show k ≤ x.2; omega, p.2.2⟩
    · split at h
      · obtain ⟨x, a, h⟩ := bnd_ok h
        have p := gTry_ok ho (by omega) hB a
        cases h
        exact ⟨p.1, by show k ≤ x.2; omega, p.2.2⟩
      · cases h
theorem gLines_ok (ho : τ.ok) : ∀ (n : Nat) (s : XB × Bool) (k : Int) (r : XB), (0 ≤ k ∧ k ≤ τ.2) → s.1.ok → gLines τ n s k = .inr r → r.ok := by
  intro n
  induction n with
  | zero => intro s k r _ _ h; cases h
  | succ n ih =>
    intro s k r hk hB h
    unfold gLines at h
    obtain ⟨x, a, h⟩ := bnd_ok h
    have p := gLine_ok ho hk hB a
    have ea := XT.a_at ho (k := x.2) (by omega) (by omega)
    have ee := XT.e_at ho (k := x.2) (by omega) (by omega)
    split at h
    · cases h; exact p.1
    · split at h
      · exact ih _ _ _ (by omega) p.1 h
      · cases h
end GR
