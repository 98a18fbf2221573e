/-! the Model solves the equations -/
section RX
variable {P : XP} {V : Int → Int → Int} {s : Int} {v v' : Int → Int}
/-- a row on its way: bounds, what is fixed, and each cell that was reached has a way not above it -/
def RowI (P : XP) (V : Int → Int → Int) (s : Int) (v : Int → Int) : Prop := (∀ c, 0 ≤ c → c < P.n → 0 ≤ v c ∧ v c ≤ 1000000000000000) ∧ (∀ c, 0 ≤ c → c < P.n → P.bd s c = true → v c = P.bv V s c) ∧
  ∀ c, 0 ≤ c → c < P.n → P.bd s c = false → v c = 1000000000000000 ∨ ∃ i, 0 ≤ i ∧ i < 4 ∧ 0 < P.tl s c i ∧ v (P.nx c i) < 1000000000000000 ∧ v (P.nx c i) + P.sc s * P.tl s c i ≤ v c
def Clo (P : XP) (s : Int) (v : Int → Int) (c : Int) : Prop := ∀ i, 0 ≤ i → i < 4 → 0 < P.tl s c i → v (P.nx c i) < 1000000000000000 → v c ≤ v (P.nx c i) + P.sc s * P.tl s c i
theorem RowI.done (hP : P.ok) (hV : Sol P V) (hs : St P s) (I : RowI P V s v) (hc : ∀ c, 0 ≤ c → c < P.n → P.bd s c = false → Clo P s v c) : ∀ c, 0 ≤ c → c < P.n → v c = V s c := by
  have o := hP.1
  have hN := XP.nice hP hs (fun s' q1 q2 => (hV s' q2).2)
  have h1 := hV s hs
  have fx : Fix P.n.toNat (P.bd s) (P.bv V s) P.nx (P.co s) v := by
    intro c a b
    by_cases q : P.bd s c = true
    · rw [if_pos q]; exact I.2.1 c a (by omega) q
    · have q' : P.bd s c = false := by simpa using q
      rw [if_neg q]
      have bc := I.1 c a (by omega)
      have cl := hc c a (by omega) q'
      have le := lowK_le (nx := P.nx) (co := P.co s) (v := v) c 4
      have ge : lowK P.nx (P.co s) v c 4 ≤ v c := by
        rcases I.2.2 c a (by omega) q' with e | ⟨i, i0, i1, i2, i3, i4⟩
        · omega
        · have := lowK_all (nx := P.nx) (co := P.co s) (v := v) c 4 i i0 (by omega) ((co_pos hP).mpr i2) i3
          have ec : P.co s c i = P.sc s * P.tl s c i := rfl
          omega
      rcases lowK_way (nx := P.nx) (co := P.co s) (v := v) c 4 with e | ⟨i, i0, i1, i2, i3, i4⟩
      · omega
      · have := cl i i0 (by omega) ((co_pos hP).mp i2) i3
        have ec : P.co s c i = P.sc s * P.tl s c i := rfl
        omega
  intro c a b
  exact Fix.uniq hN fx h1.1 (fun c a b => (I.1 c a (by omega)).1) (fun c a b => (h1.2 c a b).1) c a (by omega)
theorem RowI.step {c b : Int} (hP : P.ok) (I : RowI P V s v) (a0 : 0 ≤ c) (a1 : c < P.n) (hi : P.bd s c = false) (hb : b = lwK P.nx (P.tl s) (P.sc s) v c 4) (hv : ∀ i, 0 ≤ i → i < P.n → v' i = if i = c then b else v i) : RowI P V s v' ∧ (0 ≤ b ∧ b ≤ v c) := by
  have sp := (sc_in (s := s) hP).1
  have l := lwK_le (nx := P.nx) (tl := P.tl s) (w := P.sc s) (v := v) c 4
  have vc := I.1 c a0 a1
  have b0 : 0 ≤ b := by
    rcases lwK_way (nx := P.nx) (tl := P.tl s) (w := P.sc s) (v := v) c 4 with e | ⟨i, i0, i1, i2, i3, i4⟩
    · omega
    · have t := (hP.2.2.2.1 s c i a0 a1 i0 (by omega) i2).2
      have := I.1 _ t.1 t.2
      have := Int.mul_nonneg (show 0 ≤ P.sc s by omega) (show 0 ≤ P.tl s c i by omega)
      omega
  have le : ∀ i, 0 ≤ i → i < P.n → v' i ≤ v i := fun i i0 i1 => by
    rw [hv i i0 i1]; split
    · rename_i z; rw [z]; omega
    · omega
  refine ⟨⟨fun i i0 i1 => ?_, fun i i0 i1 q => ?_, fun i i0 i1 q => ?_⟩, by omega⟩
  · rw [hv i i0 i1]; split
    · omega
    · exact I.1 i i0 i1
  · rw [hv i i0 i1, if_neg (fun z => by rw [z, hi] at q; exact absurd q (by decide))]
    exact I.2.1 i i0 i1 q
  · by_cases z : i = c
    · subst z
      rw [hv i i0 i1, if_pos rfl]
      rcases lwK_way (nx := P.nx) (tl := P.tl s) (w := P.sc s) (v := v) i 4 with e | ⟨j, j0, j1, j2, j3, j4⟩
      · rcases I.2.2 i i0 i1 q with e2 | ⟨j, j0, j1, j2, j3, j4⟩
        · left; omega
        · right
          have t := (hP.2.2.2.1 s i j i0 i1 j0 (by omega) j2).2
          have := le _ t.1 t.2
          exact ⟨j, j0, j1, j2, by omega, by omega⟩
      · right
        have t := (hP.2.2.2.1 s i j i0 i1 j0 (by omega) j2).2
        have := le _ t.1 t.2
        exact ⟨j, j0, by omega, j2, by omega, by omega⟩
    · rw [hv i i0 i1, if_neg z]
      rcases I.2.2 i i0 i1 q with e2 | ⟨j, j0, j1, j2, j3, j4⟩
      · left; exact e2
      · right
        have t := (hP.2.2.2.1 s i j i0 i1 j0 (by omega) j2).2
        have := le _ t.1 t.2
        exact ⟨j, j0, j1, j2, by omega, by omega⟩
theorem RowI.congr (hv : ∀ i, 0 ≤ i → i < P.n → v' i = v i) (hP : P.ok) (I : RowI P V s v) : RowI P V s v' := by
  refine ⟨fun i i0 i1 => by rw [hv i i0 i1]; exact I.1 i i0 i1, fun i i0 i1 q => by rw [hv i i0 i1]; exact I.2.1 i i0 i1 q, fun i i0 i1 q => ?_⟩
  rw [hv i i0 i1]
  rcases I.2.2 i i0 i1 q with e2 | ⟨j, j0, j1, j2, j3, j4⟩
  · left; exact e2
  · right
    have t := (hP.2.2.2.1 s i j i0 i1 j0 (by omega) j2).2
    exact ⟨j, j0, j1, j2, by rw [hv _ t.1 t.2]; exact j3, by rw [hv _ t.1 t.2]; exact j4⟩
theorem lwK_clo {c : Int} (h : lwK P.nx (P.tl s) (P.sc s) v c 4 = v c) : Clo P s v c := fun i i0 i1 i2 i3 => by
  have := lwK_all (nx := P.nx) (tl := P.tl s) (w := P.sc s) (v := v) c 4 i i0 (by omega) i2 i3
  omega
end RX
theorem b2i_z (b : Bool) : iI (b2i b) = 0 ∨ iI (b2i b) = 1 := by cases b <;> decide
section SV
variable {d : Nat} {h : XH} {K : Int32 → XH → Prop} {KL64 : Int64 → XH → Prop} {KU : XH → Prop} {M : XM} {G : Int} {B : XB} {dd go : Int} {bm : Bool}
theorem vr_s {h : XH} {s c z s' c' : Int} (hs : 0 ≤ s) (hc : 0 ≤ c ∧ c < 100) (hs' : 0 ≤ s') (hc' : 0 ≤ c' ∧ c' < 100) (hz : -9223372036854775808 ≤ z ∧ z ≤ 9223372036854775807) : vr (sL h 140 (100 * s + c).toNat (iL z)) s' c' = if s' = s ∧ c' = c then z else vr h s' c' := by
  unfold vr
  rw [zL_s (by omega) (by omega) hz]
  by_cases q : s' = s ∧ c' = c
  · rw [if_pos q, if_pos (by omega)]
  · rw [if_neg q, if_neg (by omega)]
theorem CanB.st {s : Int} (hs : 0 ≤ s ∧ s < 1024) (h : CanB M s 5) : StM M s := ⟨hs, fun e a b => ⟨fun q => ((h e a (by omega)).1 q).1, fun q => (h e a (by omega)).2 q⟩⟩
theorem CanB.tel {s e k : Int} (hm : M.ok G) (hs : 0 ≤ s ∧ s < 1024) (h : CanB M s 5) (he : 0 ≤ e ∧ e < M.nd) (h0 : dg s e = 0) (hk : 0 ≤ k ∧ k < mny M e) : CanB M (tel s e k) 5 := by
  have o := hm.1
  have om := mny_in hm he
  have ki := kix_in hm he
  have t := tel_in (s := s) (e := e) (k := k) hs (by omega) h0 (by omega)
  intro i a b
  rw [t.2.2 i a (by omega)]
  by_cases q : i = e
  · rw [if_pos q, q]
    refine ⟨fun _ => ⟨by omega, fun z => ?_⟩, fun z => by omega⟩
    have := ((h e he.1 (by omega)).1 he.2).2 z
    have := ki.2.2.1
    exfalso
    have : kix M e = -1 := by omega
    exact z (ki.2.2.1.mp this)
  · rw [if_neg q]; exact h i a b
abbrev PSv : Nat → Nat → Bool := pO (pA [140, 141, 142, 150, 151, 152]) (pF [(118, 49), (118, 50), (118, 51)])
/-- the Model's tables for a land -/
def MTb (h : XH) (B : XB) (dd : Int) (M : XM) : Prop := MLs h M ∧ MNr h M ∧ MBg h B dd M
theorem MTb.fr {P : Nat → Nat → Bool} {h' : XH} (f : Fr P h h') (hp : ∀ j, P 141 j = false ∧ P 142 j = false ∧ P 151 j = false ∧ P 152 j = false) (hT : MTb h B dd M) : MTb h' B dd M :=
  ⟨hT.1.fr f (fun j => ⟨(hp j).1, (hp j).2.1⟩), hT.2.1.fr f (fun j => (hp j).2.2.2), hT.2.2.fr f (fun j => (hp j).2.2.1)⟩
theorem MLy.fr {P : Nat → Nat → Bool} {h' : XH} {s : Int} (f : Fr P h h') (hp : ∀ j, P 150 j = false) (hY : MLy h B dd M s) : MLy h' B dd M s := fun c w a b a2 b2 => by rw [f.A (hp _)]; exact hY c w a b a2 b2
/-- rows from s on hold the values -/
def Rws (h : XH) (B : XB) (dd : Int) (M : XM) (go : Int) (bm : Bool) (s : Int) : Prop := ∀ s', s ≤ s' → 0 ≤ s' → s' < 1024 → CanB M s' 5 → ∀ c, 0 ≤ c → c < M.n → vr h s' c = Vl (xp B dd M go bm) s' c
/-- what stands while the Model solves -/
def SvI (h h1 : XH) (B : XB) (dd : Int) (M : XM) (go : Int) (bm : Bool) (s : Int) : Prop := Fr PSv h h1 ∧ MTb h1 B dd M ∧ Rws h1 B dd M go bm s ∧ zF h1 118 49 = go ∧ zF h1 118 50 = b2i bm ∧ zF h1 118 51 = 1
theorem SvI.put {h1 : XH} {s c z : Int} (I : SvI h h1 B dd M go bm (s + 1)) (hn : M.n ≤ 100) (hs : 0 ≤ s) (hc : 0 ≤ c ∧ c < M.n) (hz : -9223372036854775808 ≤ z ∧ z ≤ 9223372036854775807) : SvI h (sL h1 140 (100 * s + c).toNat (iL z)) B dd M go bm (s + 1) := by
  obtain ⟨f, t, r, a, b, e⟩ := I
  have f1 : Fr (pA [140]) h1 (sL h1 140 (100 * s + c).toNat (iL z)) := (Fr.refl _ _).sL 140 _ _ (by simp [pA])
  refine ⟨f.sL 140 _ _ (by simp [pO, pA]), t.fr f1 (fun j => by simp [pA]), fun s' p0 p1 p2 p3 c' c0 c1 => ?_, a, b, e⟩
  rw [vr_s hs (by omega) p1 (by omega) hz, if_neg (by omega)]
  exact r s' p0 p1 p2 p3 c' c0 c1
theorem PSv_fr {h1 : XH} (f : Fr PSv h h1) (hQ : MBk h B) (hP : MMp h M) : MBk h1 B ∧ MMp h1 M := ⟨hQ.fr f (fun a j q => by simp [fpMB] at q; simp [pO, pA, pF]; omega), hP.fr f (fun a j p q => by simp [pO, pA, pF]; omega) (fun j p q => by simp [pO, pA, pF]; omega)⟩
theorem m_solve (hL : Lay h) (hQ : MBk h B) (ho : B.ok) (hP : MMp h M) (hm : M.ok B.g) (hdd : gI h 118 38 = iI dd) (hd : 0 ≤ dd ∧ dd < B.w) (hg : 0 ≤ go ∧ go < M.n)
    (hz : zF h 118 51 = 0 ∨ zF h 118 51 = 1) (h0 : zF h 118 51 = 1 → zF h 118 49 = go → zF h 118 50 = b2i bm → MTb h B dd M ∧ Rws h B dd M go bm 0)
    (kk : ∀ h', SvI h h' B dd M go bm 0 → KU h') : XW (d + 5) 226 0 [.ref 118, .int (iI go), .int (iI (b2i bm)), .null, .null, .null, .null, .null, .null, .null] [] h (KV KU) := by
  have o := hm.1
  have hn := M.n_in hm
  have en : M.wd * M.hg = M.n := rfl
  have ob := ho.1
  have bi := b2i_in bm
  have hX := xp_ok (go := go) (bm := bm) ho hm hd hg
  have hV := Vl_sol hX
  have eXn : (xp B dd M go bm).n = M.n := rfl
  have eXnd : (xp B dd M go bm).nd = M.nd := rfl
  generalize hXe : xp B dd M go bm = X at *
  have eXnx : X.nx = M.nx := by rw [← hXe]; rfl
  have eXtl : ∀ s, X.tl s = tlB B dd M s := fun s => by rw [← hXe]; rfl
  have eXgo : X.go = go := by rw [← hXe]; rfl
  have eXbm : X.bm = bm := by rw [← hXe]; rfl
  have eXmn : X.mn = mny M := by rw [← hXe]; rfl
  have eXnw : ∀ s c, X.nw s c = fst1 (fun e => decide (dg s e = 0) && nr M.wd M.hg (M.dc e) c) M.nd.toNat 0 := fun s c => by rw [← hXe]; rfl
  have eXst : ∀ s, StM M s → St X s := fun s q => by rw [← hXe]; exact q
  have eXlf : ∀ s, X.lft s = prodTo (fun e => if dg s e = 0 then sumTo (fun k => M.wt e (chc M e k)) (mny M e).toNat else 1) M.nd.toNat := fun s => by rw [← hXe]; rfl
  -- the pass
  have pas : ∀ (s : Int), (0 ≤ s ∧ s < 1024) → CanB M s 5 → (∀ (h1 : XH) (X4 X5 X6 X7 X8 X9 : Value), SvI h h1 B dd M go bm s → XW (d + 5) 226 47 [.ref 118, .int (iI go), .int (iI (b2i bm)), .int (iI (s - 1)), X4, X5, X6, X7, X8, X9] [] h1 (KV KU)) →
      ∀ (N : Nat), (∀ (h1 : XH) (X7 X8 X9 : Value), SvI h h1 B dd M go bm (s + 1) → MLy h1 B dd M s → RowI X (Vl X) s (vr h1 s) → sumTo (vr h1 s) M.n.toNat < N → XW (d + 5) 226 161 [.ref 118, .int (iI go), .int (iI (b2i bm)), .int (iI s), .long (iL (X.sc s)), .null, .int (iI 1), X7, X8, X9] [] h1 (KV KU)) →
      ∀ c : Nat, c ≤ M.n.toNat → ∀ (h1 : XH) (f : Int) (X8 X9 : Value), SvI h h1 B dd M go bm (s + 1) → MLy h1 B dd M s → RowI X (Vl X) s (vr h1 s) → sumTo (vr h1 s) M.n.toNat ≤ N → (f = 1 ∧ sumTo (vr h1 s) M.n.toNat < N) ∨ (f = 0 ∧ ∀ c' : Int, 0 ≤ c' → c' < c → X.bd s c' = false → Clo X s (vr h1 s) c') → XW (d + 5) 226 172 [.ref 118, .int (iI go), .int (iI (b2i bm)), .int (iI s), .long (iL (X.sc s)), .null, .int (iI f), .int (iI c), X8, X9] [] h1 (KV KU) := by
    intro s hs hcb nxt N ihN
    have hst := eXst s (CanB.st hs hcb)
    have scI := sc_in (s := s) hX
    refine upto _ ?_ ?_
    · intro h1 f X8 X9 I hY hR hN hf
      have hL := I.1.lay hL
      obtain ⟨hQ, hP⟩ := PSv_fr I.1 hQ hP
      rcases hf with ⟨rfl, hlt⟩ | ⟨rfl, hcl⟩
      · refine w_iload7 r_226_172 ?_
        refine w_aload0 r_226_174 ?_
        refine v_getI r_226_175 (Lk_118 hL) (hP.f35 hm) ?_
        refine w_aload0 r_226_178 ?_
        refine v_getI r_226_179 (Lk_118 hL) (hP.f36 hm) ?_
        refine v_imul r_226_182 ?_
        rw [en] 
        refine v_ic_ge r_226_183 (by first | exact zF_in _ _ _ | exact zA_in _ _ _ | omega) (by first | exact zF_in _ _ _ | exact zA_in _ _ _ | omega) (fun _ => ?_) (fun q => absurd q (by omega))
        refine w_goto r_226_267 ?_
        exact ihN h1 _ _ _ I hY hR hlt
      · refine w_iload7 r_226_172 ?_
        refine w_aload0 r_226_174 ?_
        refine v_getI r_226_175 (Lk_118 hL) (hP.f35 hm) ?_
        refine w_aload0 r_226_178 ?_
        refine v_getI r_226_179 (Lk_118 hL) (hP.f36 hm) ?_
        refine v_imul r_226_182 ?_
        rw [en] 
        refine v_ic_ge r_226_183 (by first | exact zF_in _ _ _ | exact zA_in _ _ _ | omega) (by first | exact zF_in _ _ _ | exact zA_in _ _ _ | omega) (fun _ => ?_) (fun q => absurd q (by omega))
        refine w_goto r_226_267 ?_
        refine w_iload6 r_226_161 ?_
        refine v_if_eq r_226_163 (by decide) (fun _ => ?_) (fun q => absurd rfl q)
        refine w_iinc3 r_226_270 rfl (iI_add _ _) ?_
        refine w_goto r_226_273 ?_
        refine nxt h1 _ _ _ _ _ _ ⟨I.1, I.2.1, fun s' p0 p1 p2 p3 c c0 c1 => ?_, I.2.2.2⟩
        by_cases z : s' = s
        · rw [z, hXe]; exact RowI.done hX hV hst hR (fun c a b q => hcl c a (by omega) q) c c0 (by omega)
        · exact I.2.2.1 s' (by omega) p1 p2 p3 c c0 c1
    · intro c hc ih h1 f X8 X9 I hY hR hN hf
      have hL := I.1.lay hL
      obtain ⟨hQ, hP⟩ := PSv_fr I.1 hQ hP
      have fb : f = 1 ∨ f = 0 := by rcases hf with q | q <;> omega
      have bdc : X.bd s c = (decide ((c : Int) = go) || !decide (X.nw s c = -1)) := by unfold XP.bd; rw [eXgo]
      by_cases q1 : (c : Int) = go
      · have bt : X.bd s c = true := by rw [bdc]; simp [q1]
        refine w_iload7 r_226_172 ?_
        refine w_aload0 r_226_174 ?_
        refine v_getI r_226_175 (Lk_118 hL) (hP.f35 hm) ?_
        refine w_aload0 r_226_178 ?_
        refine v_getI r_226_179 (Lk_118 hL) (hP.f36 hm) ?_
        refine v_imul r_226_182 ?_
        rw [en] 
        refine v_ic_ge r_226_183 (by first | exact zF_in _ _ _ | exact zA_in _ _ _ | omega) (by first | exact zF_in _ _ _ | exact zA_in _ _ _ | omega) (fun q => absurd q (by omega)) (fun _ => ?_)
        refine w_iload7 r_226_186 ?_
        refine w_iload1 r_226_188 ?_
        refine v_ic_eq r_226_189 (by first | exact zF_in _ _ _ | exact zA_in _ _ _ | omega) (by first | exact zF_in _ _ _ | exact zA_in _ _ _ | omega) (fun _ => ?_) (fun q => absurd q (by omega))
        refine w_iinc7 r_226_261 rfl (iI_add _ _) ?_
        refine w_goto r_226_264 ?_
        refine ih h1 f _ _ I hY hR hN ?_
        rcases hf with z | ⟨z1, z2⟩
        · exact Or.inl z
        · exact Or.inr ⟨z1, fun c' a b q => if w : c' = (c : Int) then (by rw [w, bt] at q; exact absurd q (by decide)) else z2 c' a (by omega) q⟩
      · by_cases q2 : X.nw s c = -1
        · have bf : X.bd s c = false := by rw [bdc]; simp [q1, q2]
          have eb : lwK M.nx (tlB B dd M s) (X.sc s) (vr h1 s) c 4 = lwK X.nx (X.tl s) (X.sc s) (vr h1 s) c 4 := by rw [eXnx, eXtl]
          have st0 := hR.step (v' := fun i => if i = (c : Int) then lwK M.nx (tlB B dd M s) (X.sc s) (vr h1 s) c 4 else vr h1 s i) (c := c) (b := lwK M.nx (tlB B dd M s) (X.sc s) (vr h1 s) c 4) hX (by omega) (by omega) bf eb (fun i i0 i1 => rfl)
          have low : ∀ KK : Int64 → XH → Prop, KK (iL (lwK M.nx (tlB B dd M s) (X.sc s) (vr h1 s) c 4)) h1 → XW (d + 2 + 2) 227 0 [.ref 118, .int (iI s), .int (iI c), .long (iL (X.sc s)), .null, .null, .null, .null, .null, .null] [] h1 (KL KK) := fun KK kq =>
            m_lower hL hP hm hY hs (by omega) scI (fun i i0 i1 i2 => by
              have := hX.2.2.2.1 s c i (by omega) (by omega) i0 i1 (by rw [eXtl]; exact i2)
              rw [eXtl, eXnx] at this
              omega) (fun c' a b => ⟨rfl, hR.1 c' a (by omega)⟩) kq
          have clo : lwK M.nx (tlB B dd M s) (X.sc s) (vr h1 s) c 4 = vr h1 s c → Clo X s (vr h1 s) c := fun z => lwK_clo (by rw [← eb]; exact z)
          generalize hb : lwK M.nx (tlB B dd M s) (X.sc s) (vr h1 s) c 4 = b at *
          have vc := hR.1 c (by omega) (by omega)
          have hv' : ∀ i, 0 ≤ i → i < X.n → vr (sL h1 140 (100 * s + (c : Int)).toNat (iL b)) s i = if i = (c : Int) then b else vr h1 s i := fun i i0 i1 => by
            rw [vr_s hs.1 (by omega) hs.1 (by omega) (by omega)]
            by_cases z : i = (c : Int)
            · rw [if_pos ⟨rfl, z⟩, if_pos z]
            · rw [if_neg (fun w => z w.2), if_neg z]
          have hR' : RowI X (Vl X) s (vr (sL h1 140 (100 * s + (c : Int)).toNat (iL b)) s) := st0.1.congr hv' hX
          have I' := I.put (c := c) (z := b) (by omega) hs.1 (by omega) (by omega)
          have hY' : MLy (sL h1 140 (100 * s + (c : Int)).toNat (iL b)) B dd M s := hY.fr ((Fr.refl (pA [140]) _).sL 140 _ _ (by simp [pA])) (fun j => by simp [pA])
          have sle : sumTo (vr (sL h1 140 (100 * s + (c : Int)).toNat (iL b)) s) M.n.toNat ≤ sumTo (vr h1 s) M.n.toNat := sumTo_le (fun i i0 i1 => by
            rw [hv' i i0 (by omega)]; split
            · rename_i z; rw [z]; omega
            · omega)
          have slt : b < vr h1 s c → sumTo (vr (sL h1 140 (100 * s + (c : Int)).toNat (iL b)) s) M.n.toNat < sumTo (vr h1 s) M.n.toNat := fun q => sumTo_lt (c0 := c) (fun i i0 i1 => by
            rw [hv' i i0 (by omega)]; split
            · rename_i z; rw [z]; omega
            · omega) (by omega) (by omega) (by rw [hv' c (by omega) (by omega), if_pos rfl]; exact q)
          have ev : gL h1 140 (100 * s + (c : Int)).toNat = iL (vr h1 s c) := by rw [gL_A]; rfl
          have nm1 : ∀ KK : Int32 → XH → Prop, KK (iI (-1)) h1 → XW (d + 3 + 1) 221 0 [.ref 118, .int (iI c), .int (iI s), .null] [] h1 (KI KK) := fun KK kq =>
            m_news hL hP hm I.2.1.2.1 (by omega) hs (by rw [← eXnw, q2]; exact kq)
          rcases hf with ⟨rfl, hlt⟩ | ⟨rfl, hcl⟩
          · refine w_iload7 r_226_172 ?_
            refine w_aload0 r_226_174 ?_
            refine v_getI r_226_175 (Lk_118 hL) (hP.f35 hm) ?_
            refine w_aload0 r_226_178 ?_
            refine v_getI r_226_179 (Lk_118 hL) (hP.f36 hm) ?_
            refine v_imul r_226_182 ?_
            rw [en] 
            refine v_ic_ge r_226_183 (by first | exact zF_in _ _ _ | exact zA_in _ _ _ | omega) (by first | exact zF_in _ _ _ | exact zA_in _ _ _ | omega) (fun q => absurd q (by omega)) (fun _ => ?_)
            refine w_iload7 r_226_186 ?_
            refine w_iload1 r_226_188 ?_
            refine v_ic_eq r_226_189 (by first | exact zF_in _ _ _ | exact zA_in _ _ _ | omega) (by first | exact zF_in _ _ _ | exact zA_in _ _ _ | omega) (fun q => absurd q (by omega)) (fun _ => ?_)
            refine w_aload0 r_226_192 ?_
            refine w_iload7 r_226_193 ?_
            refine w_iload3 r_226_195 ?_
            refine k_221 r_226_196 (Lk_118 hL) (Nat.le_of_ble_eq_true rfl) ?_
            refine nm1 _ ?_
            refine w_iconst (v := iI (-1)) r_226_199 rfl ?_
            refine v_ic_eq r_226_200 (by first | exact zF_in _ _ _ | exact zA_in _ _ _ | omega) (by first | exact zF_in _ _ _ | exact zA_in _ _ _ | omega) (fun _ => ?_) (fun q => absurd q (by omega))
            refine w_aload0 r_226_206 ?_
            refine w_iload3 r_226_207 ?_
            refine w_iload7 r_226_208 ?_
            refine w_lload4 r_226_210 ?_
            refine k_227 r_226_212 (Lk_118 hL) (Nat.le_of_ble_eq_true rfl) ?_
            refine low _ ?_
            refine w_lstore8 r_226_215 rfl ?_
            refine w_iload6 r_226_217 ?_
            refine v_if_ne r_226_219 (by first | exact zF_in _ _ _ | exact zA_in _ _ _ | omega) (fun _ => ?_) (fun q => absurd q (by decide))
            refine w_iconst (v := iI (1)) r_226_240 rfl ?_
            refine w_goto r_226_241 ?_
            refine w_istore6 r_226_245 rfl ?_
            refine w_aload0 r_226_247 ?_
            refine w_getA (x := 140) r_226_248 (Lk_118 hL) (Lr_118_48 hL) (by decide) ?_
            refine w_bipush (v := iI (100)) r_226_251 rfl ?_
            refine w_iload3 r_226_253 ?_
            refine v_imul r_226_254 ?_
            refine w_iload7 r_226_255 ?_
            refine v_iadd r_226_257 ?_
            refine w_lload8 r_226_258 ?_
            refine v_last r_226_260 (Lk_140 hL) (Ln_140 hL) (Lz_140 hL) (by decide) (by omega) ?_
            refine w_iinc7 r_226_261 rfl (iI_add _ _) ?_
            refine w_goto r_226_264 ?_
            exact ih _ 1 _ _ I' hY' hR' (by omega) (Or.inl ⟨rfl, by omega⟩)
          · by_cases q3 : b < vr h1 s c
            · have slt := slt q3
              refine w_iload7 r_226_172 ?_
              refine w_aload0 r_226_174 ?_
              refine v_getI r_226_175 (Lk_118 hL) (hP.f35 hm) ?_
              refine w_aload0 r_226_178 ?_
              refine v_getI r_226_179 (Lk_118 hL) (hP.f36 hm) ?_
              refine v_imul r_226_182 ?_
              rw [en] 
              refine v_ic_ge r_226_183 (by first | exact zF_in _ _ _ | exact zA_in _ _ _ | omega) (by first | exact zF_in _ _ _ | exact zA_in _ _ _ | omega) (fun q => absurd q (by omega)) (fun _ => ?_)
              refine w_iload7 r_226_186 ?_
              refine w_iload1 r_226_188 ?_
              refine v_ic_eq r_226_189 (by first | exact zF_in _ _ _ | exact zA_in _ _ _ | omega) (by first | exact zF_in _ _ _ | exact zA_in _ _ _ | omega) (fun q => absurd q (by omega)) (fun _ => ?_)
              refine w_aload0 r_226_192 ?_
              refine w_iload7 r_226_193 ?_
              refine w_iload3 r_226_195 ?_
              refine k_221 r_226_196 (Lk_118 hL) (Nat.le_of_ble_eq_true rfl) ?_
              refine nm1 _ ?_
              refine w_iconst (v := iI (-1)) r_226_199 rfl ?_
              refine v_ic_eq r_226_200 (by first | exact zF_in _ _ _ | exact zA_in _ _ _ | omega) (by first | exact zF_in _ _ _ | exact zA_in _ _ _ | omega) (fun _ => ?_) (fun q => absurd q (by omega))
              refine w_aload0 r_226_206 ?_
              refine w_iload3 r_226_207 ?_
              refine w_iload7 r_226_208 ?_
              refine w_lload4 r_226_210 ?_
              refine k_227 r_226_212 (Lk_118 hL) (Nat.le_of_ble_eq_true rfl) ?_
              refine low _ ?_
              refine w_lstore8 r_226_215 rfl ?_
              refine w_iload6 r_226_217 ?_
              refine v_if_ne r_226_219 (by first | exact zF_in _ _ _ | exact zA_in _ _ _ | omega) (fun q => absurd q (by decide)) (fun _ => ?_)
              refine w_lload8 r_226_222 ?_
              refine w_aload0 r_226_224 ?_
              refine w_getA (x := 140) r_226_225 (Lk_118 hL) (Lr_118_48 hL) (by decide) ?_
              refine w_bipush (v := iI (100)) r_226_228 rfl ?_
              refine w_iload3 r_226_230 ?_
              refine v_imul r_226_231 ?_
              refine w_iload7 r_226_232 ?_
              refine v_iadd r_226_234 ?_
              refine v_lald r_226_235 (Lk_140 hL) (Lz_140 hL) (by decide) (by omega) ev ?_
              refine v_lcmp r_226_236 (by first | exact zF_in _ _ _ | exact zA_in _ _ _ | omega) (by first | exact zF_in _ _ _ | exact zA_in _ _ _ | omega) ?_
              rw [if_neg (by omega), if_neg (by omega)] 
              refine v_if_ge r_226_237 (by first | exact zF_in _ _ _ | exact zA_in _ _ _ | omega) (fun q => absurd q (by decide)) (fun _ => ?_)
              refine w_iconst (v := iI (1)) r_226_240 rfl ?_
              refine w_goto r_226_241 ?_
              refine w_istore6 r_226_245 rfl ?_
              refine w_aload0 r_226_247 ?_
              refine w_getA (x := 140) r_226_248 (Lk_118 hL) (Lr_118_48 hL) (by decide) ?_
              refine w_bipush (v := iI (100)) r_226_251 rfl ?_
              refine w_iload3 r_226_253 ?_
              refine v_imul r_226_254 ?_
              refine w_iload7 r_226_255 ?_
              refine v_iadd r_226_257 ?_
              refine w_lload8 r_226_258 ?_
              refine v_last r_226_260 (Lk_140 hL) (Ln_140 hL) (Lz_140 hL) (by decide) (by omega) ?_
              refine w_iinc7 r_226_261 rfl (iI_add _ _) ?_
              refine w_goto r_226_264 ?_
              exact ih _ 1 _ _ I' hY' hR' (by omega) (Or.inl ⟨rfl, by omega⟩)
            · have e4 : b = vr h1 s c := by omega
              have same : ∀ i, 0 ≤ i → i < X.n → vr (sL h1 140 (100 * s + (c : Int)).toNat (iL b)) s i = vr h1 s i := fun i i0 i1 => by
                rw [hv' i i0 i1]; split
                · rename_i z; rw [z]; exact e4
                · rfl
              have clo := clo e4
              refine w_iload7 r_226_172 ?_
              refine w_aload0 r_226_174 ?_
              refine v_getI r_226_175 (Lk_118 hL) (hP.f35 hm) ?_
              refine w_aload0 r_226_178 ?_
              refine v_getI r_226_179 (Lk_118 hL) (hP.f36 hm) ?_
              refine v_imul r_226_182 ?_
              rw [en] 
              refine v_ic_ge r_226_183 (by first | exact zF_in _ _ _ | exact zA_in _ _ _ | omega) (by first | exact zF_in _ _ _ | exact zA_in _ _ _ | omega) (fun q => absurd q (by omega)) (fun _ => ?_)
              refine w_iload7 r_226_186 ?_
              refine w_iload1 r_226_188 ?_
              refine v_ic_eq r_226_189 (by first | exact zF_in _ _ _ | exact zA_in _ _ _ | omega) (by first | exact zF_in _ _ _ | exact zA_in _ _ _ | omega) (fun q => absurd q (by omega)) (fun _ => ?_)
              refine w_aload0 r_226_192 ?_
              refine w_iload7 r_226_193 ?_
              refine w_iload3 r_226_195 ?_
              refine k_221 r_226_196 (Lk_118 hL) (Nat.le_of_ble_eq_true rfl) ?_
              refine nm1 _ ?_
              refine w_iconst (v := iI (-1)) r_226_199 rfl ?_
              refine v_ic_eq r_226_200 (by first | exact zF_in _ _ _ | exact zA_in _ _ _ | omega) (by first | exact zF_in _ _ _ | exact zA_in _ _ _ | omega) (fun _ => ?_) (fun q => absurd q (by omega))
              refine w_aload0 r_226_206 ?_
              refine w_iload3 r_226_207 ?_
              refine w_iload7 r_226_208 ?_
              refine w_lload4 r_226_210 ?_
              refine k_227 r_226_212 (Lk_118 hL) (Nat.le_of_ble_eq_true rfl) ?_
              refine low _ ?_
              refine w_lstore8 r_226_215 rfl ?_
              refine w_iload6 r_226_217 ?_
              refine v_if_ne r_226_219 (by first | exact zF_in _ _ _ | exact zA_in _ _ _ | omega) (fun q => absurd q (by decide)) (fun _ => ?_)
              refine w_lload8 r_226_222 ?_
              refine w_aload0 r_226_224 ?_
              refine w_getA (x := 140) r_226_225 (Lk_118 hL) (Lr_118_48 hL) (by decide) ?_
              refine w_bipush (v := iI (100)) r_226_228 rfl ?_
              refine w_iload3 r_226_230 ?_
              refine v_imul r_226_231 ?_
              refine w_iload7 r_226_232 ?_
              refine v_iadd r_226_234 ?_
              refine v_lald r_226_235 (Lk_140 hL) (Lz_140 hL) (by decide) (by omega) ev ?_
              refine v_lcmp r_226_236 (by first | exact zF_in _ _ _ | exact zA_in _ _ _ | omega) (by first | exact zF_in _ _ _ | exact zA_in _ _ _ | omega) ?_
              rw [if_neg (by omega), if_pos (by omega)] 
              refine v_if_ge r_226_237 (by first | exact zF_in _ _ _ | exact zA_in _ _ _ | omega) (fun _ => ?_) (fun q => absurd q (by decide))
              refine w_iconst (v := iI (0)) r_226_244 rfl ?_
              refine w_istore6 r_226_245 rfl ?_
              refine w_aload0 r_226_247 ?_
              refine w_getA (x := 140) r_226_248 (Lk_118 hL) (Lr_118_48 hL) (by decide) ?_
              refine w_bipush (v := iI (100)) r_226_251 rfl ?_
              refine w_iload3 r_226_253 ?_
              refine v_imul r_226_254 ?_
              refine w_iload7 r_226_255 ?_
              refine v_iadd r_226_257 ?_
              refine w_lload8 r_226_258 ?_
              refine v_last r_226_260 (Lk_140 hL) (Ln_140 hL) (Lz_140 hL) (by decide) (by omega) ?_
              refine w_iinc7 r_226_261 rfl (iI_add _ _) ?_
              refine w_goto r_226_264 ?_
              refine ih _ 0 _ _ I' hY' hR' (by omega) (Or.inr ⟨rfl, fun c' a b2 q => ?_⟩)
              have hc2 : Clo X s (vr h1 s) c' := if w : c' = (c : Int) then (by rw [w]; exact clo) else hcl c' a (by omega) q
              intro i i0 i1 i2 i3
              have t := (hX.2.2.2.1 s c' i a (by omega) i0 i1 i2).2
              rw [same _ t.1 t.2] at i3 ⊢
              rw [same c' a (by omega)]
              exact hc2 i i0 i1 i2 i3
        · have bt : X.bd s c = true := by rw [bdc]; simp [q2]
          rw [eXnw] at q2
          refine w_iload7 r_226_172 ?_
          refine w_aload0 r_226_174 ?_
          refine v_getI r_226_175 (Lk_118 hL) (hP.f35 hm) ?_
          refine w_aload0 r_226_178 ?_
          refine v_getI r_226_179 (Lk_118 hL) (hP.f36 hm) ?_
          refine v_imul r_226_182 ?_
          rw [en] 
          refine v_ic_ge r_226_183 (by first | exact zF_in _ _ _ | exact zA_in _ _ _ | omega) (by first | exact zF_in _ _ _ | exact zA_in _ _ _ | omega) (fun q => absurd q (by omega)) (fun _ => ?_)
          refine w_iload7 r_226_186 ?_
          refine w_iload1 r_226_188 ?_
          refine v_ic_eq r_226_189 (by first | exact zF_in _ _ _ | exact zA_in _ _ _ | omega) (by first | exact zF_in _ _ _ | exact zA_in _ _ _ | omega) (fun q => absurd q (by omega)) (fun _ => ?_)
          refine w_aload0 r_226_192 ?_
          refine w_iload7 r_226_193 ?_
          refine w_iload3 r_226_195 ?_
          refine k_221 r_226_196 (Lk_118 hL) (Nat.le_of_ble_eq_true rfl) ?_
          refine m_news hL hP hm I.2.1.2.1 (by omega) hs ?_
          refine w_iconst (v := iI (-1)) r_226_199 rfl ?_
          refine v_ic_eq r_226_200 (by have := fst1_in (f := fun e => decide (dg s e = 0) && nr M.wd M.hg (M.dc e) c) M.nd.toNat 0; omega) (by first | exact zF_in _ _ _ | exact zA_in _ _ _ | omega) (fun q => absurd q (by omega)) (fun _ => ?_)
          refine w_goto r_226_203 ?_
          refine w_iinc7 r_226_261 rfl (iI_add _ _) ?_
          refine w_goto r_226_264 ?_
          refine ih h1 f _ _ I hY hR hN ?_
          rcases hf with z | ⟨z1, z2⟩
          · exact Or.inl z
          · exact Or.inr ⟨z1, fun c' a b q => if w : c' = (c : Int) then (by rw [w, bt] at q; exact absurd q (by decide)) else z2 c' a (by omega) q⟩
  -- while something falls
  have fal : ∀ (s : Int), (0 ≤ s ∧ s < 1024) → CanB M s 5 → (∀ (h1 : XH) (X4 X5 X6 X7 X8 X9 : Value), SvI h h1 B dd M go bm s → XW (d + 5) 226 47 [.ref 118, .int (iI go), .int (iI (b2i bm)), .int (iI (s - 1)), X4, X5, X6, X7, X8, X9] [] h1 (KV KU)) →
      ∀ (N : Nat) (h1 : XH) (X7 X8 X9 : Value), SvI h h1 B dd M go bm (s + 1) → MLy h1 B dd M s → RowI X (Vl X) s (vr h1 s) → sumTo (vr h1 s) M.n.toNat < N → XW (d + 5) 226 161 [.ref 118, .int (iI go), .int (iI (b2i bm)), .int (iI s), .long (iL (X.sc s)), .null, .int (iI 1), X7, X8, X9] [] h1 (KV KU) := by
    intro s hs hcb nxt N
    induction N with
    | zero =>
      intro h1 X7 X8 X9 I hY hR hN
      have z : sumTo (fun _ => (0 : Int)) M.n.toNat ≤ sumTo (vr h1 s) M.n.toNat := sumTo_le (fun i i0 i1 => (hR.1 i i0 (by omega)).1)
      rw [sumTo_z] at z
      omega
    | succ N ih =>
      intro h1 X7 X8 X9 I hY hR hN
      refine w_iload6 r_226_161 ?_
      refine v_if_eq r_226_163 (by first | exact zF_in _ _ _ | exact zA_in _ _ _ | omega) (fun q => absurd q (by decide)) (fun _ => ?_)
      refine w_iconst (v := iI (0)) r_226_166 rfl ?_
      refine w_istore6 r_226_167 rfl ?_
      refine w_iconst (v := iI (0)) r_226_169 rfl ?_
      refine w_istore7 r_226_170 rfl ?_
      exact pas s hs hcb nxt N ih 0 (by omega) h1 0 X8 X9 I hY hR (by omega) (Or.inr ⟨rfl, fun c' a b => by omega⟩)
  -- what is fixed at first
  have ini : ∀ (s : Int), (0 ≤ s ∧ s < 1024) → CanB M s 5 → (∀ (h1 : XH) (X4 X5 X6 X7 X8 X9 : Value), SvI h h1 B dd M go bm s → XW (d + 5) 226 47 [.ref 118, .int (iI go), .int (iI (b2i bm)), .int (iI (s - 1)), X4, X5, X6, X7, X8, X9] [] h1 (KV KU)) →
      ∀ c : Nat, c ≤ M.n.toNat → ∀ (h1 : XH) (X5 X6 X7 X8 X9 : Value), SvI h h1 B dd M go bm (s + 1) → MLy h1 B dd M s → (∀ c' : Int, 0 ≤ c' → c' < c → vr h1 s c' = if X.bd s c' = true then X.bv (Vl X) s c' else 1000000000000000) → XW (d + 5) 226 70 [.ref 118, .int (iI go), .int (iI (b2i bm)), .int (iI s), .int (iI c), X5, X6, X7, X8, X9] [] h1 (KV KU) := by
    intro s hs hcb nxt
    have hst := eXst s (CanB.st hs hcb)
    have scI := sc_in (s := s) hX
    have nice := XP.nice hX hst (fun s' q1 q2 => (hV s' q2).2)
    refine upto _ ?_ ?_
    · intro h1 X5 X6 X7 X8 X9 I hY g
      have hL := I.1.lay hL
      obtain ⟨hQ, hP⟩ := PSv_fr I.1 hQ hP
      have hR : RowI X (Vl X) s (vr h1 s) := by
        refine ⟨fun c a b => ?_, fun c a b q => ?_, fun c a b q => ?_⟩
        · rw [g c a (by omega)]; split
          · rename_i z; exact nice.2 c a (by omega) z
          · decide
        · rw [g c a (by omega), if_pos q]
        · left; rw [g c a (by omega), if_neg (by rw [q]; decide)]
      have fin := fun Y7 Y8 Y9 => fal s hs hcb nxt ((sumTo (vr h1 s) M.n.toNat).toNat + 1) h1 Y7 Y8 Y9 I hY hR (by omega)
      by_cases hb : bm = true
      · have e1 : X.sc s = prodTo (fun e => if dg s e = 0 then sumTo (fun k => M.wt e (chc M e k)) (mny M e).toNat else 1) M.nd.toNat := by
          unfold XP.sc; rw [eXbm, if_pos hb, eXlf]
        have e0 : b2i bm = 1 := by rw [hb]; rfl
        refine w_iload4 r_226_70 ?_
        refine w_aload0 r_226_72 ?_
        refine v_getI r_226_73 (Lk_118 hL) (hP.f35 hm) ?_
        refine w_aload0 r_226_76 ?_
        refine v_getI r_226_77 (Lk_118 hL) (hP.f36 hm) ?_
        refine v_imul r_226_80 ?_
        rw [en] 
        refine v_ic_ge r_226_81 (by first | exact zF_in _ _ _ | exact zA_in _ _ _ | omega) (by first | exact zF_in _ _ _ | exact zA_in _ _ _ | omega) (fun _ => ?_) (fun q => absurd q (by omega))
        refine w_iload2 r_226_143 ?_
        refine v_if_eq r_226_144 (by first | exact zF_in _ _ _ | exact zA_in _ _ _ | omega) (fun q => absurd q (by omega)) (fun _ => ?_)
        refine w_aload0 r_226_147 ?_
        refine w_iload3 r_226_148 ?_
        refine k_218 r_226_149 (Lk_118 hL) (Nat.le_of_ble_eq_true rfl) ?_
        refine m_left hL hP hm I.2.1.1 hs ?_
        refine w_goto r_226_152 ?_
        refine w_lstore4 r_226_156 rfl ?_
        refine w_iconst (v := iI (1)) r_226_158 rfl ?_
        refine w_istore6 r_226_159 rfl ?_
        rw [← e1]
        exact fin _ _ _
      · have e1 : X.sc s = 1 := by unfold XP.sc; rw [eXbm, if_neg hb]
        have e0 : b2i bm = 0 := by unfold b2i; rw [if_neg hb]
        rw [e1] at fin
        refine w_iload4 r_226_70 ?_
        refine w_aload0 r_226_72 ?_
        refine v_getI r_226_73 (Lk_118 hL) (hP.f35 hm) ?_
        refine w_aload0 r_226_76 ?_
        refine v_getI r_226_77 (Lk_118 hL) (hP.f36 hm) ?_
        refine v_imul r_226_80 ?_
        rw [en] 
        refine v_ic_ge r_226_81 (by first | exact zF_in _ _ _ | exact zA_in _ _ _ | omega) (by first | exact zF_in _ _ _ | exact zA_in _ _ _ | omega) (fun _ => ?_) (fun q => absurd q (by omega))
        refine w_iload2 r_226_143 ?_
        refine v_if_eq r_226_144 (by first | exact zF_in _ _ _ | exact zA_in _ _ _ | omega) (fun _ => ?_) (fun q => absurd q (by omega))
        refine w_lconst (v := iL 1) r_226_155 rfl ?_
        refine w_lstore4 r_226_156 rfl ?_
        refine w_iconst (v := iI (1)) r_226_158 rfl ?_
        refine w_istore6 r_226_159 rfl ?_
        exact fin _ _ _
    · intro c hc ih h1 X5 X6 X7 X8 X9 I hY g
      have hL := I.1.lay hL
      obtain ⟨hQ, hP⟩ := PSv_fr I.1 hQ hP
      have bdc : X.bd s c = (decide ((c : Int) = go) || !decide (X.nw s c = -1)) := by unfold XP.bd; rw [eXgo]
      have go1 : ∀ (z : Int) (Y5 : Value), (0 ≤ z ∧ z ≤ 9000000000000000000) → z = (if X.bd s c = true then X.bv (Vl X) s c else 1000000000000000) → XW (d + 5) 226 70 [.ref 118, .int (iI go), .int (iI (b2i bm)), .int (iI s), .int (iI ((c : Int) + 1)), Y5, X6, X7, X8, X9] [] (sL h1 140 (100 * s + (c : Int)).toNat (iL z)) (KV KU) := by
        intro z Y5 hz he
        refine ih _ _ _ _ _ _ (I.put (c := c) (z := z) (by omega) hs.1 (by omega) (by omega)) (hY.fr ((Fr.refl (pA [140]) _).sL 140 _ _ (by simp [pA])) (fun j => by simp [pA])) (fun c' a b => ?_)
        rw [vr_s hs.1 (by omega) hs.1 (by omega) (by omega)]
        by_cases w : c' = (c : Int)
        · rw [if_pos ⟨rfl, w⟩, w, he]
        · rw [if_neg (fun q => w q.2)]; exact g c' a (by omega)
      have fi := fst1_in (f := fun e => decide (dg s e = 0) && nr M.wd M.hg (M.dc e) c) M.nd.toNat 0
      by_cases q1 : (c : Int) = go
      · have bt : X.bd s c = true := by rw [bdc]; simp [q1]
        have z0 : (0 : Int) = if X.bd s c = true then X.bv (Vl X) s c else 1000000000000000 := by
          rw [if_pos bt]; unfold XP.bv; rw [eXgo, if_pos q1]
        refine w_iload4 r_226_70 ?_
        refine w_aload0 r_226_72 ?_
        refine v_getI r_226_73 (Lk_118 hL) (hP.f35 hm) ?_
        refine w_aload0 r_226_76 ?_
        refine v_getI r_226_77 (Lk_118 hL) (hP.f36 hm) ?_
        refine v_imul r_226_80 ?_
        rw [en] 
        refine v_ic_ge r_226_81 (by first | exact zF_in _ _ _ | exact zA_in _ _ _ | omega) (by first | exact zF_in _ _ _ | exact zA_in _ _ _ | omega) (fun q => absurd q (by omega)) (fun _ => ?_)
        refine w_aload0 r_226_84 ?_
        refine w_iload4 r_226_85 ?_
        refine w_iload3 r_226_87 ?_
        refine k_221 r_226_88 (Lk_118 hL) (Nat.le_of_ble_eq_true rfl) ?_
        refine m_news hL hP hm I.2.1.2.1 (by omega) hs ?_
        refine w_istore5 r_226_91 rfl ?_
        refine w_aload0 r_226_93 ?_
        refine w_getA (x := 140) r_226_94 (Lk_118 hL) (Lr_118_48 hL) (by decide) ?_
        refine w_bipush (v := iI (100)) r_226_97 rfl ?_
        refine w_iload3 r_226_99 ?_
        refine v_imul r_226_100 ?_
        refine w_iload4 r_226_101 ?_
        refine v_iadd r_226_103 ?_
        refine w_iload4 r_226_104 ?_
        refine w_iload1 r_226_106 ?_
        refine v_ic_ne r_226_107 (by first | exact zF_in _ _ _ | exact zA_in _ _ _ | omega) (by first | exact zF_in _ _ _ | exact zA_in _ _ _ | omega) (fun q => absurd q (by omega)) (fun _ => ?_)
        refine w_lconst (v := iL 0) r_226_110 rfl ?_
        refine w_goto r_226_111 ?_
        refine v_last r_226_136 (Lk_140 hL) (Ln_140 hL) (Lz_140 hL) (by decide) (by omega) ?_
        refine w_iinc4 r_226_137 rfl (iI_add _ _) ?_
        refine w_goto r_226_140 ?_
        exact go1 0 _ (by decide) z0
      · by_cases q2 : X.nw s c = -1
        · have bf : X.bd s c = false := by rw [bdc]; simp [q1, q2]
          have z0 : (1000000000000000 : Int) = if X.bd s c = true then X.bv (Vl X) s c else 1000000000000000 := by rw [if_neg (by rw [bf]; decide)]
          rw [eXnw] at q2
          refine w_iload4 r_226_70 ?_
          refine w_aload0 r_226_72 ?_
          refine v_getI r_226_73 (Lk_118 hL) (hP.f35 hm) ?_
          refine w_aload0 r_226_76 ?_
          refine v_getI r_226_77 (Lk_118 hL) (hP.f36 hm) ?_
          refine v_imul r_226_80 ?_
          rw [en] 
          refine v_ic_ge r_226_81 (by first | exact zF_in _ _ _ | exact zA_in _ _ _ | omega) (by first | exact zF_in _ _ _ | exact zA_in _ _ _ | omega) (fun q => absurd q (by omega)) (fun _ => ?_)
          refine w_aload0 r_226_84 ?_
          refine w_iload4 r_226_85 ?_
          refine w_iload3 r_226_87 ?_
          refine k_221 r_226_88 (Lk_118 hL) (Nat.le_of_ble_eq_true rfl) ?_
          refine m_news hL hP hm I.2.1.2.1 (by omega) hs ?_
          rw [q2] 
          refine w_istore5 r_226_91 rfl ?_
          refine w_aload0 r_226_93 ?_
          refine w_getA (x := 140) r_226_94 (Lk_118 hL) (Lr_118_48 hL) (by decide) ?_
          refine w_bipush (v := iI (100)) r_226_97 rfl ?_
          refine w_iload3 r_226_99 ?_
          refine v_imul r_226_100 ?_
          refine w_iload4 r_226_101 ?_
          refine v_iadd r_226_103 ?_
          refine w_iload4 r_226_104 ?_
          refine w_iload1 r_226_106 ?_
          refine v_ic_ne r_226_107 (by first | exact zF_in _ _ _ | exact zA_in _ _ _ | omega) (by first | exact zF_in _ _ _ | exact zA_in _ _ _ | omega) (fun _ => ?_) (fun q => absurd q (by omega))
          refine w_iload5 r_226_114 ?_
          refine w_iconst (v := iI (-1)) r_226_116 rfl ?_
          refine v_ic_ne r_226_117 (by first | exact zF_in _ _ _ | exact zA_in _ _ _ | omega) (by first | exact zF_in _ _ _ | exact zA_in _ _ _ | omega) (fun q => absurd q (by decide)) (fun _ => ?_)
          refine w_ldc2 (v := iL (1000000000000000)) r_226_120 rfl ?_
          refine w_goto r_226_123 ?_
          refine v_last r_226_136 (Lk_140 hL) (Ln_140 hL) (Lz_140 hL) (by decide) (by omega) ?_
          refine w_iinc4 r_226_137 rfl (iI_add _ _) ?_
          refine w_goto r_226_140 ?_
          exact go1 _ _ (by decide) z0
        · have bt : X.bd s c = true := by rw [bdc]; simp [q2]
          rcases X.nw_spec s c (by omega) with ⟨w, _⟩ | ⟨e1, e2, e3, _⟩
          · exact absurd w q2
          rw [eXnw] at q2 e1 e2
          have z0 : ∀ r, OvR X (fun k => Vl X (tel s (X.nw s c) k) c) (X.nw s c) r → r = if X.bd s c = true then X.bv (Vl X) s c else 1000000000000000 := fun r hr => by
            rw [if_pos bt]; unfold XP.bv; rw [eXgo, if_neg q1]
            exact OvR.ov hX hV hst (by rw [eXnw]; exact e1) (by rw [eXnw]; exact e2) (by omega) (by omega) hr
          rw [eXnw] at z0
          generalize hE : fst1 (fun e => decide (dg s e = 0) && nr M.wd M.hg (M.dc e) c) M.nd.toNat 0 = e at *
          have hf : ∀ k, 0 ≤ k → k < mny M e → vr h1 (tel s e k) c = Vl X (tel s e k) c ∧ 0 ≤ Vl X (tel s e k) c ∧ Vl X (tel s e k) c ≤ 1000000000000000 := fun k k0 k1 => by
            have om := mny_in hm (e := e) (by omega)
            have cb := CanB.tel hm hs hcb (e := e) (k := k) (by omega) e2 ⟨k0, k1⟩
            have t := tel_in (s := s) (e := e) (k := k) hs (by omega) e2 (by omega)
            have v := I.2.2.1 (tel s e k) (by omega) (by omega) (by omega) cb c (by omega) (by omega)
            rw [hXe] at v
            exact ⟨v, (hV _ (eXst _ (CanB.st (by omega) cb))).2 c (by omega) (by omega)⟩
          refine w_iload4 r_226_70 ?_
          refine w_aload0 r_226_72 ?_
          refine v_getI r_226_73 (Lk_118 hL) (hP.f35 hm) ?_
          refine w_aload0 r_226_76 ?_
          refine v_getI r_226_77 (Lk_118 hL) (hP.f36 hm) ?_
          refine v_imul r_226_80 ?_
          rw [en] 
          refine v_ic_ge r_226_81 (by first | exact zF_in _ _ _ | exact zA_in _ _ _ | omega) (by first | exact zF_in _ _ _ | exact zA_in _ _ _ | omega) (fun q => absurd q (by omega)) (fun _ => ?_)
          refine w_aload0 r_226_84 ?_
          refine w_iload4 r_226_85 ?_
          refine w_iload3 r_226_87 ?_
          refine k_221 r_226_88 (Lk_118 hL) (Nat.le_of_ble_eq_true rfl) ?_
          refine m_news hL hP hm I.2.1.2.1 (by omega) hs ?_
          rw [hE] 
          refine w_istore5 r_226_91 rfl ?_
          refine w_aload0 r_226_93 ?_
          refine w_getA (x := 140) r_226_94 (Lk_118 hL) (Lr_118_48 hL) (by decide) ?_
          refine w_bipush (v := iI (100)) r_226_97 rfl ?_
          refine w_iload3 r_226_99 ?_
          refine v_imul r_226_100 ?_
          refine w_iload4 r_226_101 ?_
          refine v_iadd r_226_103 ?_
          refine w_iload4 r_226_104 ?_
          refine w_iload1 r_226_106 ?_
          refine v_ic_ne r_226_107 (by first | exact zF_in _ _ _ | exact zA_in _ _ _ | omega) (by first | exact zF_in _ _ _ | exact zA_in _ _ _ | omega) (fun _ => ?_) (fun q => absurd q (by omega))
          refine w_iload5 r_226_114 ?_
          refine w_iconst (v := iI (-1)) r_226_116 rfl ?_
          refine v_ic_ne r_226_117 (by first | exact zF_in _ _ _ | exact zA_in _ _ _ | omega) (by first | exact zF_in _ _ _ | exact zA_in _ _ _ | omega) (fun _ => ?_) (fun q => absurd q (by omega))
          refine w_aload0 r_226_126 ?_
          refine w_iload3 r_226_127 ?_
          refine w_iload4 r_226_128 ?_
          refine w_iload5 r_226_130 ?_
          refine w_iload2 r_226_132 ?_
          refine k_225 r_226_133 (Lk_118 hL) (Nat.le_of_ble_eq_true rfl) ?_
          refine m_over (dd := dd) (go := go) (bm := bm) hL hP hm I.2.1.1 hs (by omega) (by omega) e2 hf (fun r hr1 hr => ?_)
          refine v_last r_226_136 (Lk_140 hL) (Ln_140 hL) (Lz_140 hL) (by decide) (by omega) ?_
          refine w_iinc4 r_226_137 rfl (iI_add _ _) ?_
          refine w_goto r_226_140 ?_
          exact go1 r _ hr1 (z0 r (by rw [hXe] at hr; exact hr))
  -- state by state
  have key : ∀ n : Nat, n ≤ 1024 → ∀ (h1 : XH) (X4 X5 X6 X7 X8 X9 : Value), SvI h h1 B dd M go bm n → XW (d + 5) 226 47 [.ref 118, .int (iI go), .int (iI (b2i bm)), .int (iI ((n : Int) - 1)), X4, X5, X6, X7, X8, X9] [] h1 (KV KU) := by
    intro n
    induction n with
    | zero =>
      intro _ h1 X4 X5 X6 X7 X8 X9 I
      refine w_iload3 r_226_47 ?_
      refine v_if_lt r_226_48 (by first | exact zF_in _ _ _ | exact zA_in _ _ _ | omega) (fun _ => ?_) (fun q => absurd q (by omega))
      refine w_vret r_226_276 ?_
      exact kk h1 I
    | succ n ih =>
      intro hn2 h1 X4 X5 X6 X7 X8 X9 I
      have hL := I.1.lay hL
      obtain ⟨hQ, hP⟩ := PSv_fr I.1 hQ hP
      have ih := ih (by omega)
      rw [show ((n + 1 : Nat) : Int) - 1 = (n : Int) by omega]
      refine w_iload3 r_226_47 ?_
      refine v_if_lt r_226_48 (by first | exact zF_in _ _ _ | exact zA_in _ _ _ | omega) (fun q => absurd q (by omega)) (fun _ => ?_)
      refine w_aload0 r_226_51 ?_
      refine w_iload3 r_226_52 ?_
      refine k_219 r_226_53 (Lk_118 hL) (Nat.le_of_ble_eq_true rfl) ?_
      refine m_canBe hL hP hm I.2.1.1 (by omega) (fun hcb => ?_) (fun hcb => ?_)
      rotate_left
      · refine v_if_ne r_226_56 (by decide) (fun q => absurd rfl q) (fun _ => ?_)
        refine w_goto r_226_59 ?_
        refine w_iinc3 r_226_270 rfl (iI_add _ _) ?_
        refine w_goto r_226_273 ?_
        refine ih h1 _ _ _ _ _ _ ⟨I.1, I.2.1, fun s' p0 p1 p2 p3 => ?_, I.2.2.2⟩
        exact I.2.2.1 s' (if w : s' = (n : Int) then absurd (w ▸ p3) hcb else (by omega)) p1 p2 p3
      refine v_if_ne r_226_56 (by first | exact zF_in _ _ _ | exact zA_in _ _ _ | omega) (fun _ => ?_) (fun q => absurd q (by decide))
      refine w_aload0 r_226_62 ?_
      refine w_iload3 r_226_63 ?_
      refine k_224 r_226_64 (Lk_118 hL) (Nat.le_of_ble_eq_true rfl) ?_
      refine m_lays hL ho hP hm hd I.2.1.1 I.2.1.2.2 (CanB.st (by omega) hcb) (fun h2 f2 hY => ?_)
      refine w_iconst (v := iI (0)) r_226_67 rfl ?_
      refine w_istore4 r_226_68 rfl ?_
      refine ini n (by omega) hcb (fun h1 a b c d e f I => ih h1 a b c d e f I) 0 (by omega) h2 _ _ _ _ _ ⟨I.1.trans (f2.mono (fun a j q => by simp [pO, pA, pF] at q ⊢; omega)), I.2.1.fr f2 (fun j => by simp [pA]), fun s' p0 p1 p2 p3 c c0 c1 => ?_, ?_, ?_, ?_⟩ hY (fun c' a b => by omega)
      · have := I.2.2.1 s' (by omega) p1 p2 p3 c c0 c1; unfold vr at this ⊢; rw [f2.L (by simp [pA])]; exact this
      · rw [f2.F (by decide)]; exact I.2.2.2.1
      · rw [f2.F (by decide)]; exact I.2.2.2.2.1
      · rw [f2.F (by decide)]; exact I.2.2.2.2.2
  have F3 : Fr PSv h (sI (sI (sI h 118 51 (iI 1)) 118 49 (iI go)) 118 50 (iI (b2i bm))) := (((Fr.refl _ _).sI 118 51 _ (by decide)).sI 118 49 _ (by decide)).sI 118 50 _ (by decide)
  have hQ3 := PSv_fr F3 hQ hP
  have start : XW (d + 5) 226 39 [.ref 118, .int (iI go), .int (iI (b2i bm)), .null, .null, .null, .null, .null, .null, .null] [] (sI (sI (sI h 118 51 (iI 1)) 118 49 (iI go)) 118 50 (iI (b2i bm))) (KV KU) := by
    refine w_aload0 r_226_39 ?_
    refine k_223 r_226_40 (Lk_118 hL) (Nat.le_of_ble_eq_true rfl) ?_
    refine m_prepares hL hQ3.1 ho hQ3.2 hm hdd hd (fun h1 f1 l1 l2 l3 => ?_)
    refine w_sipush (v := iI (1023)) r_226_43 rfl ?_
    refine w_istore3 r_226_46 rfl ?_
    refine key 1024 (by omega) h1 _ _ _ _ _ _ ⟨F3.trans (f1.mono (fun a j q => by simp [pO, pA, pF] at q ⊢; omega)), ⟨l1, l2, l3⟩, fun s' p0 p1 p2 => by omega, ?_, ?_, ?_⟩
    · rw [f1.F (by decide)]; exact zF_of rfl (by unfold R32; omega)
    · rw [f1.F (by decide)]; exact zF_of rfl (by unfold R32; omega)
    · rw [f1.F (by decide)]; exact zF_of rfl (by decide)
  refine w_aload0 r_226_0 ?_
  refine v_getI r_226_1 (Lk_118 hL) (gI_F h 118 51) ?_
  refine v_if_eq r_226_4 (by first | exact zF_in _ _ _ | exact zA_in _ _ _ | omega) (fun c4 => ?_) (fun c4 => ?_)
  · refine w_aload0 r_226_24 ?_
    refine w_iconst (v := iI (1)) r_226_25 rfl ?_
    refine w_putZ r_226_26 (Lk_118 hL) (Ln_118 hL) (by decide) ?_
    refine w_aload0 r_226_29 ?_
    refine w_iload1 r_226_30 ?_
    refine w_putI r_226_31 (Lk_118 hL) (Ln_118 hL) ?_
    refine w_aload0 r_226_34 ?_
    refine w_iload2 r_226_35 ?_
    refine w_putZ r_226_36 (Lk_118 hL) (Ln_118 hL) (b2i_z bm) ?_
    exact start
  · refine w_aload0 r_226_7 ?_
    refine v_getI r_226_8 (Lk_118 hL) (gI_F h 118 49) ?_
    refine w_iload1 r_226_11 ?_
    refine v_ic_ne r_226_12 (by first | exact zF_in _ _ _ | exact zA_in _ _ _ | omega) (by first | exact zF_in _ _ _ | exact zA_in _ _ _ | omega) (fun c12 => ?_) (fun c12 => ?_)
    · refine w_aload0 r_226_24 ?_
      refine w_iconst (v := iI (1)) r_226_25 rfl ?_
      refine w_putZ r_226_26 (Lk_118 hL) (Ln_118 hL) (by decide) ?_
      refine w_aload0 r_226_29 ?_
      refine w_iload1 r_226_30 ?_
      refine w_putI r_226_31 (Lk_118 hL) (Ln_118 hL) ?_
      refine w_aload0 r_226_34 ?_
      refine w_iload2 r_226_35 ?_
      refine w_putZ r_226_36 (Lk_118 hL) (Ln_118 hL) (b2i_z bm) ?_
      exact start
    · refine w_aload0 r_226_15 ?_
      refine v_getI r_226_16 (Lk_118 hL) (gI_F h 118 50) ?_
      refine w_iload2 r_226_19 ?_
      refine v_ic_ne r_226_20 (by first | exact zF_in _ _ _ | exact zA_in _ _ _ | omega) (by first | exact zF_in _ _ _ | exact zA_in _ _ _ | omega) (fun c20 => ?_) (fun c20 => ?_)
      · refine w_aload0 r_226_24 ?_
        refine w_iconst (v := iI (1)) r_226_25 rfl ?_
        refine w_putZ r_226_26 (Lk_118 hL) (Ln_118 hL) (by decide) ?_
        refine w_aload0 r_226_29 ?_
        refine w_iload1 r_226_30 ?_
        refine w_putI r_226_31 (Lk_118 hL) (Ln_118 hL) ?_
        refine w_aload0 r_226_34 ?_
        refine w_iload2 r_226_35 ?_
        refine w_putZ r_226_36 (Lk_118 hL) (Ln_118 hL) (b2i_z bm) ?_
        exact start
      · refine w_vret r_226_23 ?_
        have z := h0 (by omega) (by omega) (by omega)
        exact kk h ⟨Fr.refl _ _, z.1, z.2, by omega, by omega, by omega⟩
end SV
