/-! the constant Strings -/
def xsb : List (List Int) := [[103, 114, 111, 117, 110, 100], [103, 114, 111, 117, 110, 100], [114, 111, 118, 101, 114], [116, 114, 121], [105, 102], [105, 115], [101, 108, 115, 101], [114, 105, 103, 104, 116], [108, 101, 102, 116], [117, 112], [100, 111, 119, 110], [115, 105, 110, 107, 115], [103, 114, 105, 112, 115], [114, 111, 118, 101, 114], [119, 104, 101, 101, 108, 115], [119, 101, 105, 103, 104, 116], [99, 108, 101, 97, 114], [116, 105, 112], [100, 114, 97, 103], [116, 114, 121], [101, 97, 99, 104], [111, 110, 101], [99, 111, 115, 116], [105, 102], [105, 115], [101, 108, 115, 101], [110, 111, 32, 115, 117, 99, 104, 32, 99, 101, 108, 108, 32, 111, 102, 32, 97, 32, 114, 117, 110], [103, 114, 111, 117, 110, 100], [114, 111, 118, 101, 114], [116, 114, 121], [105, 102], [105, 115], [101, 108, 115, 101], [114, 105, 103, 104, 116], [108, 101, 102, 116], [117, 112], [100, 111, 119, 110], [115, 105, 110, 107, 115], [103, 114, 105, 112, 115], [119, 104, 101, 101, 108, 115], [119, 101, 105, 103, 104, 116], [99, 108, 101, 97, 114], [116, 105, 112], [100, 114, 97, 103], [101, 97, 99, 104], [111, 110, 101], [99, 111, 115, 116]]
/-- what they hold -/
def StC (h : XH) : Prop := ∀ j : Nat, j < 47 → gI h (1000010 + 2 * j) 1 = iI 0 ∧ ∀ k : Nat, k < (xsb.getD j []).length → gI h (1000011 + 2 * j) k = iI ((xsb.getD j []).getD k 0)
/-- the String at a spells w -/
def SS (h : XH) (a : Nat) (w : List Int) : Prop := (gK h a = 60 ∧ gR h a 0 = a + 1 ∧ gI h a 1 = iI 0) ∧ (gK h (a + 1) = 2 ∧ gZ h (a + 1) = w.length ∧ w.length ≤ 8) ∧ (∀ k : Int, 0 ≤ k → k < w.length → gI h (a + 1) k.toNat = iI (w.getD k.toNat 0)) ∧ ∀ k : Int, 0 ≤ k → k < w.length → 97 ≤ w.getD k.toNat 0 ∧ w.getD k.toNat 0 ≤ 122
section STR
variable {d : Nat} {h : XH} {K : Int32 → XH → Prop} {KU : XH → Prop} {a : Nat} {w : List Int}
theorem StC.fr {P : Nat → Nat → Bool} {h' : XH} (f : Fr P h h') (hp : ∀ a j, 1000000 ≤ a → P a j = false) (hS : StC h) : StC h' := fun j hj => by
  have q := hS j hj
  refine ⟨by rw [(f.2 _ _ (hp _ _ (by omega))).1]; exact q.1, fun k hk => by rw [(f.2 _ _ (hp _ _ (by omega))).1]; exact q.2 k hk⟩
theorem ss_of (hL : Lay h) (hS : StC h) (j : Nat) (hj : j < 47) (w : List Int) (hw : xsb.getD j [] = w) (hk : xCT.getD (2 * j) (0, 0) = (60, 0)) (hz : xCT.getD (2 * j + 1) (0, 0) = (2, w.length)) (hle : w.length ≤ 8) (hal : ∀ x ∈ w, 97 ≤ x ∧ x ≤ 122) : SS h (1000010 + 2 * j) w := by
  have c1 := hL.c (2 * j) 60 0 (by omega) hk
  have c2 := hL.c (2 * j + 1) 2 w.length (by omega) hz
  have r := hL.2.2.2.2.2.2 j hj
  have s := hS j hj
  rw [hw] at s
  refine ⟨⟨c1.1, by rw [r]; omega, s.1⟩, ⟨c2.1, c2.2, hle⟩, fun k k0 k1 => ?_, fun k k0 k1 => ?_⟩
  · rw [show 1000010 + 2 * j + 1 = 1000011 + 2 * j by omega]; exact s.2 k.toNat (by omega)
  · refine hal _ ?_
    rw [List.getD_eq_getElem?_getD, List.getElem?_eq_getElem (by omega : k.toNat < w.length)]
    exact List.getElem_mem _
theorem c_coder (hk : gK h a = 60) (h1 : gI h a 1 = iI 0) (kk : K (iI 0) h) : XW d 273 0 [.ref a] [] h (KI K) := by
  refine w_gs0 r_273_0 ?_
  refine w_if_eq r_273_3 (fun q => absurd q (by decide)) (fun _ => ?_)
  refine w_aload0 r_273_6 ?_
  refine v_getI r_273_7 hk h1 ?_
  refine w_goto r_273_10 ?_
  refine w_bret r_273_14 rfl ?_
  exact kk
theorem c_isLatin1 (hk : gK h a = 60) (h1 : gI h a 1 = iI 0) (kk : K (iI 1) h) : XW d 274 0 [.ref a] [] h (KI K) := by
  refine w_gs0 r_274_0 ?_
  refine w_if_eq r_274_3 (fun q => absurd q (by decide)) (fun _ => ?_)
  refine w_aload0 r_274_6 ?_
  refine v_getI r_274_7 hk h1 ?_
  refine v_if_ne r_274_10 (by omega) (fun q => absurd q (by omega)) (fun _ => ?_)
  refine w_iconst (v := iI 1) r_274_13 rfl ?_
  refine w_goto r_274_14 ?_
  refine w_zret r_274_18 (by decide) ?_
  exact kk
theorem c_length (hs : SS h a w) (kk : K (iI w.length) h) : XW (d + 1) 271 0 [.ref a] [] h (KI K) := by
  have hl := hs.2.1.2.2
  refine w_aload0 r_271_0 ?_
  refine w_getA (x := a + 1) r_271_1 hs.1.1 hs.1.2.1 (by omega) ?_
  refine v_len r_271_4 (by rw [hs.2.1.1]; decide) hs.2.1.2.1 ?_
  refine w_aload0 r_271_5 ?_
  refine k_273 r_271_6 hs.1.1 (Nat.le_of_ble_eq_true rfl) ?_
  refine c_coder hs.1.1 hs.1.2.2 ?_
  refine v_ishr r_271_9 (by omega) (by omega) ?_
  rw [show (w.length : Int) / 2 ^ (0 : Int).toNat = w.length by simp]
  refine w_iret r_271_10 ?_
  exact kk
theorem c_check {i n : Int} (hi : 0 ≤ i ∧ i < n) (hn : n ≤ 100) (kk : KU h) : XW (d + 1) 275 0 [.int (iI i), .int (iI n)] [] h (KV KU) := by
  refine w_iload0 r_275_0 ?_
  refine w_iload1 r_275_1 ?_
  refine w_gs2 r_275_2 ?_
  refine k_282 r_275_5 (Nat.le_of_ble_eq_true rfl) ?_
  refine w_iload0 r_282_0 ?_
  refine v_if_lt r_282_1 (by omega) (fun q => absurd q (by omega)) (fun _ => ?_)
  refine w_iload0 r_282_4 ?_
  refine w_iload1 r_282_5 ?_
  refine v_ic_lt r_282_6 (by omega) (by omega) (fun _ => ?_) (fun q => absurd q (by omega))
  refine w_iload0 r_282_16 ?_
  refine w_iret r_282_17 ?_
  refine w_popI r_275_8 ?_
  refine w_vret r_275_9 ?_
  exact kk
theorem i2c_all : ∀ n : Fin 26, ((iI (97 + (n.val : Int))).toUInt32 % 65536).toInt32 = iI (97 + (n.val : Int)) ∧ (iI (97 + (n.val : Int))).toUInt32.toUInt16.toUInt32.toInt32 = iI (97 + (n.val : Int)) := by decide +kernel
theorem c_charAt {i : Int} (hs : SS h a w) (hi : 0 ≤ i ∧ i < w.length) (kk : K (iI (w.getD i.toNat 0)) h) : XW (d + 3) 272 0 [.ref a, .int (iI i)] [] h (KI K) := by
  have hl := hs.2.1.2.2
  have hc := hs.2.2.2 i hi.1 hi.2
  have ge := hs.2.2.1 i hi.1 hi.2
  generalize w.getD i.toNat 0 = x at hc ge kk
  refine w_aload0 r_272_0 ?_
  refine k_274 r_272_1 hs.1.1 (Nat.le_of_ble_eq_true rfl) ?_
  refine c_isLatin1 hs.1.1 hs.1.2.2 ?_
  refine v_if_eq r_272_4 (by omega) (fun q => absurd q (by omega)) (fun _ => ?_)
  refine w_aload0 r_272_7 ?_
  refine w_getA (x := a + 1) r_272_8 hs.1.1 hs.1.2.1 (by omega) ?_
  refine w_iload1 r_272_11 ?_
  refine k_276 r_272_12 (Nat.le_of_ble_eq_true rfl) ?_
  refine w_iload1 r_276_0 ?_
  refine w_aload0 r_276_1 ?_
  refine v_len r_276_2 (by rw [hs.2.1.1]; decide) hs.2.1.2.1 ?_
  refine k_275 r_276_3 (Nat.le_of_ble_eq_true rfl) ?_
  refine c_check hi (by omega) ?_
  refine w_aload0 r_276_6 ?_
  refine w_iload1 r_276_7 ?_
  refine v_bald r_276_8 (Or.inl hs.2.1.1) hs.2.1.2.1 (by omega) hi ge ?_
  refine w_sipush (v := iI (255)) r_276_9 rfl ?_
  refine v_mask 8 r_276_12 (by decide) (by decide) (by omega) ?_
  rw [show x % 2 ^ 8 = x by omega]
  have fc : ∀ y : Int, 97 ≤ y → y ≤ 122 → ((iI y).toUInt32 % 65536).toInt32 = iI y ∧ (iI y).toUInt32.toUInt16.toUInt32.toInt32 = iI y := fun y a b => by
    have e : y = 97 + (((⟨(y - 97).toNat, by omega⟩ : Fin 26).val : Nat) : Int) := by show y = 97 + (((y - 97).toNat : Nat) : Int); omega
    rw [e]
    exact i2c_all _
  refine w_i2c r_276_13 ?_
  have fx := fc x hc.1 hc.2
  have nc : narrow .char (.int (iI x)) = .int (iI x) := by show Value.int _ = _; exact congrArg Value.int fx.2
  rw [fx.1]
  refine w_cret r_276_14 nc ?_
  refine w_cret r_272_15 nc ?_
  exact kk
abbrev sW_ground : List Int := [103, 114, 111, 117, 110, 100]
abbrev sW_rover : List Int := [114, 111, 118, 101, 114]
abbrev sW_try : List Int := [116, 114, 121]
abbrev sW_if : List Int := [105, 102]
abbrev sW_is : List Int := [105, 115]
abbrev sW_else : List Int := [101, 108, 115, 101]
abbrev sW_right : List Int := [114, 105, 103, 104, 116]
abbrev sW_left : List Int := [108, 101, 102, 116]
abbrev sW_up : List Int := [117, 112]
abbrev sW_down : List Int := [100, 111, 119, 110]
abbrev sW_sinks : List Int := [115, 105, 110, 107, 115]
abbrev sW_grips : List Int := [103, 114, 105, 112, 115]
abbrev sW_wheels : List Int := [119, 104, 101, 101, 108, 115]
abbrev sW_weight : List Int := [119, 101, 105, 103, 104, 116]
abbrev sW_clear : List Int := [99, 108, 101, 97, 114]
abbrev sW_tip : List Int := [116, 105, 112]
abbrev sW_drag : List Int := [100, 114, 97, 103]
abbrev sW_each : List Int := [101, 97, 99, 104]
abbrev sW_one : List Int := [111, 110, 101]
abbrev sW_cost : List Int := [99, 111, 115, 116]
theorem sS_0 (hL : Lay h) (hS : StC h) : SS h 1000010 sW_ground := ss_of hL hS 0 (by decide) sW_ground rfl rfl rfl (by decide) (by decide)
theorem sS_1 (hL : Lay h) (hS : StC h) : SS h 1000012 sW_ground := ss_of hL hS 1 (by decide) sW_ground rfl rfl rfl (by decide) (by decide)
theorem sS_2 (hL : Lay h) (hS : StC h) : SS h 1000014 sW_rover := ss_of hL hS 2 (by decide) sW_rover rfl rfl rfl (by decide) (by decide)
theorem sS_3 (hL : Lay h) (hS : StC h) : SS h 1000016 sW_try := ss_of hL hS 3 (by decide) sW_try rfl rfl rfl (by decide) (by decide)
theorem sS_4 (hL : Lay h) (hS : StC h) : SS h 1000018 sW_if := ss_of hL hS 4 (by decide) sW_if rfl rfl rfl (by decide) (by decide)
theorem sS_5 (hL : Lay h) (hS : StC h) : SS h 1000020 sW_is := ss_of hL hS 5 (by decide) sW_is rfl rfl rfl (by decide) (by decide)
theorem sS_6 (hL : Lay h) (hS : StC h) : SS h 1000022 sW_else := ss_of hL hS 6 (by decide) sW_else rfl rfl rfl (by decide) (by decide)
theorem sS_7 (hL : Lay h) (hS : StC h) : SS h 1000024 sW_right := ss_of hL hS 7 (by decide) sW_right rfl rfl rfl (by decide) (by decide)
theorem sS_8 (hL : Lay h) (hS : StC h) : SS h 1000026 sW_left := ss_of hL hS 8 (by decide) sW_left rfl rfl rfl (by decide) (by decide)
theorem sS_9 (hL : Lay h) (hS : StC h) : SS h 1000028 sW_up := ss_of hL hS 9 (by decide) sW_up rfl rfl rfl (by decide) (by decide)
theorem sS_10 (hL : Lay h) (hS : StC h) : SS h 1000030 sW_down := ss_of hL hS 10 (by decide) sW_down rfl rfl rfl (by decide) (by decide)
theorem sS_11 (hL : Lay h) (hS : StC h) : SS h 1000032 sW_sinks := ss_of hL hS 11 (by decide) sW_sinks rfl rfl rfl (by decide) (by decide)
theorem sS_12 (hL : Lay h) (hS : StC h) : SS h 1000034 sW_grips := ss_of hL hS 12 (by decide) sW_grips rfl rfl rfl (by decide) (by decide)
theorem sS_13 (hL : Lay h) (hS : StC h) : SS h 1000036 sW_rover := ss_of hL hS 13 (by decide) sW_rover rfl rfl rfl (by decide) (by decide)
theorem sS_14 (hL : Lay h) (hS : StC h) : SS h 1000038 sW_wheels := ss_of hL hS 14 (by decide) sW_wheels rfl rfl rfl (by decide) (by decide)
theorem sS_15 (hL : Lay h) (hS : StC h) : SS h 1000040 sW_weight := ss_of hL hS 15 (by decide) sW_weight rfl rfl rfl (by decide) (by decide)
theorem sS_16 (hL : Lay h) (hS : StC h) : SS h 1000042 sW_clear := ss_of hL hS 16 (by decide) sW_clear rfl rfl rfl (by decide) (by decide)
theorem sS_17 (hL : Lay h) (hS : StC h) : SS h 1000044 sW_tip := ss_of hL hS 17 (by decide) sW_tip rfl rfl rfl (by decide) (by decide)
theorem sS_18 (hL : Lay h) (hS : StC h) : SS h 1000046 sW_drag := ss_of hL hS 18 (by decide) sW_drag rfl rfl rfl (by decide) (by decide)
theorem sS_19 (hL : Lay h) (hS : StC h) : SS h 1000048 sW_try := ss_of hL hS 19 (by decide) sW_try rfl rfl rfl (by decide) (by decide)
theorem sS_20 (hL : Lay h) (hS : StC h) : SS h 1000050 sW_each := ss_of hL hS 20 (by decide) sW_each rfl rfl rfl (by decide) (by decide)
theorem sS_21 (hL : Lay h) (hS : StC h) : SS h 1000052 sW_one := ss_of hL hS 21 (by decide) sW_one rfl rfl rfl (by decide) (by decide)
theorem sS_22 (hL : Lay h) (hS : StC h) : SS h 1000054 sW_cost := ss_of hL hS 22 (by decide) sW_cost rfl rfl rfl (by decide) (by decide)
theorem sS_23 (hL : Lay h) (hS : StC h) : SS h 1000056 sW_if := ss_of hL hS 23 (by decide) sW_if rfl rfl rfl (by decide) (by decide)
theorem sS_24 (hL : Lay h) (hS : StC h) : SS h 1000058 sW_is := ss_of hL hS 24 (by decide) sW_is rfl rfl rfl (by decide) (by decide)
theorem sS_25 (hL : Lay h) (hS : StC h) : SS h 1000060 sW_else := ss_of hL hS 25 (by decide) sW_else rfl rfl rfl (by decide) (by decide)
theorem sS_27 (hL : Lay h) (hS : StC h) : SS h 1000064 sW_ground := ss_of hL hS 27 (by decide) sW_ground rfl rfl rfl (by decide) (by decide)
theorem sS_28 (hL : Lay h) (hS : StC h) : SS h 1000066 sW_rover := ss_of hL hS 28 (by decide) sW_rover rfl rfl rfl (by decide) (by decide)
theorem sS_29 (hL : Lay h) (hS : StC h) : SS h 1000068 sW_try := ss_of hL hS 29 (by decide) sW_try rfl rfl rfl (by decide) (by decide)
theorem sS_30 (hL : Lay h) (hS : StC h) : SS h 1000070 sW_if := ss_of hL hS 30 (by decide) sW_if rfl rfl rfl (by decide) (by decide)
theorem sS_31 (hL : Lay h) (hS : StC h) : SS h 1000072 sW_is := ss_of hL hS 31 (by decide) sW_is rfl rfl rfl (by decide) (by decide)
theorem sS_32 (hL : Lay h) (hS : StC h) : SS h 1000074 sW_else := ss_of hL hS 32 (by decide) sW_else rfl rfl rfl (by decide) (by decide)
theorem sS_33 (hL : Lay h) (hS : StC h) : SS h 1000076 sW_right := ss_of hL hS 33 (by decide) sW_right rfl rfl rfl (by decide) (by decide)
theorem sS_34 (hL : Lay h) (hS : StC h) : SS h 1000078 sW_left := ss_of hL hS 34 (by decide) sW_left rfl rfl rfl (by decide) (by decide)
theorem sS_35 (hL : Lay h) (hS : StC h) : SS h 1000080 sW_up := ss_of hL hS 35 (by decide) sW_up rfl rfl rfl (by decide) (by decide)
theorem sS_36 (hL : Lay h) (hS : StC h) : SS h 1000082 sW_down := ss_of hL hS 36 (by decide) sW_down rfl rfl rfl (by decide) (by decide)
theorem sS_37 (hL : Lay h) (hS : StC h) : SS h 1000084 sW_sinks := ss_of hL hS 37 (by decide) sW_sinks rfl rfl rfl (by decide) (by decide)
theorem sS_38 (hL : Lay h) (hS : StC h) : SS h 1000086 sW_grips := ss_of hL hS 38 (by decide) sW_grips rfl rfl rfl (by decide) (by decide)
theorem sS_39 (hL : Lay h) (hS : StC h) : SS h 1000088 sW_wheels := ss_of hL hS 39 (by decide) sW_wheels rfl rfl rfl (by decide) (by decide)
theorem sS_40 (hL : Lay h) (hS : StC h) : SS h 1000090 sW_weight := ss_of hL hS 40 (by decide) sW_weight rfl rfl rfl (by decide) (by decide)
theorem sS_41 (hL : Lay h) (hS : StC h) : SS h 1000092 sW_clear := ss_of hL hS 41 (by decide) sW_clear rfl rfl rfl (by decide) (by decide)
theorem sS_42 (hL : Lay h) (hS : StC h) : SS h 1000094 sW_tip := ss_of hL hS 42 (by decide) sW_tip rfl rfl rfl (by decide) (by decide)
theorem sS_43 (hL : Lay h) (hS : StC h) : SS h 1000096 sW_drag := ss_of hL hS 43 (by decide) sW_drag rfl rfl rfl (by decide) (by decide)
theorem sS_44 (hL : Lay h) (hS : StC h) : SS h 1000098 sW_each := ss_of hL hS 44 (by decide) sW_each rfl rfl rfl (by decide) (by decide)
theorem sS_45 (hL : Lay h) (hS : StC h) : SS h 1000100 sW_one := ss_of hL hS 45 (by decide) sW_one rfl rfl rfl (by decide) (by decide)
theorem sS_46 (hL : Lay h) (hS : StC h) : SS h 1000102 sW_cost := ss_of hL hS 46 (by decide) sW_cost rfl rfl rfl (by decide) (by decide)
end STR
