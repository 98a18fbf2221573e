/-! calls: count, the class -/
section OPE
variable {d : Nat} {h : XH} {K : Int32 → XH → Prop} {rb : Nat} {x : Int}
theorem c_count (hx : R32 x) (hL : Lay h) (hB : RB h rb) (hd : 0 ≤ zF h 80 3 ∧ zF h 80 3 ≤ 5)
    (k0 : x = 0 → K (iI (zF h rb 0)) h) (k1 : x = 1 → K (iI (zF h rb 4)) h) (k2 : x = 2 → K (iI (zF h rb 10)) h) (k3 : x = 3 → K (iI (zF h rb 11)) h) (k4 : x = 4 → K (iI (zF h rb 12)) h) (k5 : x = 5 → K (iI (zF h rb 13)) h) (k6 : x = 6 → K (iI (zF h rb 14)) h) (k7 : x = 7 → K (iI (zF h 91 2)) h) (k8 : x = 8 → K (iI (zF h 80 2)) h) (k9 : x = 9 → K (iI (zF h 80 3)) h)
    (k10 : x = 10 → K (iI (sumTo (fun i => if zA h 86 i = -1 then 1 else 0) (zF h 80 3).toNat)) h) (k11 : x = 11 → K (iI (zF h 1 8)) h) (k12 : x = 12 → K (iI (maxTo (zA h 108) 6)) h) (k13 : x = 13 → K (iI (zF h 1 1)) h) (k14 : ¬ (0 ≤ x ∧ x ≤ 13) → K (iI (-1)) h) :
    XW (d + 2) 152 0 [.ref 1, .int (iI x)] [] h (KI K) := by
  have hb := hB.1
  refine w_iload1 r_152_0 ?_
  by_cases s1_0 : x = 0
  · refine w_swI (k := 0) (tgt := 72) r_152_1 s1_0 (by omega) (by omega) rfl rfl ?_
    refine w_aload0 r_152_72 ?_
    refine w_getA (x := rb) r_152_73 (Lk_1 hL) hB.2.1 (RB.nz hb) ?_
    refine v_getI r_152_76 (Bk_ hL hb) (gI_F h (rb) 0) ?_
    refine w_iret r_152_79 ?_
    exact k0 (by omega)
  · by_cases s1_1 : x = 1
    · refine w_swI (k := 1) (tgt := 80) r_152_1 s1_1 (by omega) (by omega) rfl rfl ?_
      refine w_aload0 r_152_80 ?_
      refine w_getA (x := rb) r_152_81 (Lk_1 hL) hB.2.1 (RB.nz hb) ?_
      refine v_getI r_152_84 (Bk_ hL hb) (gI_F h (rb) 4) ?_
      refine w_iret r_152_87 ?_
      exact k1 (by omega)
    · by_cases s1_2 : x = 2
      · refine w_swI (k := 2) (tgt := 88) r_152_1 s1_2 (by omega) (by omega) rfl rfl ?_
        refine w_aload0 r_152_88 ?_
        refine w_getA (x := rb) r_152_89 (Lk_1 hL) hB.2.1 (RB.nz hb) ?_
        refine v_getI r_152_92 (Bk_ hL hb) (gI_F h (rb) 10) ?_
        refine w_iret r_152_95 ?_
        exact k2 (by omega)
      · by_cases s1_3 : x = 3
        · refine w_swI (k := 3) (tgt := 96) r_152_1 s1_3 (by omega) (by omega) rfl rfl ?_
          refine w_aload0 r_152_96 ?_
          refine w_getA (x := rb) r_152_97 (Lk_1 hL) hB.2.1 (RB.nz hb) ?_
          refine v_getI r_152_100 (Bk_ hL hb) (gI_F h (rb) 11) ?_
          refine w_iret r_152_103 ?_
          exact k3 (by omega)
        · by_cases s1_4 : x = 4
          · refine w_swI (k := 4) (tgt := 104) r_152_1 s1_4 (by omega) (by omega) rfl rfl ?_
            refine w_aload0 r_152_104 ?_
            refine w_getA (x := rb) r_152_105 (Lk_1 hL) hB.2.1 (RB.nz hb) ?_
            refine v_getI r_152_108 (Bk_ hL hb) (gI_F h (rb) 12) ?_
            refine w_iret r_152_111 ?_
            exact k4 (by omega)
          · by_cases s1_5 : x = 5
            · refine w_swI (k := 5) (tgt := 112) r_152_1 s1_5 (by omega) (by omega) rfl rfl ?_
              refine w_aload0 r_152_112 ?_
              refine w_getA (x := rb) r_152_113 (Lk_1 hL) hB.2.1 (RB.nz hb) ?_
              refine v_getI r_152_116 (Bk_ hL hb) (gI_F h (rb) 13) ?_
              refine w_iret r_152_119 ?_
              exact k5 (by omega)
            · by_cases s1_6 : x = 6
              · refine w_swI (k := 6) (tgt := 120) r_152_1 s1_6 (by omega) (by omega) rfl rfl ?_
                refine w_aload0 r_152_120 ?_
                refine w_getA (x := rb) r_152_121 (Lk_1 hL) hB.2.1 (RB.nz hb) ?_
                refine v_getI r_152_124 (Bk_ hL hb) (gI_F h (rb) 14) ?_
                refine w_iret r_152_127 ?_
                exact k6 (by omega)
              · by_cases s1_7 : x = 7
                · refine w_swI (k := 7) (tgt := 128) r_152_1 s1_7 (by omega) (by omega) rfl rfl ?_
                  refine w_aload0 r_152_128 ?_
                  refine w_getA (x := 91) r_152_129 (Lk_1 hL) (Lr_1_10 hL) (by decide) ?_
                  refine v_getI r_152_132 (Lk_91 hL) (gI_F h 91 2) ?_
                  refine w_iret r_152_135 ?_
                  exact k7 (by omega)
                · by_cases s1_8 : x = 8
                  · refine w_swI (k := 8) (tgt := 136) r_152_1 s1_8 (by omega) (by omega) rfl rfl ?_
                    refine w_aload0 r_152_136 ?_
                    refine w_getA (x := 80) r_152_137 (Lk_1 hL) (Lr_1_9 hL) (by decide) ?_
                    refine v_getI r_152_140 (Lk_80 hL) (gI_F h 80 2) ?_
                    refine w_iret r_152_143 ?_
                    exact k8 (by omega)
                  · by_cases s1_9 : x = 9
                    · refine w_swI (k := 9) (tgt := 144) r_152_1 s1_9 (by omega) (by omega) rfl rfl ?_
                      refine w_aload0 r_152_144 ?_
                      refine w_getA (x := 80) r_152_145 (Lk_1 hL) (Lr_1_9 hL) (by decide) ?_
                      refine v_getI r_152_148 (Lk_80 hL) (gI_F h 80 3) ?_
                      refine w_iret r_152_151 ?_
                      exact k9 (by omega)
                    · by_cases s1_10 : x = 10
                      · refine w_swI (k := 10) (tgt := 152) r_152_1 s1_10 (by omega) (by omega) rfl rfl ?_
                        refine w_aload0 r_152_152 ?_
                        refine w_getA (x := 80) r_152_153 (Lk_1 hL) (Lr_1_9 hL) (by decide) ?_
                        refine k_54 r_152_156 (Lk_80 hL) (Nat.le_of_ble_eq_true rfl) ?_
                        refine c_openDoubts hL hd ?_
                        refine w_iret r_152_159 ?_
                        exact k10 (by omega)
                      · by_cases s1_11 : x = 11
                        · refine w_swI (k := 11) (tgt := 160) r_152_1 s1_11 (by omega) (by omega) rfl rfl ?_
                          refine w_aload0 r_152_160 ?_
                          refine v_getI r_152_161 (Lk_1 hL) (gI_F h 1 8) ?_
                          refine w_iret r_152_164 ?_
                          exact k11 (by omega)
                        · by_cases s1_12 : x = 12
                          · refine w_swI (k := 12) (tgt := 165) r_152_1 s1_12 (by omega) (by omega) rfl rfl ?_
                            refine w_aload0 r_152_165 ?_
                            refine w_getA (x := 107) r_152_166 (Lk_1 hL) (Lr_1_14 hL) (by decide) ?_
                            refine k_23 r_152_169 (Lk_107 hL) (Nat.le_of_ble_eq_true rfl) ?_
                            refine c_deepest (d := d) hL ?_
                            refine w_iret r_152_172 ?_
                            exact k12 (by omega)
                          · by_cases s1_13 : x = 13
                            · refine w_swI (k := 13) (tgt := 173) r_152_1 s1_13 (by omega) (by omega) rfl rfl ?_
                              refine w_aload0 r_152_173 ?_
                              refine v_getI r_152_174 (Lk_1 hL) (gI_F h 1 1) ?_
                              refine w_iret r_152_177 ?_
                              exact k13 (by omega)
                            · refine w_swO (tgt := 178) r_152_1 (by omega) (by omega) rfl ?_
                              refine w_iconst (v := iI (-1)) r_152_178 rfl ?_
                              refine w_iret r_152_179 ?_
                              exact k14 (by omega)
end OPE
