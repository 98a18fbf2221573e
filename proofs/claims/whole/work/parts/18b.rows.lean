/-! every row is so (0) -/
set_option maxRecDepth 100000 in
theorem xok_0 : xt0.all (xok ym0) = true := by decide +kernel
set_option maxRecDepth 100000 in
theorem xok_1 : xt1.all (xok ym1) = true := by decide +kernel
set_option maxRecDepth 100000 in
theorem xok_2 : xt2.all (xok ym2) = true := by decide +kernel
set_option maxRecDepth 100000 in
theorem xok_3 : xt3.all (xok ym3) = true := by decide +kernel
set_option maxRecDepth 100000 in
theorem xok_4 : xt4.all (xok ym4) = true := by decide +kernel
set_option maxRecDepth 100000 in
theorem xok_5 : xt5.all (xok ym5) = true := by decide +kernel
set_option maxRecDepth 100000 in
theorem xok_6 : xt6.all (xok ym6) = true := by decide +kernel
set_option maxRecDepth 100000 in
theorem xok_7 : xt7.all (xok ym7) = true := by decide +kernel
set_option maxRecDepth 100000 in
theorem xok_8 : xt8.all (xok ym8) = true := by decide +kernel
set_option maxRecDepth 100000 in
theorem xok_9 : xt9.all (xok ym9) = true := by decide +kernel
set_option maxRecDepth 100000 in
theorem xok_10 : xt10.all (xok ym10) = true := by decide +kernel
set_option maxRecDepth 100000 in
theorem xok_11 : xt11.all (xok ym11) = true := by decide +kernel
set_option maxRecDepth 100000 in
theorem xok_12 : xt12.all (xok ym12) = true := by decide +kernel
set_option maxRecDepth 100000 in
theorem xok_13 : xt13.all (xok ym13) = true := by decide +kernel
set_option maxRecDepth 100000 in
theorem xok_14 : xt14.all (xok ym14) = true := by decide +kernel
set_option maxRecDepth 100000 in
theorem xok_15 : xt15.all (xok ym15) = true := by decide +kernel
set_option maxRecDepth 100000 in
theorem xok_16 : xt16.all (xok ym16) = true := by decide +kernel
set_option maxRecDepth 100000 in
theorem xok_17 : xt17.all (xok ym17) = true := by decide +kernel
set_option maxRecDepth 100000 in
theorem xok_18 : xt18.all (xok ym18) = true := by decide +kernel
set_option maxRecDepth 100000 in
theorem xok_19 : xt19.all (xok ym19) = true := by decide +kernel
set_option maxRecDepth 100000 in
theorem xok_20 : xt20.all (xok ym20) = true := by decide +kernel
set_option maxRecDepth 100000 in
theorem xok_21 : xt21.all (xok ym21) = true := by decide +kernel
set_option maxRecDepth 100000 in
theorem xok_22 : xt22.all (xok ym22) = true := by decide +kernel
set_option maxRecDepth 100000 in
theorem xok_23 : xt23.all (xok ym23) = true := by decide +kernel
set_option maxRecDepth 100000 in
theorem xok_24 : xt24.all (xok ym24) = true := by decide +kernel
set_option maxRecDepth 100000 in
theorem xok_25 : xt25.all (xok ym25) = true := by decide +kernel
set_option maxRecDepth 100000 in
theorem xok_26 : xt26.all (xok ym26) = true := by decide +kernel
set_option maxRecDepth 100000 in
theorem xok_27 : xt27.all (xok ym27) = true := by decide +kernel
set_option maxRecDepth 100000 in
theorem xok_28 : xt28.all (xok ym28) = true := by decide +kernel
set_option maxRecDepth 100000 in
theorem xok_29 : xt29.all (xok ym29) = true := by decide +kernel
set_option maxRecDepth 100000 in
theorem xok_30 : xt30.all (xok ym30) = true := by decide +kernel
set_option maxRecDepth 100000 in
theorem xok_31 : xt31.all (xok ym31) = true := by decide +kernel
set_option maxRecDepth 100000 in
theorem xok_32 : xt32.all (xok ym32) = true := by decide +kernel
set_option maxRecDepth 100000 in
theorem xok_33 : xt33.all (xok ym33) = true := by decide +kernel
set_option maxRecDepth 100000 in
theorem xok_34 : xt34.all (xok ym34) = true := by decide +kernel
set_option maxRecDepth 100000 in
theorem xok_35 : xt35.all (xok ym35) = true := by decide +kernel
set_option maxRecDepth 100000 in
theorem xok_36 : xt36.all (xok ym36) = true := by decide +kernel
set_option maxRecDepth 100000 in
theorem xok_37 : xt37.all (xok ym37) = true := by decide +kernel
set_option maxRecDepth 100000 in
theorem xok_38 : xt38.all (xok ym38) = true := by decide +kernel
set_option maxRecDepth 100000 in
theorem xok_39 : xt39.all (xok ym39) = true := by decide +kernel
set_option maxRecDepth 100000 in
theorem xok_40 : xt40.all (xok ym40) = true := by decide +kernel
set_option maxRecDepth 100000 in
theorem xok_41 : xt41.all (xok ym41) = true := by decide +kernel
set_option maxRecDepth 100000 in
theorem xok_42 : xt42.all (xok ym42) = true := by decide +kernel
set_option maxRecDepth 100000 in
theorem xok_43 : xt43.all (xok ym43) = true := by decide +kernel
set_option maxRecDepth 100000 in
theorem xok_44 : xt44.all (xok ym44) = true := by decide +kernel
set_option maxRecDepth 100000 in
theorem xok_45 : xt45.all (xok ym45) = true := by decide +kernel
set_option maxRecDepth 100000 in
theorem xok_46 : xt46.all (xok ym46) = true := by decide +kernel
set_option maxRecDepth 100000 in
theorem xok_47 : xt47.all (xok ym47) = true := by decide +kernel
set_option maxRecDepth 100000 in
theorem xok_48 : xt48.all (xok ym48) = true := by decide +kernel
set_option maxRecDepth 100000 in
theorem xok_49 : xt49.all (xok ym49) = true := by decide +kernel
set_option maxRecDepth 100000 in
theorem xok_50 : xt50.all (xok ym50) = true := by decide +kernel
set_option maxRecDepth 100000 in
theorem xok_51 : xt51.all (xok ym51) = true := by decide +kernel
set_option maxRecDepth 100000 in
theorem xok_52 : xt52.all (xok ym52) = true := by decide +kernel
set_option maxRecDepth 100000 in
theorem xok_53 : xt53.all (xok ym53) = true := by decide +kernel
set_option maxRecDepth 100000 in
theorem xok_54 : xt54.all (xok ym54) = true := by decide +kernel
set_option maxRecDepth 100000 in
theorem xok_55 : xt55.all (xok ym55) = true := by decide +kernel
set_option maxRecDepth 100000 in
theorem xok_56 : xt56.all (xok ym56) = true := by decide +kernel
set_option maxRecDepth 100000 in
theorem xok_57 : xt57.all (xok ym57) = true := by decide +kernel
set_option maxRecDepth 100000 in
theorem xok_58 : xt58.all (xok ym58) = true := by decide +kernel
set_option maxRecDepth 100000 in
theorem xok_59 : xt59.all (xok ym59) = true := by decide +kernel
set_option maxRecDepth 100000 in
theorem xok_60 : xt60.all (xok ym60) = true := by decide +kernel
set_option maxRecDepth 100000 in
theorem xok_61 : xt61.all (xok ym61) = true := by decide +kernel
set_option maxRecDepth 100000 in
theorem xok_62 : xt62.all (xok ym62) = true := by decide +kernel
set_option maxRecDepth 100000 in
theorem xok_63 : xt63.all (xok ym63) = true := by decide +kernel
set_option maxRecDepth 100000 in
theorem xok_64 : xt64.all (xok ym64) = true := by decide +kernel
set_option maxRecDepth 100000 in
theorem xok_65 : xt65.all (xok ym65) = true := by decide +kernel
set_option maxRecDepth 100000 in
theorem xok_66 : xt66.all (xok ym66) = true := by decide +kernel
set_option maxRecDepth 100000 in
theorem xok_67 : xt67.all (xok ym67) = true := by decide +kernel
set_option maxRecDepth 100000 in
theorem xok_68 : xt68.all (xok ym68) = true := by decide +kernel
set_option maxRecDepth 100000 in
theorem xok_69 : xt69.all (xok ym69) = true := by decide +kernel
set_option maxRecDepth 100000 in
theorem xok_70 : xt70.all (xok ym70) = true := by decide +kernel
set_option maxRecDepth 100000 in
theorem xok_71 : xt71.all (xok ym71) = true := by decide +kernel
set_option maxRecDepth 100000 in
theorem xok_72 : xt72.all (xok ym72) = true := by decide +kernel
set_option maxRecDepth 100000 in
theorem xok_73 : xt73.all (xok ym73) = true := by decide +kernel
set_option maxRecDepth 100000 in
theorem xok_74 : xt74.all (xok ym74) = true := by decide +kernel
set_option maxRecDepth 100000 in
theorem xok_75 : xt75.all (xok ym75) = true := by decide +kernel
set_option maxRecDepth 100000 in
theorem xok_76 : xt76.all (xok ym76) = true := by decide +kernel
set_option maxRecDepth 100000 in
theorem xok_77 : xt77.all (xok ym77) = true := by decide +kernel
set_option maxRecDepth 100000 in
theorem xok_78 : xt78.all (xok ym78) = true := by decide +kernel
set_option maxRecDepth 100000 in
theorem xok_79 : xt79.all (xok ym79) = true := by decide +kernel
set_option maxRecDepth 100000 in
theorem xok_80 : xt80.all (xok ym80) = true := by decide +kernel
set_option maxRecDepth 100000 in
theorem xok_81 : xt81.all (xok ym81) = true := by decide +kernel
set_option maxRecDepth 100000 in
theorem xok_82 : xt82.all (xok ym82) = true := by decide +kernel
set_option maxRecDepth 100000 in
theorem xok_83 : xt83.all (xok ym83) = true := by decide +kernel
set_option maxRecDepth 100000 in
theorem xok_84 : xt84.all (xok ym84) = true := by decide +kernel
set_option maxRecDepth 100000 in
theorem xok_85 : xt85.all (xok ym85) = true := by decide +kernel
set_option maxRecDepth 100000 in
theorem xok_86 : xt86.all (xok ym86) = true := by decide +kernel
set_option maxRecDepth 100000 in
theorem xok_87 : xt87.all (xok ym87) = true := by decide +kernel
set_option maxRecDepth 100000 in
theorem xok_88 : xt88.all (xok ym88) = true := by decide +kernel
set_option maxRecDepth 100000 in
theorem xok_89 : xt89.all (xok ym89) = true := by decide +kernel
set_option maxRecDepth 100000 in
theorem xok_90 : xt90.all (xok ym90) = true := by decide +kernel
set_option maxRecDepth 100000 in
theorem xok_91 : xt91.all (xok ym91) = true := by decide +kernel
set_option maxRecDepth 100000 in
theorem xok_92 : xt92.all (xok ym92) = true := by decide +kernel
set_option maxRecDepth 100000 in
theorem xok_93 : xt93.all (xok ym93) = true := by decide +kernel
set_option maxRecDepth 100000 in
theorem xok_94 : xt94.all (xok ym94) = true := by decide +kernel
set_option maxRecDepth 100000 in
theorem xok_95 : xt95.all (xok ym95) = true := by decide +kernel
set_option maxRecDepth 100000 in
theorem xok_96 : xt96.all (xok ym96) = true := by decide +kernel
set_option maxRecDepth 100000 in
theorem xok_97 : xt97.all (xok ym97) = true := by decide +kernel
set_option maxRecDepth 100000 in
theorem xok_98 : xt98.all (xok ym98) = true := by decide +kernel
set_option maxRecDepth 100000 in
theorem xok_99 : xt99.all (xok ym99) = true := by decide +kernel
