theorem okC_app {y : Nat} {b : ByteArray} {c d : List (Nat × Instr × Nat)} (h1 : okC y b c = true) (h2 : okC y b d = true) : okC y b (c ++ d) = true := by
  unfold okC at h1 h2 ⊢
  rw [List.all_append, h1, h2]; rfl
theorem zo_0_0 : okC 0 code zc0_0 = true := by decide +kernel
theorem zo_0_1 : okC 0 code zc0_1 = true := by decide +kernel
theorem zo_0_2 : okC 0 code zc0_2 = true := by decide +kernel
theorem zo_0_3 : okC 0 code zc0_3 = true := by decide +kernel
theorem zo_0_4 : okC 0 code zc0_4 = true := by decide +kernel
theorem zo_0_5 : okC 0 code zc0_5 = true := by decide +kernel
theorem zo_0_6 : okC 0 code zc0_6 = true := by decide +kernel
theorem zo_0_7 : okC 0 code zc0_7 = true := by decide +kernel
theorem zo_0_8 : okC 0 code zc0_8 = true := by decide +kernel
theorem zo_0_9 : okC 0 code zc0_9 = true := by decide +kernel
theorem zo_0_10 : okC 0 code zc0_10 = true := by decide +kernel
theorem zo_0_11 : okC 0 code zc0_11 = true := by decide +kernel
theorem zo_0_12 : okC 0 code zc0_12 = true := by decide +kernel
theorem zo_0_13 : okC 0 code zc0_13 = true := by decide +kernel
theorem zo_0_14 : okC 0 code zc0_14 = true := by decide +kernel
theorem zo_0_15 : okC 0 code zc0_15 = true := by decide +kernel
theorem zo_0_16 : okC 0 code zc0_16 = true := by decide +kernel
theorem zo_0_17 : okC 0 code zc0_17 = true := by decide +kernel
theorem zo_0_18 : okC 0 code zc0_18 = true := by decide +kernel
theorem zo_0_19 : okC 0 code zc0_19 = true := by decide +kernel
theorem zo_0_20 : okC 0 code zc0_20 = true := by decide +kernel
theorem zo_0_21 : okC 0 code zc0_21 = true := by decide +kernel
theorem zo_0_22 : okC 0 code zc0_22 = true := by decide +kernel
theorem zo_0_23 : okC 0 code zc0_23 = true := by decide +kernel
theorem zo_0_24 : okC 0 code zc0_24 = true := by decide +kernel
theorem zo_0_25 : okC 0 code zc0_25 = true := by decide +kernel
theorem zo_0_26 : okC 0 code zc0_26 = true := by decide +kernel
theorem zo_0_27 : okC 0 code zc0_27 = true := by decide +kernel
theorem zo_0_28 : okC 0 code zc0_28 = true := by decide +kernel
theorem zo_0_29 : okC 0 code zc0_29 = true := by decide +kernel
theorem zo_0_30 : okC 0 code zc0_30 = true := by decide +kernel
theorem zo_0_31 : okC 0 code zc0_31 = true := by decide +kernel
theorem zo_0_32 : okC 0 code zc0_32 = true := by decide +kernel
theorem zo_0_33 : okC 0 code zc0_33 = true := by decide +kernel
theorem zo_0_34 : okC 0 code zc0_34 = true := by decide +kernel
theorem zo_0_35 : okC 0 code zc0_35 = true := by decide +kernel
theorem zo_0_36 : okC 0 code zc0_36 = true := by decide +kernel
theorem zo_0_37 : okC 0 code zc0_37 = true := by decide +kernel
theorem zo_0_38 : okC 0 code zc0_38 = true := by decide +kernel
theorem zo_0_39 : okC 0 code zc0_39 = true := by decide +kernel
theorem zo_0_40 : okC 0 code zc0_40 = true := by decide +kernel
theorem zo_0_41 : okC 0 code zc0_41 = true := by decide +kernel
theorem zo_0_42 : okC 0 code zc0_42 = true := by decide +kernel
theorem zo_0_43 : okC 0 code zc0_43 = true := by decide +kernel
theorem zo_0_44 : okC 0 code zc0_44 = true := by decide +kernel
theorem zo_0_45 : okC 0 code zc0_45 = true := by decide +kernel
theorem zo_0_46 : okC 0 code zc0_46 = true := by decide +kernel
theorem zo_0_47 : okC 0 code zc0_47 = true := by decide +kernel
theorem zo_0_48 : okC 0 code zc0_48 = true := by decide +kernel
theorem zo_0_49 : okC 0 code zc0_49 = true := by decide +kernel
theorem zo_0_50 : okC 0 code zc0_50 = true := by decide +kernel
theorem zo_0_51 : okC 0 code zc0_51 = true := by decide +kernel
theorem zo_0_52 : okC 0 code zc0_52 = true := by decide +kernel
theorem zo_0_53 : okC 0 code zc0_53 = true := by decide +kernel
theorem zo_0_54 : okC 0 code zc0_54 = true := by decide +kernel
theorem zo_0_55 : okC 0 code zc0_55 = true := by decide +kernel
theorem zo_0_56 : okC 0 code zc0_56 = true := by decide +kernel
theorem zo_0_57 : okC 0 code zc0_57 = true := by decide +kernel
theorem zo_0_58 : okC 0 code zc0_58 = true := by decide +kernel
theorem zo_0_59 : okC 0 code zc0_59 = true := by decide +kernel
theorem zo_0_60 : okC 0 code zc0_60 = true := by decide +kernel
theorem zo_0 : okC 0 code zc0 = true := okC_app zo_0_0 (okC_app zo_0_1 (okC_app zo_0_2 (okC_app zo_0_3 (okC_app zo_0_4 (okC_app zo_0_5 (okC_app zo_0_6 (okC_app zo_0_7 (okC_app zo_0_8 (okC_app zo_0_9 (okC_app zo_0_10 (okC_app zo_0_11 (okC_app zo_0_12 (okC_app zo_0_13 (okC_app zo_0_14 (okC_app zo_0_15 (okC_app zo_0_16 (okC_app zo_0_17 (okC_app zo_0_18 (okC_app zo_0_19 (okC_app zo_0_20 (okC_app zo_0_21 (okC_app zo_0_22 (okC_app zo_0_23 (okC_app zo_0_24 (okC_app zo_0_25 (okC_app zo_0_26 (okC_app zo_0_27 (okC_app zo_0_28 (okC_app zo_0_29 (okC_app zo_0_30 (okC_app zo_0_31 (okC_app zo_0_32 (okC_app zo_0_33 (okC_app zo_0_34 (okC_app zo_0_35 (okC_app zo_0_36 (okC_app zo_0_37 (okC_app zo_0_38 (okC_app zo_0_39 (okC_app zo_0_40 (okC_app zo_0_41 (okC_app zo_0_42 (okC_app zo_0_43 (okC_app zo_0_44 (okC_app zo_0_45 (okC_app zo_0_46 (okC_app zo_0_47 (okC_app zo_0_48 (okC_app zo_0_49 (okC_app zo_0_50 (okC_app zo_0_51 (okC_app zo_0_52 (okC_app zo_0_53 (okC_app zo_0_54 (okC_app zo_0_55 (okC_app zo_0_56 (okC_app zo_0_57 (okC_app zo_0_58 (okC_app zo_0_59 (zo_0_60))))))))))))))))))))))))))))))))))))))))))))))))))))))))))))
theorem zo_1_0 : okC 1 prog_13_method_1_code zc1_0 = true := by decide +kernel
theorem zo_1_1 : okC 1 prog_13_method_1_code zc1_1 = true := by decide +kernel
theorem zo_1_2 : okC 1 prog_13_method_1_code zc1_2 = true := by decide +kernel
theorem zo_1_3 : okC 1 prog_13_method_1_code zc1_3 = true := by decide +kernel
theorem zo_1_4 : okC 1 prog_13_method_1_code zc1_4 = true := by decide +kernel
theorem zo_1 : okC 1 prog_13_method_1_code zc1 = true := okC_app zo_1_0 (okC_app zo_1_1 (okC_app zo_1_2 (okC_app zo_1_3 (zo_1_4))))
theorem zo_2 : okC 2 prog_13_method_3_code zc2 = true := by decide +kernel
theorem zo_3 : okC 3 prog_13_method_4_code zc3 = true := by decide +kernel
theorem zo_4 : okC 4 prog_13_method_5_code zc4 = true := by decide +kernel
theorem zo_5 : okC 5 prog_13_method_6_code zc5 = true := by decide +kernel
theorem zo_6 : okC 6 prog_13_method_7_code zc6 = true := by decide +kernel
theorem zo_7 : okC 7 prog_13_method_8_code zc7 = true := by decide +kernel
theorem zo_8 : okC 8 prog_13_method_9_code zc8 = true := by decide +kernel
theorem zo_9 : okC 9 prog_13_method_10_code zc9 = true := by decide +kernel
theorem zo_10 : okC 10 prog_13_method_11_code zc10 = true := by decide +kernel
theorem zo_11_0 : okC 11 prog_13_method_12_code zc11_0 = true := by decide +kernel
theorem zo_11_1 : okC 11 prog_13_method_12_code zc11_1 = true := by decide +kernel
theorem zo_11 : okC 11 prog_13_method_12_code zc11 = true := okC_app zo_11_0 (zo_11_1)
theorem zo_12 : okC 12 prog_13_method_13_code zc12 = true := by decide +kernel
theorem zo_13_0 : okC 13 prog_13_method_14_code zc13_0 = true := by decide +kernel
theorem zo_13_1 : okC 13 prog_13_method_14_code zc13_1 = true := by decide +kernel
theorem zo_13_2 : okC 13 prog_13_method_14_code zc13_2 = true := by decide +kernel
theorem zo_13_3 : okC 13 prog_13_method_14_code zc13_3 = true := by decide +kernel
theorem zo_13 : okC 13 prog_13_method_14_code zc13 = true := okC_app zo_13_0 (okC_app zo_13_1 (okC_app zo_13_2 (zo_13_3)))
theorem zo_14 : okC 14 prog_13_method_15_code zc14 = true := by decide +kernel
theorem zo_15 : okC 15 prog_13_method_16_code zc15 = true := by decide +kernel
theorem zo_16 : okC 16 prog_13_method_17_code zc16 = true := by decide +kernel
theorem zo_17 : okC 17 prog_13_method_18_code zc17 = true := by decide +kernel
theorem zo_18 : okC 18 prog_13_method_19_code zc18 = true := by decide +kernel
theorem zo_19 : okC 19 prog_13_method_20_code zc19 = true := by decide +kernel
theorem zo_20 : okC 20 prog_13_method_21_code zc20 = true := by decide +kernel
theorem zo_21 : okC 21 prog_13_method_22_code zc21 = true := by decide +kernel
theorem zo_22 : okC 22 prog_13_method_23_code zc22 = true := by decide +kernel
theorem zo_23 : okC 23 prog_13_method_24_code zc23 = true := by decide +kernel
theorem zo_24 : okC 24 prog_13_method_25_code zc24 = true := by decide +kernel
theorem zo_25 : okC 25 prog_13_method_26_code zc25 = true := by decide +kernel
theorem zo_26_0 : okC 26 prog_13_method_27_code zc26_0 = true := by decide +kernel
theorem zo_26_1 : okC 26 prog_13_method_27_code zc26_1 = true := by decide +kernel
theorem zo_26 : okC 26 prog_13_method_27_code zc26 = true := okC_app zo_26_0 (zo_26_1)
theorem zo_27 : okC 27 prog_13_method_28_code zc27 = true := by decide +kernel
theorem zo_28 : okC 28 prog_13_method_29_code zc28 = true := by decide +kernel
theorem zo_29 : okC 29 prog_13_method_30_code zc29 = true := by decide +kernel
theorem zo_30 : okC 30 prog_13_method_31_code zc30 = true := by decide +kernel
theorem zo_31_0 : okC 31 prog_13_method_32_code zc31_0 = true := by decide +kernel
theorem zo_31_1 : okC 31 prog_13_method_32_code zc31_1 = true := by decide +kernel
theorem zo_31 : okC 31 prog_13_method_32_code zc31 = true := okC_app zo_31_0 (zo_31_1)
theorem zo_32_0 : okC 32 prog_13_method_33_code zc32_0 = true := by decide +kernel
theorem zo_32_1 : okC 32 prog_13_method_33_code zc32_1 = true := by decide +kernel
theorem zo_32 : okC 32 prog_13_method_33_code zc32 = true := okC_app zo_32_0 (zo_32_1)
theorem zo_33_0 : okC 33 prog_13_method_34_code zc33_0 = true := by decide +kernel
theorem zo_33_1 : okC 33 prog_13_method_34_code zc33_1 = true := by decide +kernel
theorem zo_33 : okC 33 prog_13_method_34_code zc33 = true := okC_app zo_33_0 (zo_33_1)
theorem zo_34_0 : okC 34 prog_13_method_35_code zc34_0 = true := by decide +kernel
theorem zo_34_1 : okC 34 prog_13_method_35_code zc34_1 = true := by decide +kernel
theorem zo_34 : okC 34 prog_13_method_35_code zc34 = true := okC_app zo_34_0 (zo_34_1)
theorem zo_35_0 : okC 35 prog_13_method_36_code zc35_0 = true := by decide +kernel
theorem zo_35_1 : okC 35 prog_13_method_36_code zc35_1 = true := by decide +kernel
theorem zo_35 : okC 35 prog_13_method_36_code zc35 = true := okC_app zo_35_0 (zo_35_1)
theorem zo_36_0 : okC 36 prog_13_method_37_code zc36_0 = true := by decide +kernel
theorem zo_36_1 : okC 36 prog_13_method_37_code zc36_1 = true := by decide +kernel
theorem zo_36 : okC 36 prog_13_method_37_code zc36 = true := okC_app zo_36_0 (zo_36_1)
theorem zo_37 : okC 37 prog_13_method_38_code zc37 = true := by decide +kernel
theorem zo_38 : okC 38 prog_13_method_39_code zc38 = true := by decide +kernel
theorem zo_39 : okC 39 prog_13_method_40_code zc39 = true := by decide +kernel
theorem zo_40_0 : okC 40 prog_13_method_41_code zc40_0 = true := by decide +kernel
theorem zo_40_1 : okC 40 prog_13_method_41_code zc40_1 = true := by decide +kernel
theorem zo_40 : okC 40 prog_13_method_41_code zc40 = true := okC_app zo_40_0 (zo_40_1)
theorem zo_41_0 : okC 41 prog_13_method_42_code zc41_0 = true := by decide +kernel
theorem zo_41_1 : okC 41 prog_13_method_42_code zc41_1 = true := by decide +kernel
theorem zo_41_2 : okC 41 prog_13_method_42_code zc41_2 = true := by decide +kernel
theorem zo_41_3 : okC 41 prog_13_method_42_code zc41_3 = true := by decide +kernel
theorem zo_41_4 : okC 41 prog_13_method_42_code zc41_4 = true := by decide +kernel
theorem zo_41 : okC 41 prog_13_method_42_code zc41 = true := okC_app zo_41_0 (okC_app zo_41_1 (okC_app zo_41_2 (okC_app zo_41_3 (zo_41_4))))
theorem zo_42 : okC 42 prog_13_method_43_code zc42 = true := by decide +kernel
theorem zo_43 : okC 43 prog_13_method_44_code zc43 = true := by decide +kernel
theorem zo_44 : okC 44 prog_13_method_45_code zc44 = true := by decide +kernel
theorem zo_45 : okC 45 prog_13_method_46_code zc45 = true := by decide +kernel
theorem zo_46_0 : okC 46 prog_13_method_47_code zc46_0 = true := by decide +kernel
theorem zo_46_1 : okC 46 prog_13_method_47_code zc46_1 = true := by decide +kernel
theorem zo_46_2 : okC 46 prog_13_method_47_code zc46_2 = true := by decide +kernel
theorem zo_46_3 : okC 46 prog_13_method_47_code zc46_3 = true := by decide +kernel
theorem zo_46_4 : okC 46 prog_13_method_47_code zc46_4 = true := by decide +kernel
theorem zo_46 : okC 46 prog_13_method_47_code zc46 = true := okC_app zo_46_0 (okC_app zo_46_1 (okC_app zo_46_2 (okC_app zo_46_3 (zo_46_4))))
theorem zo_47_0 : okC 47 prog_13_method_48_code zc47_0 = true := by decide +kernel
theorem zo_47_1 : okC 47 prog_13_method_48_code zc47_1 = true := by decide +kernel
theorem zo_47 : okC 47 prog_13_method_48_code zc47 = true := okC_app zo_47_0 (zo_47_1)
theorem zo_48 : okC 48 prog_13_method_49_code zc48 = true := by decide +kernel
theorem zo_49 : okC 49 prog_13_method_50_code zc49 = true := by decide +kernel
theorem zo_50 : okC 50 prog_13_method_51_code zc50 = true := by decide +kernel
theorem zo_51 : okC 51 prog_13_method_52_code zc51 = true := by decide +kernel
theorem zo_52 : okC 52 prog_13_method_53_code zc52 = true := by decide +kernel
theorem zo_53_0 : okC 53 prog_13_method_54_code zc53_0 = true := by decide +kernel
theorem zo_53_1 : okC 53 prog_13_method_54_code zc53_1 = true := by decide +kernel
theorem zo_53_2 : okC 53 prog_13_method_54_code zc53_2 = true := by decide +kernel
theorem zo_53 : okC 53 prog_13_method_54_code zc53 = true := okC_app zo_53_0 (okC_app zo_53_1 (zo_53_2))
theorem zo_54_0 : okC 54 prog_13_method_55_code zc54_0 = true := by decide +kernel
theorem zo_54_1 : okC 54 prog_13_method_55_code zc54_1 = true := by decide +kernel
theorem zo_54 : okC 54 prog_13_method_55_code zc54 = true := okC_app zo_54_0 (zo_54_1)
theorem zo_55_0 : okC 55 prog_13_method_56_code zc55_0 = true := by decide +kernel
theorem zo_55_1 : okC 55 prog_13_method_56_code zc55_1 = true := by decide +kernel
theorem zo_55_2 : okC 55 prog_13_method_56_code zc55_2 = true := by decide +kernel
theorem zo_55_3 : okC 55 prog_13_method_56_code zc55_3 = true := by decide +kernel
theorem zo_55_4 : okC 55 prog_13_method_56_code zc55_4 = true := by decide +kernel
theorem zo_55_5 : okC 55 prog_13_method_56_code zc55_5 = true := by decide +kernel
theorem zo_55_6 : okC 55 prog_13_method_56_code zc55_6 = true := by decide +kernel
theorem zo_55_7 : okC 55 prog_13_method_56_code zc55_7 = true := by decide +kernel
theorem zo_55 : okC 55 prog_13_method_56_code zc55 = true := okC_app zo_55_0 (okC_app zo_55_1 (okC_app zo_55_2 (okC_app zo_55_3 (okC_app zo_55_4 (okC_app zo_55_5 (okC_app zo_55_6 (zo_55_7)))))))
theorem zo_56_0 : okC 56 prog_13_method_57_code zc56_0 = true := by decide +kernel
theorem zo_56_1 : okC 56 prog_13_method_57_code zc56_1 = true := by decide +kernel
theorem zo_56_2 : okC 56 prog_13_method_57_code zc56_2 = true := by decide +kernel
theorem zo_56 : okC 56 prog_13_method_57_code zc56 = true := okC_app zo_56_0 (okC_app zo_56_1 (zo_56_2))
theorem zo_57_0 : okC 57 prog_13_method_58_code zc57_0 = true := by decide +kernel
theorem zo_57_1 : okC 57 prog_13_method_58_code zc57_1 = true := by decide +kernel
theorem zo_57_2 : okC 57 prog_13_method_58_code zc57_2 = true := by decide +kernel
theorem zo_57_3 : okC 57 prog_13_method_58_code zc57_3 = true := by decide +kernel
theorem zo_57_4 : okC 57 prog_13_method_58_code zc57_4 = true := by decide +kernel
theorem zo_57_5 : okC 57 prog_13_method_58_code zc57_5 = true := by decide +kernel
theorem zo_57_6 : okC 57 prog_13_method_58_code zc57_6 = true := by decide +kernel
theorem zo_57 : okC 57 prog_13_method_58_code zc57 = true := okC_app zo_57_0 (okC_app zo_57_1 (okC_app zo_57_2 (okC_app zo_57_3 (okC_app zo_57_4 (okC_app zo_57_5 (zo_57_6))))))
theorem zo_58_0 : okC 58 prog_13_method_59_code zc58_0 = true := by decide +kernel
theorem zo_58_1 : okC 58 prog_13_method_59_code zc58_1 = true := by decide +kernel
theorem zo_58 : okC 58 prog_13_method_59_code zc58 = true := okC_app zo_58_0 (zo_58_1)
theorem zo_59_0 : okC 59 prog_13_method_60_code zc59_0 = true := by decide +kernel
theorem zo_59_1 : okC 59 prog_13_method_60_code zc59_1 = true := by decide +kernel
theorem zo_59 : okC 59 prog_13_method_60_code zc59 = true := okC_app zo_59_0 (zo_59_1)
theorem zo_60 : okC 60 prog_13_method_61_code zc60 = true := by decide +kernel
theorem zo_61_0 : okC 61 prog_13_method_62_code zc61_0 = true := by decide +kernel
theorem zo_61_1 : okC 61 prog_13_method_62_code zc61_1 = true := by decide +kernel
theorem zo_61 : okC 61 prog_13_method_62_code zc61 = true := okC_app zo_61_0 (zo_61_1)
theorem zo_62_0 : okC 62 prog_13_method_63_code zc62_0 = true := by decide +kernel
theorem zo_62_1 : okC 62 prog_13_method_63_code zc62_1 = true := by decide +kernel
theorem zo_62 : okC 62 prog_13_method_63_code zc62 = true := okC_app zo_62_0 (zo_62_1)
theorem zo_63_0 : okC 63 prog_13_method_64_code zc63_0 = true := by decide +kernel
theorem zo_63_1 : okC 63 prog_13_method_64_code zc63_1 = true := by decide +kernel
theorem zo_63 : okC 63 prog_13_method_64_code zc63 = true := okC_app zo_63_0 (zo_63_1)
theorem zo_64_0 : okC 64 prog_13_method_65_code zc64_0 = true := by decide +kernel
theorem zo_64_1 : okC 64 prog_13_method_65_code zc64_1 = true := by decide +kernel
theorem zo_64_2 : okC 64 prog_13_method_65_code zc64_2 = true := by decide +kernel
theorem zo_64_3 : okC 64 prog_13_method_65_code zc64_3 = true := by decide +kernel
theorem zo_64_4 : okC 64 prog_13_method_65_code zc64_4 = true := by decide +kernel
theorem zo_64_5 : okC 64 prog_13_method_65_code zc64_5 = true := by decide +kernel
theorem zo_64_6 : okC 64 prog_13_method_65_code zc64_6 = true := by decide +kernel
theorem zo_64 : okC 64 prog_13_method_65_code zc64 = true := okC_app zo_64_0 (okC_app zo_64_1 (okC_app zo_64_2 (okC_app zo_64_3 (okC_app zo_64_4 (okC_app zo_64_5 (zo_64_6))))))
theorem zo_65 : okC 65 prog_13_method_66_code zc65 = true := by decide +kernel
theorem zo_66 : okC 66 prog_13_method_67_code zc66 = true := by decide +kernel
theorem zo_67 : okC 67 prog_13_method_68_code zc67 = true := by decide +kernel
theorem zo_68 : okC 68 prog_13_method_69_code zc68 = true := by decide +kernel
theorem zo_69_0 : okC 69 prog_13_method_70_code zc69_0 = true := by decide +kernel
theorem zo_69_1 : okC 69 prog_13_method_70_code zc69_1 = true := by decide +kernel
theorem zo_69_2 : okC 69 prog_13_method_70_code zc69_2 = true := by decide +kernel
theorem zo_69 : okC 69 prog_13_method_70_code zc69 = true := okC_app zo_69_0 (okC_app zo_69_1 (zo_69_2))
theorem zo_70_0 : okC 70 prog_13_method_71_code zc70_0 = true := by decide +kernel
theorem zo_70_1 : okC 70 prog_13_method_71_code zc70_1 = true := by decide +kernel
theorem zo_70 : okC 70 prog_13_method_71_code zc70 = true := okC_app zo_70_0 (zo_70_1)
theorem zo_71 : okC 71 prog_13_method_72_code zc71 = true := by decide +kernel
theorem zo_72 : okC 72 prog_13_method_73_code zc72 = true := by decide +kernel
theorem zo_73 : okC 73 prog_13_method_74_code zc73 = true := by decide +kernel
theorem zo_74 : okC 74 prog_13_method_75_code zc74 = true := by decide +kernel
theorem zo_75 : okC 75 prog_13_method_76_code zc75 = true := by decide +kernel
theorem zo_76 : okC 76 prog_13_method_77_code zc76 = true := by decide +kernel
theorem zo_77 : okC 77 prog_13_method_78_code zc77 = true := by decide +kernel
theorem zo_78 : okC 78 prog_13_method_79_code zc78 = true := by decide +kernel
theorem zo_79 : okC 79 prog_13_method_80_code zc79 = true := by decide +kernel
theorem zo_80 : okC 80 prog_13_method_81_code zc80 = true := by decide +kernel
theorem zo_81 : okC 81 prog_13_method_82_code zc81 = true := by decide +kernel
theorem zo_82_0 : okC 82 prog_13_method_83_code zc82_0 = true := by decide +kernel
theorem zo_82_1 : okC 82 prog_13_method_83_code zc82_1 = true := by decide +kernel
theorem zo_82_2 : okC 82 prog_13_method_83_code zc82_2 = true := by decide +kernel
theorem zo_82_3 : okC 82 prog_13_method_83_code zc82_3 = true := by decide +kernel
theorem zo_82_4 : okC 82 prog_13_method_83_code zc82_4 = true := by decide +kernel
theorem zo_82_5 : okC 82 prog_13_method_83_code zc82_5 = true := by decide +kernel
theorem zo_82_6 : okC 82 prog_13_method_83_code zc82_6 = true := by decide +kernel
theorem zo_82 : okC 82 prog_13_method_83_code zc82 = true := okC_app zo_82_0 (okC_app zo_82_1 (okC_app zo_82_2 (okC_app zo_82_3 (okC_app zo_82_4 (okC_app zo_82_5 (zo_82_6))))))
theorem zo_83_0 : okC 83 prog_1_method_1_code zc83_0 = true := by decide +kernel
theorem zo_83_1 : okC 83 prog_1_method_1_code zc83_1 = true := by decide +kernel
theorem zo_83 : okC 83 prog_1_method_1_code zc83 = true := okC_app zo_83_0 (zo_83_1)
theorem zo_84 : okC 84 prog_1_method_2_code zc84 = true := by decide +kernel
theorem zo_85 : okC 85 prog_1_method_3_code zc85 = true := by decide +kernel
theorem zo_86 : okC 86 prog_1_method_4_code zc86 = true := by decide +kernel
theorem zo_87 : okC 87 prog_1_method_5_code zc87 = true := by decide +kernel
theorem zo_88 : okC 88 prog_1_method_6_code zc88 = true := by decide +kernel
theorem zo_89 : okC 89 prog_1_method_7_code zc89 = true := by decide +kernel
theorem zo_90 : okC 90 prog_1_method_8_code zc90 = true := by decide +kernel
theorem zo_91 : okC 91 prog_1_method_9_code zc91 = true := by decide +kernel
theorem zo_92_0 : okC 92 prog_1_method_10_code zc92_0 = true := by decide +kernel
theorem zo_92_1 : okC 92 prog_1_method_10_code zc92_1 = true := by decide +kernel
theorem zo_92 : okC 92 prog_1_method_10_code zc92 = true := okC_app zo_92_0 (zo_92_1)
theorem zo_93 : okC 93 prog_1_method_11_code zc93 = true := by decide +kernel
theorem zo_94 : okC 94 prog_1_method_12_code zc94 = true := by decide +kernel
theorem zo_95 : okC 95 prog_1_method_13_code zc95 = true := by decide +kernel
theorem zo_96 : okC 96 prog_1_method_14_code zc96 = true := by decide +kernel
theorem zo_97_0 : okC 97 prog_1_method_15_code zc97_0 = true := by decide +kernel
theorem zo_97_1 : okC 97 prog_1_method_15_code zc97_1 = true := by decide +kernel
theorem zo_97 : okC 97 prog_1_method_15_code zc97 = true := okC_app zo_97_0 (zo_97_1)
theorem zo_98_0 : okC 98 prog_1_method_16_code zc98_0 = true := by decide +kernel
theorem zo_98_1 : okC 98 prog_1_method_16_code zc98_1 = true := by decide +kernel
theorem zo_98 : okC 98 prog_1_method_16_code zc98 = true := okC_app zo_98_0 (zo_98_1)
theorem zo_99 : okC 99 prog_1_method_17_code zc99 = true := by decide +kernel
theorem zo_100_0 : okC 100 prog_1_method_18_code zc100_0 = true := by decide +kernel
theorem zo_100_1 : okC 100 prog_1_method_18_code zc100_1 = true := by decide +kernel
theorem zo_100 : okC 100 prog_1_method_18_code zc100 = true := okC_app zo_100_0 (zo_100_1)
theorem zo_101 : okC 101 prog_1_method_19_code zc101 = true := by decide +kernel
theorem zo_102 : okC 102 prog_1_method_20_code zc102 = true := by decide +kernel
theorem zo_103_0 : okC 103 prog_1_method_21_code zc103_0 = true := by decide +kernel
theorem zo_103_1 : okC 103 prog_1_method_21_code zc103_1 = true := by decide +kernel
theorem zo_103 : okC 103 prog_1_method_21_code zc103 = true := okC_app zo_103_0 (zo_103_1)
theorem zo_104 : okC 104 prog_1_method_22_code zc104 = true := by decide +kernel
theorem zo_105_0 : okC 105 prog_1_method_23_code zc105_0 = true := by decide +kernel
theorem zo_105_1 : okC 105 prog_1_method_23_code zc105_1 = true := by decide +kernel
theorem zo_105 : okC 105 prog_1_method_23_code zc105 = true := okC_app zo_105_0 (zo_105_1)
theorem zo_106 : okC 106 prog_1_method_24_code zc106 = true := by decide +kernel
theorem zo_107 : okC 107 prog_1_method_25_code zc107 = true := by decide +kernel
theorem zo_108 : okC 108 prog_1_method_26_code zc108 = true := by decide +kernel
theorem zo_109 : okC 109 prog_1_method_27_code zc109 = true := by decide +kernel
theorem zo_110 : okC 110 prog_1_method_28_code zc110 = true := by decide +kernel
theorem zo_111 : okC 111 prog_1_method_29_code zc111 = true := by decide +kernel
theorem zo_112 : okC 112 prog_1_method_30_code zc112 = true := by decide +kernel
theorem zo_113 : okC 113 prog_1_method_31_code zc113 = true := by decide +kernel
theorem zo_114_0 : okC 114 prog_1_method_32_code zc114_0 = true := by decide +kernel
theorem zo_114_1 : okC 114 prog_1_method_32_code zc114_1 = true := by decide +kernel
theorem zo_114_2 : okC 114 prog_1_method_32_code zc114_2 = true := by decide +kernel
theorem zo_114 : okC 114 prog_1_method_32_code zc114 = true := okC_app zo_114_0 (okC_app zo_114_1 (zo_114_2))
theorem zo_115 : okC 115 prog_1_method_33_code zc115 = true := by decide +kernel
theorem zo_116 : okC 116 prog_1_method_34_code zc116 = true := by decide +kernel
theorem zo_117 : okC 117 prog_1_method_35_code zc117 = true := by decide +kernel
theorem zo_118 : okC 118 prog_1_method_36_code zc118 = true := by decide +kernel
theorem zo_119 : okC 119 prog_1_method_37_code zc119 = true := by decide +kernel
theorem zo_120 : okC 120 prog_1_method_38_code zc120 = true := by decide +kernel
theorem zo_121 : okC 121 prog_1_method_39_code zc121 = true := by decide +kernel
theorem zo_122 : okC 122 prog_1_method_40_code zc122 = true := by decide +kernel
theorem zo_123 : okC 123 prog_1_method_41_code zc123 = true := by decide +kernel
theorem zo_124 : okC 124 prog_1_method_42_code zc124 = true := by decide +kernel
theorem zo_125 : okC 125 prog_2_method_1_code zc125 = true := by decide +kernel
theorem zo_126 : okC 126 prog_2_method_2_code zc126 = true := by decide +kernel
theorem zo_127 : okC 127 prog_2_method_3_code zc127 = true := by decide +kernel
theorem zo_128_0 : okC 128 prog_2_method_4_code zc128_0 = true := by decide +kernel
theorem zo_128_1 : okC 128 prog_2_method_4_code zc128_1 = true := by decide +kernel
theorem zo_128 : okC 128 prog_2_method_4_code zc128 = true := okC_app zo_128_0 (zo_128_1)
theorem zo_129_0 : okC 129 prog_2_method_5_code zc129_0 = true := by decide +kernel
theorem zo_129_1 : okC 129 prog_2_method_5_code zc129_1 = true := by decide +kernel
theorem zo_129 : okC 129 prog_2_method_5_code zc129 = true := okC_app zo_129_0 (zo_129_1)
theorem zo_130_0 : okC 130 prog_2_method_6_code zc130_0 = true := by decide +kernel
theorem zo_130_1 : okC 130 prog_2_method_6_code zc130_1 = true := by decide +kernel
theorem zo_130 : okC 130 prog_2_method_6_code zc130 = true := okC_app zo_130_0 (zo_130_1)
theorem zo_131 : okC 131 prog_2_method_7_code zc131 = true := by decide +kernel
theorem zo_132 : okC 132 prog_2_method_8_code zc132 = true := by decide +kernel
theorem zo_133 : okC 133 prog_2_method_9_code zc133 = true := by decide +kernel
theorem zo_134 : okC 134 prog_2_method_10_code zc134 = true := by decide +kernel
theorem zo_135 : okC 135 prog_2_method_11_code zc135 = true := by decide +kernel
theorem zo_136_0 : okC 136 prog_2_method_12_code zc136_0 = true := by decide +kernel
theorem zo_136_1 : okC 136 prog_2_method_12_code zc136_1 = true := by decide +kernel
theorem zo_136 : okC 136 prog_2_method_12_code zc136 = true := okC_app zo_136_0 (zo_136_1)
theorem zo_137 : okC 137 prog_3_method_1_code zc137 = true := by decide +kernel
theorem zo_138_0 : okC 138 prog_3_method_2_code zc138_0 = true := by decide +kernel
theorem zo_138_1 : okC 138 prog_3_method_2_code zc138_1 = true := by decide +kernel
theorem zo_138 : okC 138 prog_3_method_2_code zc138 = true := okC_app zo_138_0 (zo_138_1)
theorem zo_139 : okC 139 prog_3_method_3_code zc139 = true := by decide +kernel
theorem zo_140 : okC 140 prog_3_method_4_code zc140 = true := by decide +kernel
theorem zo_141_0 : okC 141 prog_3_method_5_code zc141_0 = true := by decide +kernel
theorem zo_141_1 : okC 141 prog_3_method_5_code zc141_1 = true := by decide +kernel
theorem zo_141 : okC 141 prog_3_method_5_code zc141 = true := okC_app zo_141_0 (zo_141_1)
theorem zo_142 : okC 142 prog_3_method_6_code zc142 = true := by decide +kernel
theorem zo_143_0 : okC 143 prog_3_method_7_code zc143_0 = true := by decide +kernel
theorem zo_143_1 : okC 143 prog_3_method_7_code zc143_1 = true := by decide +kernel
theorem zo_143 : okC 143 prog_3_method_7_code zc143 = true := okC_app zo_143_0 (zo_143_1)
theorem zo_144_0 : okC 144 prog_3_method_8_code zc144_0 = true := by decide +kernel
theorem zo_144_1 : okC 144 prog_3_method_8_code zc144_1 = true := by decide +kernel
theorem zo_144 : okC 144 prog_3_method_8_code zc144 = true := okC_app zo_144_0 (zo_144_1)
theorem zo_145 : okC 145 prog_3_method_9_code zc145 = true := by decide +kernel
theorem zo_146 : okC 146 prog_3_method_10_code zc146 = true := by decide +kernel
theorem zo_147 : okC 147 prog_3_method_11_code zc147 = true := by decide +kernel
theorem zo_148 : okC 148 prog_3_method_12_code zc148 = true := by decide +kernel
theorem zo_149 : okC 149 prog_4_method_1_code zc149 = true := by decide +kernel
theorem zo_150 : okC 150 prog_4_method_2_code zc150 = true := by decide +kernel
theorem zo_151_0 : okC 151 prog_4_method_3_code zc151_0 = true := by decide +kernel
theorem zo_151_1 : okC 151 prog_4_method_3_code zc151_1 = true := by decide +kernel
theorem zo_151 : okC 151 prog_4_method_3_code zc151 = true := okC_app zo_151_0 (zo_151_1)
theorem zo_152 : okC 152 prog_4_method_4_code zc152 = true := by decide +kernel
theorem zo_153 : okC 153 prog_4_method_5_code zc153 = true := by decide +kernel
theorem zo_154 : okC 154 prog_4_method_6_code zc154 = true := by decide +kernel
theorem zo_155 : okC 155 prog_4_method_7_code zc155 = true := by decide +kernel
theorem zo_156 : okC 156 prog_4_method_8_code zc156 = true := by decide +kernel
theorem zo_157 : okC 157 prog_4_method_9_code zc157 = true := by decide +kernel
theorem zo_158 : okC 158 prog_4_method_10_code zc158 = true := by decide +kernel
theorem zo_159 : okC 159 prog_4_method_11_code zc159 = true := by decide +kernel
theorem zo_160_0 : okC 160 prog_4_method_12_code zc160_0 = true := by decide +kernel
theorem zo_160_1 : okC 160 prog_4_method_12_code zc160_1 = true := by decide +kernel
theorem zo_160 : okC 160 prog_4_method_12_code zc160 = true := okC_app zo_160_0 (zo_160_1)
theorem zo_161 : okC 161 prog_5_method_1_code zc161 = true := by decide +kernel
theorem zo_162 : okC 162 prog_5_method_2_code zc162 = true := by decide +kernel
theorem zo_163_0 : okC 163 prog_5_method_3_code zc163_0 = true := by decide +kernel
theorem zo_163_1 : okC 163 prog_5_method_3_code zc163_1 = true := by decide +kernel
theorem zo_163 : okC 163 prog_5_method_3_code zc163 = true := okC_app zo_163_0 (zo_163_1)
theorem zo_164 : okC 164 prog_5_method_4_code zc164 = true := by decide +kernel
theorem zo_165 : okC 165 prog_6_method_1_code zc165 = true := by decide +kernel
theorem zo_166 : okC 166 prog_6_method_2_code zc166 = true := by decide +kernel
theorem zo_167 : okC 167 prog_6_method_3_code zc167 = true := by decide +kernel
theorem zo_168 : okC 168 prog_6_method_4_code zc168 = true := by decide +kernel
theorem zo_169_0 : okC 169 prog_6_method_5_code zc169_0 = true := by decide +kernel
theorem zo_169_1 : okC 169 prog_6_method_5_code zc169_1 = true := by decide +kernel
theorem zo_169 : okC 169 prog_6_method_5_code zc169 = true := okC_app zo_169_0 (zo_169_1)
theorem zo_170 : okC 170 prog_7_method_2_code zc170 = true := by decide +kernel
theorem zo_171 : okC 171 prog_7_method_3_code zc171 = true := by decide +kernel
theorem zo_172 : okC 172 prog_7_method_4_code zc172 = true := by decide +kernel
theorem zo_173 : okC 173 prog_7_method_5_code zc173 = true := by decide +kernel
theorem zo_174 : okC 174 prog_7_method_6_code zc174 = true := by decide +kernel
theorem zo_175 : okC 175 prog_8_method_1_code zc175 = true := by decide +kernel
theorem zo_176 : okC 176 prog_8_method_2_code zc176 = true := by decide +kernel
theorem zo_177_0 : okC 177 prog_8_method_3_code zc177_0 = true := by decide +kernel
theorem zo_177_1 : okC 177 prog_8_method_3_code zc177_1 = true := by decide +kernel
theorem zo_177 : okC 177 prog_8_method_3_code zc177 = true := okC_app zo_177_0 (zo_177_1)
theorem zo_178_0 : okC 178 prog_8_method_4_code zc178_0 = true := by decide +kernel
theorem zo_178_1 : okC 178 prog_8_method_4_code zc178_1 = true := by decide +kernel
theorem zo_178 : okC 178 prog_8_method_4_code zc178 = true := okC_app zo_178_0 (zo_178_1)
theorem zo_179 : okC 179 prog_8_method_5_code zc179 = true := by decide +kernel
theorem zo_180_0 : okC 180 prog_8_method_6_code zc180_0 = true := by decide +kernel
theorem zo_180_1 : okC 180 prog_8_method_6_code zc180_1 = true := by decide +kernel
theorem zo_180 : okC 180 prog_8_method_6_code zc180 = true := okC_app zo_180_0 (zo_180_1)
theorem zo_181 : okC 181 prog_8_method_7_code zc181 = true := by decide +kernel
theorem zo_182 : okC 182 prog_8_method_8_code zc182 = true := by decide +kernel
theorem zo_183 : okC 183 prog_8_method_9_code zc183 = true := by decide +kernel
theorem zo_184 : okC 184 prog_8_method_10_code zc184 = true := by decide +kernel
theorem zo_185 : okC 185 prog_8_method_11_code zc185 = true := by decide +kernel
theorem zo_186 : okC 186 prog_8_method_12_code zc186 = true := by decide +kernel
theorem zo_187 : okC 187 prog_8_method_13_code zc187 = true := by decide +kernel
theorem zo_188 : okC 188 prog_8_method_14_code zc188 = true := by decide +kernel
theorem zo_189 : okC 189 prog_8_method_15_code zc189 = true := by decide +kernel
theorem zo_190 : okC 190 prog_8_method_16_code zc190 = true := by decide +kernel
theorem zo_191 : okC 191 prog_8_method_17_code zc191 = true := by decide +kernel
theorem zo_192 : okC 192 prog_8_method_18_code zc192 = true := by decide +kernel
theorem zo_193 : okC 193 prog_8_method_19_code zc193 = true := by decide +kernel
theorem zo_194 : okC 194 prog_8_method_20_code zc194 = true := by decide +kernel
theorem zo_195 : okC 195 prog_8_method_21_code zc195 = true := by decide +kernel
theorem zo_196 : okC 196 prog_8_method_22_code zc196 = true := by decide +kernel
theorem zo_197 : okC 197 prog_8_method_23_code zc197 = true := by decide +kernel
theorem zo_198_0 : okC 198 prog_8_method_24_code zc198_0 = true := by decide +kernel
theorem zo_198_1 : okC 198 prog_8_method_24_code zc198_1 = true := by decide +kernel
theorem zo_198 : okC 198 prog_8_method_24_code zc198 = true := okC_app zo_198_0 (zo_198_1)
theorem zo_199 : okC 199 prog_9_method_1_code zc199 = true := by decide +kernel
theorem zo_200 : okC 200 prog_9_method_2_code zc200 = true := by decide +kernel
theorem zo_201 : okC 201 prog_9_method_3_code zc201 = true := by decide +kernel
theorem zo_202_0 : okC 202 prog_9_method_4_code zc202_0 = true := by decide +kernel
theorem zo_202_1 : okC 202 prog_9_method_4_code zc202_1 = true := by decide +kernel
theorem zo_202 : okC 202 prog_9_method_4_code zc202 = true := okC_app zo_202_0 (zo_202_1)
theorem zo_203 : okC 203 prog_9_method_5_code zc203 = true := by decide +kernel
theorem zo_204 : okC 204 prog_9_method_6_code zc204 = true := by decide +kernel
theorem zo_205_0 : okC 205 prog_10_method_1_code zc205_0 = true := by decide +kernel
theorem zo_205_1 : okC 205 prog_10_method_1_code zc205_1 = true := by decide +kernel
theorem zo_205 : okC 205 prog_10_method_1_code zc205 = true := okC_app zo_205_0 (zo_205_1)
theorem zo_206 : okC 206 prog_10_method_2_code zc206 = true := by decide +kernel
theorem zo_207 : okC 207 prog_10_method_3_code zc207 = true := by decide +kernel
theorem zo_208 : okC 208 prog_10_method_4_code zc208 = true := by decide +kernel
theorem zo_209 : okC 209 prog_10_method_5_code zc209 = true := by decide +kernel
theorem zo_210_0 : okC 210 prog_10_method_6_code zc210_0 = true := by decide +kernel
theorem zo_210_1 : okC 210 prog_10_method_6_code zc210_1 = true := by decide +kernel
theorem zo_210 : okC 210 prog_10_method_6_code zc210 = true := okC_app zo_210_0 (zo_210_1)
theorem zo_211_0 : okC 211 prog_10_method_7_code zc211_0 = true := by decide +kernel
theorem zo_211_1 : okC 211 prog_10_method_7_code zc211_1 = true := by decide +kernel
theorem zo_211 : okC 211 prog_10_method_7_code zc211 = true := okC_app zo_211_0 (zo_211_1)
theorem zo_212 : okC 212 prog_10_method_8_code zc212 = true := by decide +kernel
theorem zo_213 : okC 213 prog_10_method_9_code zc213 = true := by decide +kernel
theorem zo_214 : okC 214 prog_10_method_10_code zc214 = true := by decide +kernel
theorem zo_215_0 : okC 215 prog_10_method_11_code zc215_0 = true := by decide +kernel
theorem zo_215_1 : okC 215 prog_10_method_11_code zc215_1 = true := by decide +kernel
theorem zo_215 : okC 215 prog_10_method_11_code zc215 = true := okC_app zo_215_0 (zo_215_1)
theorem zo_216 : okC 216 prog_10_method_12_code zc216 = true := by decide +kernel
theorem zo_217 : okC 217 prog_10_method_13_code zc217 = true := by decide +kernel
theorem zo_218 : okC 218 prog_10_method_14_code zc218 = true := by decide +kernel
theorem zo_219 : okC 219 prog_10_method_15_code zc219 = true := by decide +kernel
theorem zo_220 : okC 220 prog_10_method_16_code zc220 = true := by decide +kernel
theorem zo_221 : okC 221 prog_10_method_17_code zc221 = true := by decide +kernel
theorem zo_222 : okC 222 prog_10_method_18_code zc222 = true := by decide +kernel
theorem zo_223_0 : okC 223 prog_10_method_19_code zc223_0 = true := by decide +kernel
theorem zo_223_1 : okC 223 prog_10_method_19_code zc223_1 = true := by decide +kernel
theorem zo_223 : okC 223 prog_10_method_19_code zc223 = true := okC_app zo_223_0 (zo_223_1)
theorem zo_224_0 : okC 224 prog_10_method_20_code zc224_0 = true := by decide +kernel
theorem zo_224_1 : okC 224 prog_10_method_20_code zc224_1 = true := by decide +kernel
theorem zo_224 : okC 224 prog_10_method_20_code zc224 = true := okC_app zo_224_0 (zo_224_1)
theorem zo_225 : okC 225 prog_10_method_21_code zc225 = true := by decide +kernel
theorem zo_226_0 : okC 226 prog_10_method_22_code zc226_0 = true := by decide +kernel
theorem zo_226_1 : okC 226 prog_10_method_22_code zc226_1 = true := by decide +kernel
theorem zo_226 : okC 226 prog_10_method_22_code zc226 = true := okC_app zo_226_0 (zo_226_1)
theorem zo_227 : okC 227 prog_10_method_23_code zc227 = true := by decide +kernel
theorem zo_228 : okC 228 prog_11_method_1_code zc228 = true := by decide +kernel
theorem zo_229 : okC 229 prog_11_method_2_code zc229 = true := by decide +kernel
theorem zo_230 : okC 230 prog_11_method_3_code zc230 = true := by decide +kernel
theorem zo_231 : okC 231 prog_11_method_4_code zc231 = true := by decide +kernel
theorem zo_232 : okC 232 prog_11_method_5_code zc232 = true := by decide +kernel
theorem zo_233 : okC 233 prog_11_method_6_code zc233 = true := by decide +kernel
theorem zo_234 : okC 234 prog_11_method_7_code zc234 = true := by decide +kernel
theorem zo_235 : okC 235 prog_11_method_8_code zc235 = true := by decide +kernel
theorem zo_236_0 : okC 236 prog_11_method_9_code zc236_0 = true := by decide +kernel
theorem zo_236_1 : okC 236 prog_11_method_9_code zc236_1 = true := by decide +kernel
theorem zo_236 : okC 236 prog_11_method_9_code zc236 = true := okC_app zo_236_0 (zo_236_1)
theorem zo_237_0 : okC 237 prog_11_method_10_code zc237_0 = true := by decide +kernel
theorem zo_237_1 : okC 237 prog_11_method_10_code zc237_1 = true := by decide +kernel
theorem zo_237 : okC 237 prog_11_method_10_code zc237 = true := okC_app zo_237_0 (zo_237_1)
theorem zo_238_0 : okC 238 prog_14_method_49_code zc238_0 = true := by decide +kernel
theorem zo_238_1 : okC 238 prog_14_method_49_code zc238_1 = true := by decide +kernel
theorem zo_238 : okC 238 prog_14_method_49_code zc238 = true := okC_app zo_238_0 (zo_238_1)
theorem zo_239 : okC 239 prog_16_method_54_code zc239 = true := by decide +kernel
theorem zo_240 : okC 240 prog_16_method_56_code zc240 = true := by decide +kernel
theorem zo_241 : okC 241 prog_16_method_152_code zc241 = true := by decide +kernel
theorem zo_242 : okC 242 prog_16_method_154_code zc242 = true := by decide +kernel
theorem zo_243 : okC 243 prog_16_method_155_code zc243 = true := by decide +kernel
theorem zo_244 : okC 244 prog_17_method_2_code zc244 = true := by decide +kernel
theorem zo_245 : okC 245 prog_20_method_11_code zc245 = true := by decide +kernel
theorem z_ok_all : ∀ j, j < 246 → okC j (z_by j) (z_coL.getD j []) = true := by
  intro j h1
  match j, h1 with
  | 0, _ => exact zo_0
  | 1, _ => exact zo_1
  | 2, _ => exact zo_2
  | 3, _ => exact zo_3
  | 4, _ => exact zo_4
  | 5, _ => exact zo_5
  | 6, _ => exact zo_6
  | 7, _ => exact zo_7
  | 8, _ => exact zo_8
  | 9, _ => exact zo_9
  | 10, _ => exact zo_10
  | 11, _ => exact zo_11
  | 12, _ => exact zo_12
  | 13, _ => exact zo_13
  | 14, _ => exact zo_14
  | 15, _ => exact zo_15
  | 16, _ => exact zo_16
  | 17, _ => exact zo_17
  | 18, _ => exact zo_18
  | 19, _ => exact zo_19
  | 20, _ => exact zo_20
  | 21, _ => exact zo_21
  | 22, _ => exact zo_22
  | 23, _ => exact zo_23
  | 24, _ => exact zo_24
  | 25, _ => exact zo_25
  | 26, _ => exact zo_26
  | 27, _ => exact zo_27
  | 28, _ => exact zo_28
  | 29, _ => exact zo_29
  | 30, _ => exact zo_30
  | 31, _ => exact zo_31
  | 32, _ => exact zo_32
  | 33, _ => exact zo_33
  | 34, _ => exact zo_34
  | 35, _ => exact zo_35
  | 36, _ => exact zo_36
  | 37, _ => exact zo_37
  | 38, _ => exact zo_38
  | 39, _ => exact zo_39
  | 40, _ => exact zo_40
  | 41, _ => exact zo_41
  | 42, _ => exact zo_42
  | 43, _ => exact zo_43
  | 44, _ => exact zo_44
  | 45, _ => exact zo_45
  | 46, _ => exact zo_46
  | 47, _ => exact zo_47
  | 48, _ => exact zo_48
  | 49, _ => exact zo_49
  | 50, _ => exact zo_50
  | 51, _ => exact zo_51
  | 52, _ => exact zo_52
  | 53, _ => exact zo_53
  | 54, _ => exact zo_54
  | 55, _ => exact zo_55
  | 56, _ => exact zo_56
  | 57, _ => exact zo_57
  | 58, _ => exact zo_58
  | 59, _ => exact zo_59
  | 60, _ => exact zo_60
  | 61, _ => exact zo_61
  | 62, _ => exact zo_62
  | 63, _ => exact zo_63
  | 64, _ => exact zo_64
  | 65, _ => exact zo_65
  | 66, _ => exact zo_66
  | 67, _ => exact zo_67
  | 68, _ => exact zo_68
  | 69, _ => exact zo_69
  | 70, _ => exact zo_70
  | 71, _ => exact zo_71
  | 72, _ => exact zo_72
  | 73, _ => exact zo_73
  | 74, _ => exact zo_74
  | 75, _ => exact zo_75
  | 76, _ => exact zo_76
  | 77, _ => exact zo_77
  | 78, _ => exact zo_78
  | 79, _ => exact zo_79
  | 80, _ => exact zo_80
  | 81, _ => exact zo_81
  | 82, _ => exact zo_82
  | 83, _ => exact zo_83
  | 84, _ => exact zo_84
  | 85, _ => exact zo_85
  | 86, _ => exact zo_86
  | 87, _ => exact zo_87
  | 88, _ => exact zo_88
  | 89, _ => exact zo_89
  | 90, _ => exact zo_90
  | 91, _ => exact zo_91
  | 92, _ => exact zo_92
  | 93, _ => exact zo_93
  | 94, _ => exact zo_94
  | 95, _ => exact zo_95
  | 96, _ => exact zo_96
  | 97, _ => exact zo_97
  | 98, _ => exact zo_98
  | 99, _ => exact zo_99
  | 100, _ => exact zo_100
  | 101, _ => exact zo_101
  | 102, _ => exact zo_102
  | 103, _ => exact zo_103
  | 104, _ => exact zo_104
  | 105, _ => exact zo_105
  | 106, _ => exact zo_106
  | 107, _ => exact zo_107
  | 108, _ => exact zo_108
  | 109, _ => exact zo_109
  | 110, _ => exact zo_110
  | 111, _ => exact zo_111
  | 112, _ => exact zo_112
  | 113, _ => exact zo_113
  | 114, _ => exact zo_114
  | 115, _ => exact zo_115
  | 116, _ => exact zo_116
  | 117, _ => exact zo_117
  | 118, _ => exact zo_118
  | 119, _ => exact zo_119
  | 120, _ => exact zo_120
  | 121, _ => exact zo_121
  | 122, _ => exact zo_122
  | 123, _ => exact zo_123
  | 124, _ => exact zo_124
  | 125, _ => exact zo_125
  | 126, _ => exact zo_126
  | 127, _ => exact zo_127
  | 128, _ => exact zo_128
  | 129, _ => exact zo_129
  | 130, _ => exact zo_130
  | 131, _ => exact zo_131
  | 132, _ => exact zo_132
  | 133, _ => exact zo_133
  | 134, _ => exact zo_134
  | 135, _ => exact zo_135
  | 136, _ => exact zo_136
  | 137, _ => exact zo_137
  | 138, _ => exact zo_138
  | 139, _ => exact zo_139
  | 140, _ => exact zo_140
  | 141, _ => exact zo_141
  | 142, _ => exact zo_142
  | 143, _ => exact zo_143
  | 144, _ => exact zo_144
  | 145, _ => exact zo_145
  | 146, _ => exact zo_146
  | 147, _ => exact zo_147
  | 148, _ => exact zo_148
  | 149, _ => exact zo_149
  | 150, _ => exact zo_150
  | 151, _ => exact zo_151
  | 152, _ => exact zo_152
  | 153, _ => exact zo_153
  | 154, _ => exact zo_154
  | 155, _ => exact zo_155
  | 156, _ => exact zo_156
  | 157, _ => exact zo_157
  | 158, _ => exact zo_158
  | 159, _ => exact zo_159
  | 160, _ => exact zo_160
  | 161, _ => exact zo_161
  | 162, _ => exact zo_162
  | 163, _ => exact zo_163
  | 164, _ => exact zo_164
  | 165, _ => exact zo_165
  | 166, _ => exact zo_166
  | 167, _ => exact zo_167
  | 168, _ => exact zo_168
  | 169, _ => exact zo_169
  | 170, _ => exact zo_170
  | 171, _ => exact zo_171
  | 172, _ => exact zo_172
  | 173, _ => exact zo_173
  | 174, _ => exact zo_174
  | 175, _ => exact zo_175
  | 176, _ => exact zo_176
  | 177, _ => exact zo_177
  | 178, _ => exact zo_178
  | 179, _ => exact zo_179
  | 180, _ => exact zo_180
  | 181, _ => exact zo_181
  | 182, _ => exact zo_182
  | 183, _ => exact zo_183
  | 184, _ => exact zo_184
  | 185, _ => exact zo_185
  | 186, _ => exact zo_186
  | 187, _ => exact zo_187
  | 188, _ => exact zo_188
  | 189, _ => exact zo_189
  | 190, _ => exact zo_190
  | 191, _ => exact zo_191
  | 192, _ => exact zo_192
  | 193, _ => exact zo_193
  | 194, _ => exact zo_194
  | 195, _ => exact zo_195
  | 196, _ => exact zo_196
  | 197, _ => exact zo_197
  | 198, _ => exact zo_198
  | 199, _ => exact zo_199
  | 200, _ => exact zo_200
  | 201, _ => exact zo_201
  | 202, _ => exact zo_202
  | 203, _ => exact zo_203
  | 204, _ => exact zo_204
  | 205, _ => exact zo_205
  | 206, _ => exact zo_206
  | 207, _ => exact zo_207
  | 208, _ => exact zo_208
  | 209, _ => exact zo_209
  | 210, _ => exact zo_210
  | 211, _ => exact zo_211
  | 212, _ => exact zo_212
  | 213, _ => exact zo_213
  | 214, _ => exact zo_214
  | 215, _ => exact zo_215
  | 216, _ => exact zo_216
  | 217, _ => exact zo_217
  | 218, _ => exact zo_218
  | 219, _ => exact zo_219
  | 220, _ => exact zo_220
  | 221, _ => exact zo_221
  | 222, _ => exact zo_222
  | 223, _ => exact zo_223
  | 224, _ => exact zo_224
  | 225, _ => exact zo_225
  | 226, _ => exact zo_226
  | 227, _ => exact zo_227
  | 228, _ => exact zo_228
  | 229, _ => exact zo_229
  | 230, _ => exact zo_230
  | 231, _ => exact zo_231
  | 232, _ => exact zo_232
  | 233, _ => exact zo_233
  | 234, _ => exact zo_234
  | 235, _ => exact zo_235
  | 236, _ => exact zo_236
  | 237, _ => exact zo_237
  | 238, _ => exact zo_238
  | 239, _ => exact zo_239
  | 240, _ => exact zo_240
  | 241, _ => exact zo_241
  | 242, _ => exact zo_242
  | 243, _ => exact zo_243
  | 244, _ => exact zo_244
  | 245, _ => exact zo_245
  | j + 246, h => exact absurd h (by omega)
theorem z_room_ok : ∀ j, j < 246 → 1 ≤ z_rFL.getD j 0 ∧ 60 ≤ z_rLL.getD j 0 := by decide +kernel
