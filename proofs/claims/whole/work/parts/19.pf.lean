theorem rk_of {y rk : Nat} (h : (match rk with | 0 => rty y = some .int | 1 => rty y = some .boolean | 2 => rty y = some .long | 3 => ∃ n, rty y = some (.object n) | 4 => rty y = none | _ => True)) : rkok y rk := ⟨fun e => by subst e; exact h, fun e => by subst e; exact h, fun e => by subst e; exact h, fun e => by subst e; exact h, fun e => by subst e; exact h⟩
theorem pf_0 : PF 0 mi_0 := ⟨dc_0, pw_0, rfl, (fun _ => rfl), by decide +kernel, rk_of rfl⟩
theorem pf_1 : PF 1 mi_1 := ⟨dc_1, pw_0, rfl, (fun h => by cases h), by decide +kernel, rk_of rfl⟩
theorem pf_2 : PF 2 mi_2 := ⟨dc_2, pw_0, rfl, (fun h => by cases h), by decide +kernel, rk_of rfl⟩
theorem pf_3 : PF 3 mi_3 := ⟨dc_3, pw_0, rfl, (fun h => by cases h), by decide +kernel, rk_of rfl⟩
theorem pf_4 : PF 4 mi_4 := ⟨dc_4, pw_0, rfl, (fun h => by cases h), by decide +kernel, rk_of rfl⟩
theorem pf_5 : PF 5 mi_5 := ⟨dc_5, pw_0, rfl, (fun h => by cases h), by decide +kernel, rk_of rfl⟩
theorem pf_6 : PF 6 mi_6 := ⟨dc_6, pw_0, rfl, (fun h => by cases h), by decide +kernel, rk_of rfl⟩
theorem pf_7 : PF 7 mi_7 := ⟨dc_7, pw_0, rfl, (fun h => by cases h), by decide +kernel, rk_of rfl⟩
theorem pf_8 : PF 8 mi_8 := ⟨dc_8, pw_0, rfl, (fun h => by cases h), by decide +kernel, rk_of rfl⟩
theorem pf_9 : PF 9 mi_9 := ⟨dc_9, pw_0, rfl, (fun h => by cases h), by decide +kernel, rk_of rfl⟩
theorem pf_10 : PF 10 mi_10 := ⟨dc_10, pw_0, rfl, (fun h => by cases h), by decide +kernel, rk_of rfl⟩
theorem pf_11 : PF 11 mi_11 := ⟨dc_11, pw_0, rfl, (fun h => by cases h), by decide +kernel, rk_of rfl⟩
theorem pf_12 : PF 12 mi_12 := ⟨dc_12, pw_0, rfl, (fun h => by cases h), by decide +kernel, rk_of rfl⟩
theorem pf_13 : PF 13 mi_13 := ⟨dc_13, pw_0, rfl, (fun h => by cases h), by decide +kernel, rk_of rfl⟩
theorem pf_14 : PF 14 mi_14 := ⟨dc_14, pw_0, rfl, (fun h => by cases h), by decide +kernel, rk_of rfl⟩
theorem pf_15 : PF 15 mi_15 := ⟨dc_15, pw_1, rfl, (fun _ => rfl), by decide +kernel, rk_of rfl⟩
theorem pf_16 : PF 16 mi_16 := ⟨dc_16, pw_1, rfl, (fun h => by cases h), by decide +kernel, rk_of rfl⟩
theorem pf_17 : PF 17 mi_17 := ⟨dc_17, pw_1, rfl, (fun h => by cases h), by decide +kernel, rk_of rfl⟩
theorem pf_18 : PF 18 mi_18 := ⟨dc_18, pw_1, rfl, (fun h => by cases h), by decide +kernel, rk_of rfl⟩
theorem pf_19 : PF 19 mi_19 := ⟨dc_19, pw_1, rfl, (fun h => by cases h), by decide +kernel, rk_of rfl⟩
theorem pf_20 : PF 20 mi_20 := ⟨dc_20, pw_1, rfl, (fun h => by cases h), by decide +kernel, rk_of rfl⟩
theorem pf_21 : PF 21 mi_21 := ⟨dc_21, pw_1, rfl, (fun h => by cases h), by decide +kernel, rk_of rfl⟩
theorem pf_22 : PF 22 mi_22 := ⟨dc_22, pw_2, rfl, (fun _ => rfl), by decide +kernel, rk_of rfl⟩
theorem pf_23 : PF 23 mi_23 := ⟨dc_23, pw_2, rfl, (fun h => by cases h), by decide +kernel, rk_of rfl⟩
theorem pf_24 : PF 24 mi_24 := ⟨dc_24, pw_2, rfl, (fun h => by cases h), by decide +kernel, rk_of rfl⟩
theorem pf_25 : PF 25 mi_25 := ⟨dc_25, pw_2, rfl, (fun h => by cases h), by decide +kernel, rk_of rfl⟩
theorem pf_26 : PF 26 mi_26 := ⟨dc_26, pw_2, rfl, (fun h => by cases h), by decide +kernel, rk_of rfl⟩
theorem pf_27 : PF 27 mi_27 := ⟨dc_27, pw_2, rfl, (fun h => by cases h), by decide +kernel, rk_of rfl⟩
theorem pf_28 : PF 28 mi_28 := ⟨dc_28, pw_2, rfl, (fun h => by cases h), by decide +kernel, rk_of rfl⟩
theorem pf_29 : PF 29 mi_29 := ⟨dc_29, pw_2, rfl, (fun h => by cases h), by decide +kernel, rk_of rfl⟩
theorem pf_30 : PF 30 mi_30 := ⟨dc_30, pw_2, rfl, (fun h => by cases h), by decide +kernel, rk_of rfl⟩
theorem pf_31 : PF 31 mi_31 := ⟨dc_31, pw_2, rfl, (fun h => by cases h), by decide +kernel, rk_of rfl⟩
theorem pf_32 : PF 32 mi_32 := ⟨dc_32, pw_2, rfl, (fun h => by cases h), by decide +kernel, rk_of rfl⟩
theorem pf_33 : PF 33 mi_33 := ⟨dc_33, pw_2, rfl, (fun h => by cases h), by decide +kernel, rk_of rfl⟩
theorem pf_34 : PF 34 mi_34 := ⟨dc_34, pw_3, rfl, (fun _ => rfl), by decide +kernel, rk_of rfl⟩
theorem pf_35 : PF 35 mi_35 := ⟨dc_35, pw_3, rfl, (fun h => by cases h), by decide +kernel, rk_of rfl⟩
theorem pf_36 : PF 36 mi_36 := ⟨dc_36, pw_3, rfl, (fun h => by cases h), by decide +kernel, rk_of rfl⟩
theorem pf_37 : PF 37 mi_37 := ⟨dc_37, pw_3, rfl, (fun h => by cases h), by decide +kernel, rk_of rfl⟩
theorem pf_38 : PF 38 mi_38 := ⟨dc_38, pw_3, rfl, (fun h => by cases h), by decide +kernel, rk_of rfl⟩
theorem pf_39 : PF 39 mi_39 := ⟨dc_39, pw_3, rfl, (fun h => by cases h), by decide +kernel, rk_of rfl⟩
theorem pf_40 : PF 40 mi_40 := ⟨dc_40, pw_3, rfl, (fun h => by cases h), by decide +kernel, rk_of rfl⟩
theorem pf_41 : PF 41 mi_41 := ⟨dc_41, pw_3, rfl, (fun h => by cases h), by decide +kernel, rk_of rfl⟩
theorem pf_42 : PF 42 mi_42 := ⟨dc_42, pw_3, rfl, (fun h => by cases h), by decide +kernel, rk_of rfl⟩
theorem pf_43 : PF 43 mi_43 := ⟨dc_43, pw_3, rfl, (fun h => by cases h), by decide +kernel, rk_of rfl⟩
theorem pf_44 : PF 44 mi_44 := ⟨dc_44, pw_3, rfl, (fun h => by cases h), by decide +kernel, rk_of rfl⟩
theorem pf_45 : PF 45 mi_45 := ⟨dc_45, pw_3, rfl, (fun h => by cases h), by decide +kernel, rk_of rfl⟩
theorem pf_46 : PF 46 mi_46 := ⟨dc_46, pw_4, rfl, (fun _ => rfl), by decide +kernel, rk_of rfl⟩
theorem pf_47 : PF 47 mi_47 := ⟨dc_47, pw_4, rfl, (fun h => by cases h), by decide +kernel, rk_of rfl⟩
theorem pf_48 : PF 48 mi_48 := ⟨dc_48, pw_4, rfl, (fun h => by cases h), by decide +kernel, rk_of rfl⟩
theorem pf_49 : PF 49 mi_49 := ⟨dc_49, pw_4, rfl, (fun h => by cases h), by decide +kernel, rk_of rfl⟩
theorem pf_50 : PF 50 mi_50 := ⟨dc_50, pw_4, rfl, (fun h => by cases h), by decide +kernel, rk_of rfl⟩
theorem pf_51 : PF 51 mi_51 := ⟨dc_51, pw_4, rfl, (fun h => by cases h), by decide +kernel, rk_of rfl⟩
theorem pf_52 : PF 52 mi_52 := ⟨dc_52, pw_4, rfl, (fun h => by cases h), by decide +kernel, rk_of rfl⟩
theorem pf_53 : PF 53 mi_53 := ⟨dc_53, pw_4, rfl, (fun h => by cases h), by decide +kernel, rk_of rfl⟩
theorem pf_54 : PF 54 mi_54 := ⟨dc_54, pw_4, rfl, (fun h => by cases h), by decide +kernel, rk_of rfl⟩
theorem pf_55 : PF 55 mi_55 := ⟨dc_55, pw_4, rfl, (fun h => by cases h), by decide +kernel, rk_of rfl⟩
theorem pf_56 : PF 56 mi_56 := ⟨dc_56, pw_5, rfl, (fun _ => rfl), by decide +kernel, rk_of rfl⟩
theorem pf_57 : PF 57 mi_57 := ⟨dc_57, pw_5, rfl, (fun h => by cases h), by decide +kernel, rk_of rfl⟩
theorem pf_58 : PF 58 mi_58 := ⟨dc_58, pw_5, rfl, (fun h => by cases h), by decide +kernel, rk_of rfl⟩
theorem pf_59 : PF 59 mi_59 := ⟨dc_59, pw_5, rfl, (fun h => by cases h), by decide +kernel, rk_of rfl⟩
theorem pf_60 : PF 60 mi_60 := ⟨dc_60, pw_5, rfl, (fun h => by cases h), by decide +kernel, rk_of rfl⟩
theorem pf_61 : PF 61 mi_61 := ⟨dc_61, pw_5, rfl, (fun h => by cases h), by decide +kernel, rk_of rfl⟩
theorem pf_62 : PF 62 mi_62 := ⟨dc_62, pw_5, rfl, (fun h => by cases h), by decide +kernel, rk_of rfl⟩
theorem pf_63 : PF 63 mi_63 := ⟨dc_63, pw_5, rfl, (fun h => by cases h), by decide +kernel, rk_of rfl⟩
theorem pf_64 : PF 64 mi_64 := ⟨dc_64, pw_5, rfl, (fun h => by cases h), by decide +kernel, rk_of rfl⟩
theorem pf_65 : PF 65 mi_65 := ⟨dc_65, pw_5, rfl, (fun h => by cases h), by decide +kernel, rk_of rfl⟩
theorem pf_66 : PF 66 mi_66 := ⟨dc_66, pw_5, rfl, (fun h => by cases h), by decide +kernel, rk_of rfl⟩
theorem pf_67 : PF 67 mi_67 := ⟨dc_67, pw_5, rfl, (fun h => by cases h), by decide +kernel, rk_of rfl⟩
theorem pf_68 : PF 68 mi_68 := ⟨dc_68, pw_5, rfl, (fun h => by cases h), by decide +kernel, rk_of rfl⟩
theorem pf_69 : PF 69 mi_69 := ⟨dc_69, pw_5, rfl, (fun h => by cases h), by decide +kernel, rk_of rfl⟩
theorem pf_70 : PF 70 mi_70 := ⟨dc_70, pw_5, rfl, (fun h => by cases h), by decide +kernel, rk_of rfl⟩
theorem pf_71 : PF 71 mi_71 := ⟨dc_71, pw_5, rfl, (fun h => by cases h), by decide +kernel, rk_of rfl⟩
theorem pf_72 : PF 72 mi_72 := ⟨dc_72, pw_5, rfl, (fun h => by cases h), by decide +kernel, rk_of rfl⟩
theorem pf_73 : PF 73 mi_73 := ⟨dc_73, pw_5, rfl, (fun h => by cases h), by decide +kernel, rk_of rfl⟩
theorem pf_74 : PF 74 mi_74 := ⟨dc_74, pw_5, rfl, (fun h => by cases h), by decide +kernel, rk_of rfl⟩
theorem pf_75 : PF 75 mi_75 := ⟨dc_75, pw_5, rfl, (fun h => by cases h), by decide +kernel, rk_of rfl⟩
theorem pf_76 : PF 76 mi_76 := ⟨dc_76, pw_5, rfl, (fun h => by cases h), by decide +kernel, rk_of rfl⟩
theorem pf_77 : PF 77 mi_77 := ⟨dc_77, pw_5, rfl, (fun h => by cases h), by decide +kernel, rk_of rfl⟩
theorem pf_78 : PF 78 mi_78 := ⟨dc_78, pw_5, rfl, (fun h => by cases h), by decide +kernel, rk_of rfl⟩
theorem pf_79 : PF 79 mi_79 := ⟨dc_79, pw_5, rfl, (fun h => by cases h), by decide +kernel, rk_of rfl⟩
theorem pf_80 : PF 80 mi_80 := ⟨dc_80, pw_5, rfl, (fun h => by cases h), by decide +kernel, rk_of rfl⟩
theorem pf_81 : PF 81 mi_81 := ⟨dc_81, pw_5, rfl, (fun h => by cases h), by decide +kernel, rk_of rfl⟩
theorem pf_82 : PF 82 mi_82 := ⟨dc_82, pw_5, rfl, (fun h => by cases h), by decide +kernel, rk_of rfl⟩
theorem pf_83 : PF 83 mi_83 := ⟨dc_83, pw_5, rfl, (fun h => by cases h), by decide +kernel, rk_of rfl⟩
theorem pf_84 : PF 84 mi_84 := ⟨dc_84, pw_6, rfl, (fun _ => rfl), by decide +kernel, rk_of rfl⟩
theorem pf_85 : PF 85 mi_85 := ⟨dc_85, pw_6, rfl, (fun h => by cases h), by decide +kernel, rk_of rfl⟩
theorem pf_86 : PF 86 mi_86 := ⟨dc_86, pw_6, rfl, (fun h => by cases h), by decide +kernel, rk_of rfl⟩
theorem pf_87 : PF 87 mi_87 := ⟨dc_87, pw_6, rfl, (fun h => by cases h), by decide +kernel, rk_of rfl⟩
theorem pf_88 : PF 88 mi_88 := ⟨dc_88, pw_6, rfl, (fun h => by cases h), by decide +kernel, rk_of rfl⟩
theorem pf_89 : PF 89 mi_89 := ⟨dc_89, pw_6, rfl, (fun h => by cases h), by decide +kernel, rk_of rfl⟩
theorem pf_90 : PF 90 mi_90 := ⟨dc_90, pw_6, rfl, (fun h => by cases h), by decide +kernel, rk_of rfl⟩
theorem pf_91 : PF 91 mi_91 := ⟨dc_91, pw_6, rfl, (fun h => by cases h), by decide +kernel, rk_of rfl⟩
theorem pf_92 : PF 92 mi_92 := ⟨dc_92, pw_7, rfl, (fun _ => rfl), by decide +kernel, rk_of rfl⟩
theorem pf_93 : PF 93 mi_93 := ⟨dc_93, pw_7, rfl, (fun h => by cases h), by decide +kernel, rk_of rfl⟩
theorem pf_94 : PF 94 mi_94 := ⟨dc_94, pw_7, rfl, (fun h => by cases h), by decide +kernel, rk_of rfl⟩
theorem pf_95 : PF 95 mi_95 := ⟨dc_95, pw_7, rfl, (fun h => by cases h), by decide +kernel, rk_of rfl⟩
theorem pf_96 : PF 96 mi_96 := ⟨dc_96, pw_7, rfl, (fun h => by cases h), by decide +kernel, rk_of rfl⟩
theorem pf_97 : PF 97 mi_97 := ⟨dc_97, pw_7, rfl, (fun h => by cases h), by decide +kernel, rk_of rfl⟩
theorem pf_98 : PF 98 mi_98 := ⟨dc_98, pw_7, rfl, (fun h => by cases h), by decide +kernel, rk_of rfl⟩
theorem pf_99 : PF 99 mi_99 := ⟨dc_99, pw_7, rfl, (fun h => by cases h), by decide +kernel, rk_of rfl⟩
theorem pf_100 : PF 100 mi_100 := ⟨dc_100, pw_7, rfl, (fun h => by cases h), by decide +kernel, rk_of rfl⟩
theorem pf_101 : PF 101 mi_101 := ⟨dc_101, pw_7, rfl, (fun h => by cases h), by decide +kernel, rk_of rfl⟩
theorem pf_102 : PF 102 mi_102 := ⟨dc_102, pw_7, rfl, (fun h => by cases h), by decide +kernel, rk_of rfl⟩
theorem pf_103 : PF 103 mi_103 := ⟨dc_103, pw_7, rfl, (fun h => by cases h), by decide +kernel, rk_of rfl⟩
theorem pf_104 : PF 104 mi_104 := ⟨dc_104, pw_7, rfl, (fun h => by cases h), by decide +kernel, rk_of rfl⟩
theorem pf_105 : PF 105 mi_105 := ⟨dc_105, pw_7, rfl, (fun h => by cases h), by decide +kernel, rk_of rfl⟩
theorem pf_106 : PF 106 mi_106 := ⟨dc_106, pw_7, rfl, (fun h => by cases h), by decide +kernel, rk_of rfl⟩
theorem pf_107 : PF 107 mi_107 := ⟨dc_107, pw_8, rfl, (fun _ => rfl), by decide +kernel, rk_of rfl⟩
theorem pf_108 : PF 108 mi_108 := ⟨dc_108, pw_8, rfl, (fun h => by cases h), by decide +kernel, rk_of ⟨_, rfl⟩⟩
theorem pf_109 : PF 109 mi_109 := ⟨dc_109, pw_8, rfl, (fun h => by cases h), by decide +kernel, rk_of rfl⟩
theorem pf_110 : PF 110 mi_110 := ⟨dc_110, pw_8, rfl, (fun h => by cases h), by decide +kernel, rk_of ⟨_, rfl⟩⟩
theorem pf_111 : PF 111 mi_111 := ⟨dc_111, pw_8, rfl, (fun h => by cases h), by decide +kernel, rk_of rfl⟩
theorem pf_112 : PF 112 mi_112 := ⟨dc_112, pw_8, rfl, (fun h => by cases h), by decide +kernel, rk_of rfl⟩
theorem pf_113 : PF 113 mi_113 := ⟨dc_113, pw_8, rfl, (fun h => by cases h), by decide +kernel, rk_of rfl⟩
theorem pf_114 : PF 114 mi_114 := ⟨dc_114, pw_8, rfl, (fun h => by cases h), by decide +kernel, rk_of rfl⟩
theorem pf_115 : PF 115 mi_115 := ⟨dc_115, pw_8, rfl, (fun h => by cases h), by decide +kernel, rk_of rfl⟩
theorem pf_116 : PF 116 mi_116 := ⟨dc_116, pw_8, rfl, (fun h => by cases h), by decide +kernel, rk_of rfl⟩
theorem pf_117 : PF 117 mi_117 := ⟨dc_117, pw_8, rfl, (fun h => by cases h), by decide +kernel, rk_of rfl⟩
theorem pf_118 : PF 118 mi_118 := ⟨dc_118, pw_8, rfl, (fun h => by cases h), by decide +kernel, rk_of rfl⟩
theorem pf_119 : PF 119 mi_119 := ⟨dc_119, pw_9, rfl, (fun _ => rfl), by decide +kernel, rk_of rfl⟩
theorem pf_120 : PF 120 mi_120 := ⟨dc_120, pw_9, rfl, (fun h => by cases h), by decide +kernel, rk_of rfl⟩
theorem pf_121 : PF 121 mi_121 := ⟨dc_121, pw_9, rfl, (fun h => by cases h), by decide +kernel, rk_of rfl⟩
theorem pf_122 : PF 122 mi_122 := ⟨dc_122, pw_9, rfl, (fun h => by cases h), by decide +kernel, rk_of rfl⟩
theorem pf_123 : PF 123 mi_123 := ⟨dc_123, pw_9, rfl, (fun h => by cases h), by decide +kernel, rk_of rfl⟩
theorem pf_124 : PF 124 mi_124 := ⟨dc_124, pw_9, rfl, (fun h => by cases h), by decide +kernel, rk_of rfl⟩
theorem pf_125 : PF 125 mi_125 := ⟨dc_125, pw_9, rfl, (fun h => by cases h), by decide +kernel, rk_of rfl⟩
theorem pf_126 : PF 126 mi_126 := ⟨dc_126, pw_10, rfl, (fun _ => rfl), by decide +kernel, rk_of rfl⟩
theorem pf_127 : PF 127 mi_127 := ⟨dc_127, pw_10, rfl, (fun h => by cases h), by decide +kernel, rk_of rfl⟩
theorem pf_128 : PF 128 mi_128 := ⟨dc_128, pw_10, rfl, (fun h => by cases h), by decide +kernel, rk_of rfl⟩
theorem pf_129 : PF 129 mi_129 := ⟨dc_129, pw_10, rfl, (fun h => by cases h), by decide +kernel, rk_of rfl⟩
theorem pf_130 : PF 130 mi_130 := ⟨dc_130, pw_10, rfl, (fun h => by cases h), by decide +kernel, rk_of rfl⟩
theorem pf_131 : PF 131 mi_131 := ⟨dc_131, pw_10, rfl, (fun h => by cases h), by decide +kernel, rk_of rfl⟩
theorem pf_132 : PF 132 mi_132 := ⟨dc_132, pw_10, rfl, (fun h => by cases h), by decide +kernel, rk_of rfl⟩
theorem pf_133 : PF 133 mi_133 := ⟨dc_133, pw_10, rfl, (fun h => by cases h), by decide +kernel, rk_of rfl⟩
theorem pf_134 : PF 134 mi_134 := ⟨dc_134, pw_10, rfl, (fun h => by cases h), by decide +kernel, rk_of rfl⟩
theorem pf_135 : PF 135 mi_135 := ⟨dc_135, pw_10, rfl, (fun h => by cases h), by decide +kernel, rk_of rfl⟩
theorem pf_136 : PF 136 mi_136 := ⟨dc_136, pw_10, rfl, (fun h => by cases h), by decide +kernel, rk_of rfl⟩
theorem pf_137 : PF 137 mi_137 := ⟨dc_137, pw_10, rfl, (fun h => by cases h), by decide +kernel, rk_of rfl⟩
theorem pf_138 : PF 138 mi_138 := ⟨dc_138, pw_10, rfl, (fun h => by cases h), by decide +kernel, rk_of rfl⟩
theorem pf_139 : PF 139 mi_139 := ⟨dc_139, pw_10, rfl, (fun h => by cases h), by decide +kernel, rk_of rfl⟩
theorem pf_140 : PF 140 mi_140 := ⟨dc_140, pw_10, rfl, (fun h => by cases h), by decide +kernel, rk_of rfl⟩
theorem pf_141 : PF 141 mi_141 := ⟨dc_141, pw_10, rfl, (fun h => by cases h), by decide +kernel, rk_of rfl⟩
theorem pf_142 : PF 142 mi_142 := ⟨dc_142, pw_10, rfl, (fun h => by cases h), by decide +kernel, rk_of rfl⟩
theorem pf_143 : PF 143 mi_143 := ⟨dc_143, pw_10, rfl, (fun h => by cases h), by decide +kernel, rk_of rfl⟩
theorem pf_144 : PF 144 mi_144 := ⟨dc_144, pw_10, rfl, (fun h => by cases h), by decide +kernel, rk_of rfl⟩
theorem pf_145 : PF 145 mi_145 := ⟨dc_145, pw_10, rfl, (fun h => by cases h), by decide +kernel, rk_of rfl⟩
theorem pf_146 : PF 146 mi_146 := ⟨dc_146, pw_10, rfl, (fun h => by cases h), by decide +kernel, rk_of rfl⟩
theorem pf_147 : PF 147 mi_147 := ⟨dc_147, pw_11, rfl, (fun _ => rfl), by decide +kernel, rk_of rfl⟩
theorem pf_148 : PF 148 mi_148 := ⟨dc_148, pw_11, rfl, (fun h => by cases h), by decide +kernel, rk_of rfl⟩
theorem pf_149 : PF 149 mi_149 := ⟨dc_149, pw_11, rfl, (fun h => by cases h), by decide +kernel, rk_of rfl⟩
theorem pf_150 : PF 150 mi_150 := ⟨dc_150, pw_11, rfl, (fun h => by cases h), by decide +kernel, rk_of rfl⟩
theorem pf_151 : PF 151 mi_151 := ⟨dc_151, pw_11, rfl, (fun h => by cases h), by decide +kernel, rk_of rfl⟩
theorem pf_152 : PF 152 mi_152 := ⟨dc_152, pw_11, rfl, (fun h => by cases h), by decide +kernel, rk_of rfl⟩
theorem pf_153 : PF 153 mi_153 := ⟨dc_153, pw_11, rfl, (fun h => by cases h), by decide +kernel, rk_of rfl⟩
theorem pf_154 : PF 154 mi_154 := ⟨dc_154, pw_11, rfl, (fun h => by cases h), by decide +kernel, rk_of rfl⟩
theorem pf_155 : PF 155 mi_155 := ⟨dc_155, pw_11, rfl, (fun h => by cases h), by decide +kernel, rk_of rfl⟩
theorem pf_156 : PF 156 mi_156 := ⟨dc_156, pw_11, rfl, (fun h => by cases h), by decide +kernel, rk_of rfl⟩
theorem pf_157 : PF 157 mi_157 := ⟨dc_157, pw_11, rfl, (fun h => by cases h), by decide +kernel, rk_of rfl⟩
theorem pf_158 : PF 158 mi_158 := ⟨dc_158, pw_11, rfl, (fun h => by cases h), by decide +kernel, rk_of rfl⟩
theorem pf_159 : PF 159 mi_159 := ⟨dc_159, pw_11, rfl, (fun h => by cases h), by decide +kernel, rk_of rfl⟩
theorem pf_160 : PF 160 mi_160 := ⟨dc_160, pw_11, rfl, (fun h => by cases h), by decide +kernel, rk_of rfl⟩
theorem pf_161 : PF 161 mi_161 := ⟨dc_161, pw_11, rfl, (fun h => by cases h), by decide +kernel, rk_of rfl⟩
theorem pf_162 : PF 162 mi_162 := ⟨dc_162, pw_11, rfl, (fun h => by cases h), by decide +kernel, rk_of rfl⟩
theorem pf_163 : PF 163 mi_163 := ⟨dc_163, pw_11, rfl, (fun h => by cases h), by decide +kernel, rk_of rfl⟩
theorem pf_164 : PF 164 mi_164 := ⟨dc_164, pw_11, rfl, (fun h => by cases h), by decide +kernel, rk_of rfl⟩
theorem pf_165 : PF 165 mi_165 := ⟨dc_165, pw_11, rfl, (fun h => by cases h), by decide +kernel, rk_of rfl⟩
theorem pf_166 : PF 166 mi_166 := ⟨dc_166, pw_11, rfl, (fun h => by cases h), by decide +kernel, rk_of rfl⟩
theorem pf_167 : PF 167 mi_167 := ⟨dc_167, pw_11, rfl, (fun h => by cases h), by decide +kernel, rk_of rfl⟩
theorem pf_168 : PF 168 mi_168 := ⟨dc_168, pw_11, rfl, (fun h => by cases h), by decide +kernel, rk_of rfl⟩
theorem pf_169 : PF 169 mi_169 := ⟨dc_169, pw_11, rfl, (fun h => by cases h), by decide +kernel, rk_of rfl⟩
theorem pf_170 : PF 170 mi_170 := ⟨dc_170, pw_11, rfl, (fun h => by cases h), by decide +kernel, rk_of rfl⟩
theorem pf_171 : PF 171 mi_171 := ⟨dc_171, pw_11, rfl, (fun h => by cases h), by decide +kernel, rk_of rfl⟩
theorem pf_172 : PF 172 mi_172 := ⟨dc_172, pw_11, rfl, (fun h => by cases h), by decide +kernel, rk_of rfl⟩
theorem pf_173 : PF 173 mi_173 := ⟨dc_173, pw_11, rfl, (fun h => by cases h), by decide +kernel, rk_of rfl⟩
theorem pf_174 : PF 174 mi_174 := ⟨dc_174, pw_11, rfl, (fun h => by cases h), by decide +kernel, rk_of rfl⟩
theorem pf_175 : PF 175 mi_175 := ⟨dc_175, pw_11, rfl, (fun h => by cases h), by decide +kernel, rk_of rfl⟩
theorem pf_176 : PF 176 mi_176 := ⟨dc_176, pw_11, rfl, (fun h => by cases h), by decide +kernel, rk_of rfl⟩
theorem pf_177 : PF 177 mi_177 := ⟨dc_177, pw_11, rfl, (fun h => by cases h), by decide +kernel, rk_of rfl⟩
theorem pf_178 : PF 178 mi_178 := ⟨dc_178, pw_11, rfl, (fun h => by cases h), by decide +kernel, rk_of rfl⟩
theorem pf_179 : PF 179 mi_179 := ⟨dc_179, pw_11, rfl, (fun h => by cases h), by decide +kernel, rk_of rfl⟩
theorem pf_180 : PF 180 mi_180 := ⟨dc_180, pw_11, rfl, (fun h => by cases h), by decide +kernel, rk_of rfl⟩
theorem pf_181 : PF 181 mi_181 := ⟨dc_181, pw_11, rfl, (fun h => by cases h), by decide +kernel, rk_of rfl⟩
theorem pf_182 : PF 182 mi_182 := ⟨dc_182, pw_11, rfl, (fun h => by cases h), by decide +kernel, rk_of rfl⟩
theorem pf_183 : PF 183 mi_183 := ⟨dc_183, pw_11, rfl, (fun h => by cases h), by decide +kernel, rk_of rfl⟩
theorem pf_184 : PF 184 mi_184 := ⟨dc_184, pw_11, rfl, (fun h => by cases h), by decide +kernel, rk_of rfl⟩
theorem pf_185 : PF 185 mi_185 := ⟨dc_185, pw_11, rfl, (fun h => by cases h), by decide +kernel, rk_of rfl⟩
theorem pf_186 : PF 186 mi_186 := ⟨dc_186, pw_11, rfl, (fun h => by cases h), by decide +kernel, rk_of rfl⟩
theorem pf_187 : PF 187 mi_187 := ⟨dc_187, pw_11, rfl, (fun h => by cases h), by decide +kernel, rk_of rfl⟩
theorem pf_188 : PF 188 mi_188 := ⟨dc_188, pw_11, rfl, (fun h => by cases h), by decide +kernel, rk_of rfl⟩
theorem pf_189 : PF 189 mi_189 := ⟨dc_189, pw_11, rfl, (fun h => by cases h), by decide +kernel, rk_of rfl⟩
theorem pf_190 : PF 190 mi_190 := ⟨dc_190, pw_11, rfl, (fun h => by cases h), by decide +kernel, rk_of rfl⟩
theorem pf_191 : PF 191 mi_191 := ⟨dc_191, pw_12, rfl, (fun _ => rfl), by decide +kernel, rk_of rfl⟩
theorem pf_192 : PF 192 mi_192 := ⟨dc_192, pw_12, rfl, (fun h => by cases h), by decide +kernel, rk_of rfl⟩
theorem pf_193 : PF 193 mi_193 := ⟨dc_193, pw_12, rfl, (fun h => by cases h), by decide +kernel, rk_of rfl⟩
theorem pf_194 : PF 194 mi_194 := ⟨dc_194, pw_12, rfl, (fun h => by cases h), by decide +kernel, rk_of rfl⟩
theorem pf_195 : PF 195 mi_195 := ⟨dc_195, pw_12, rfl, (fun h => by cases h), by decide +kernel, rk_of rfl⟩
theorem pf_196 : PF 196 mi_196 := ⟨dc_196, pw_12, rfl, (fun h => by cases h), by decide +kernel, rk_of rfl⟩
theorem pf_197 : PF 197 mi_197 := ⟨dc_197, pw_12, rfl, (fun h => by cases h), by decide +kernel, rk_of rfl⟩
theorem pf_198 : PF 198 mi_198 := ⟨dc_198, pw_12, rfl, (fun h => by cases h), by decide +kernel, rk_of rfl⟩
theorem pf_199 : PF 199 mi_199 := ⟨dc_199, pw_12, rfl, (fun h => by cases h), by decide +kernel, rk_of rfl⟩
theorem pf_200 : PF 200 mi_200 := ⟨dc_200, pw_12, rfl, (fun h => by cases h), by decide +kernel, rk_of rfl⟩
theorem pf_201 : PF 201 mi_201 := ⟨dc_201, pw_12, rfl, (fun h => by cases h), by decide +kernel, rk_of rfl⟩
theorem pf_202 : PF 202 mi_202 := ⟨dc_202, pw_12, rfl, (fun h => by cases h), by decide +kernel, rk_of rfl⟩
theorem pf_203 : PF 203 mi_203 := ⟨dc_203, pw_12, rfl, (fun h => by cases h), by decide +kernel, rk_of rfl⟩
theorem pf_204 : PF 204 mi_204 := ⟨dc_204, pw_12, rfl, (fun h => by cases h), by decide +kernel, rk_of rfl⟩
theorem pf_205 : PF 205 mi_205 := ⟨dc_205, pw_12, rfl, (fun h => by cases h), by decide +kernel, rk_of rfl⟩
theorem pf_206 : PF 206 mi_206 := ⟨dc_206, pw_12, rfl, (fun h => by cases h), by decide +kernel, rk_of rfl⟩
theorem pf_207 : PF 207 mi_207 := ⟨dc_207, pw_12, rfl, (fun h => by cases h), by decide +kernel, rk_of rfl⟩
theorem pf_208 : PF 208 mi_208 := ⟨dc_208, pw_12, rfl, (fun h => by cases h), by decide +kernel, rk_of rfl⟩
theorem pf_209 : PF 209 mi_209 := ⟨dc_209, pw_12, rfl, (fun h => by cases h), by decide +kernel, rk_of rfl⟩
theorem pf_210 : PF 210 mi_210 := ⟨dc_210, pw_12, rfl, (fun h => by cases h), by decide +kernel, rk_of rfl⟩
theorem pf_211 : PF 211 mi_211 := ⟨dc_211, pw_12, rfl, (fun h => by cases h), by decide +kernel, rk_of rfl⟩
theorem pf_212 : PF 212 mi_212 := ⟨dc_212, pw_12, rfl, (fun h => by cases h), by decide +kernel, rk_of rfl⟩
theorem pf_213 : PF 213 mi_213 := ⟨dc_213, pw_12, rfl, (fun h => by cases h), by decide +kernel, rk_of rfl⟩
theorem pf_214 : PF 214 mi_214 := ⟨dc_214, pw_12, rfl, (fun h => by cases h), by decide +kernel, rk_of rfl⟩
theorem pf_215 : PF 215 mi_215 := ⟨dc_215, pw_12, rfl, (fun h => by cases h), by decide +kernel, rk_of rfl⟩
theorem pf_216 : PF 216 mi_216 := ⟨dc_216, pw_12, rfl, (fun h => by cases h), by decide +kernel, rk_of rfl⟩
theorem pf_217 : PF 217 mi_217 := ⟨dc_217, pw_12, rfl, (fun h => by cases h), by decide +kernel, rk_of rfl⟩
theorem pf_218 : PF 218 mi_218 := ⟨dc_218, pw_12, rfl, (fun h => by cases h), by decide +kernel, rk_of rfl⟩
theorem pf_219 : PF 219 mi_219 := ⟨dc_219, pw_12, rfl, (fun h => by cases h), by decide +kernel, rk_of rfl⟩
theorem pf_220 : PF 220 mi_220 := ⟨dc_220, pw_12, rfl, (fun h => by cases h), by decide +kernel, rk_of rfl⟩
theorem pf_221 : PF 221 mi_221 := ⟨dc_221, pw_12, rfl, (fun h => by cases h), by decide +kernel, rk_of rfl⟩
theorem pf_222 : PF 222 mi_222 := ⟨dc_222, pw_12, rfl, (fun h => by cases h), by decide +kernel, rk_of rfl⟩
theorem pf_223 : PF 223 mi_223 := ⟨dc_223, pw_12, rfl, (fun h => by cases h), by decide +kernel, rk_of rfl⟩
theorem pf_224 : PF 224 mi_224 := ⟨dc_224, pw_12, rfl, (fun h => by cases h), by decide +kernel, rk_of rfl⟩
theorem pf_225 : PF 225 mi_225 := ⟨dc_225, pw_12, rfl, (fun h => by cases h), by decide +kernel, rk_of rfl⟩
theorem pf_226 : PF 226 mi_226 := ⟨dc_226, pw_12, rfl, (fun h => by cases h), by decide +kernel, rk_of rfl⟩
theorem pf_227 : PF 227 mi_227 := ⟨dc_227, pw_12, rfl, (fun h => by cases h), by decide +kernel, rk_of rfl⟩
theorem pf_228 : PF 228 mi_228 := ⟨dc_228, pw_12, rfl, (fun h => by cases h), by decide +kernel, rk_of rfl⟩
theorem pf_229 : PF 229 mi_229 := ⟨dc_229, pw_12, rfl, (fun h => by cases h), by decide +kernel, rk_of rfl⟩
theorem pf_230 : PF 230 mi_230 := ⟨dc_230, pw_12, rfl, (fun h => by cases h), by decide +kernel, rk_of rfl⟩
theorem pf_231 : PF 231 mi_231 := ⟨dc_231, pw_12, rfl, (fun h => by cases h), by decide +kernel, rk_of rfl⟩
theorem pf_232 : PF 232 mi_232 := ⟨dc_232, pw_12, rfl, (fun h => by cases h), by decide +kernel, rk_of rfl⟩
theorem pf_233 : PF 233 mi_233 := ⟨dc_233, pw_12, rfl, (fun h => by cases h), by decide +kernel, rk_of rfl⟩
theorem pf_234 : PF 234 mi_234 := ⟨dc_234, pw_12, rfl, (fun h => by cases h), by decide +kernel, rk_of rfl⟩
theorem pf_235 : PF 235 mi_235 := ⟨dc_235, pw_12, rfl, (fun h => by cases h), by decide +kernel, rk_of rfl⟩
theorem pf_236 : PF 236 mi_236 := ⟨dc_236, pw_12, rfl, (fun h => by cases h), by decide +kernel, rk_of rfl⟩
theorem pf_237 : PF 237 mi_237 := ⟨dc_237, pw_12, rfl, (fun h => by cases h), by decide +kernel, rk_of rfl⟩
theorem pf_238 : PF 238 mi_238 := ⟨dc_238, pw_12, rfl, (fun h => by cases h), by decide +kernel, rk_of rfl⟩
theorem pf_239 : PF 239 mi_239 := ⟨dc_239, pw_12, rfl, (fun h => by cases h), by decide +kernel, rk_of rfl⟩
theorem pf_240 : PF 240 mi_240 := ⟨dc_240, pw_12, rfl, (fun h => by cases h), by decide +kernel, rk_of rfl⟩
theorem pf_241 : PF 241 mi_241 := ⟨dc_241, pw_12, rfl, (fun h => by cases h), by decide +kernel, rk_of rfl⟩
theorem pf_242 : PF 242 mi_242 := ⟨dc_242, pw_12, rfl, (fun h => by cases h), by decide +kernel, rk_of rfl⟩
theorem pf_243 : PF 243 mi_243 := ⟨dc_243, pw_12, rfl, (fun h => by cases h), by decide +kernel, rk_of rfl⟩
theorem pf_244 : PF 244 mi_244 := ⟨dc_244, pw_12, rfl, (fun h => by cases h), by decide +kernel, rk_of rfl⟩
theorem pf_245 : PF 245 mi_245 := ⟨dc_245, pw_12, rfl, (fun h => by cases h), by decide +kernel, rk_of rfl⟩
theorem pf_246 : PF 246 mi_246 := ⟨dc_246, pw_12, rfl, (fun h => by cases h), by decide +kernel, rk_of rfl⟩
theorem pf_247 : PF 247 mi_247 := ⟨dc_247, pw_12, rfl, (fun h => by cases h), by decide +kernel, rk_of rfl⟩
theorem pf_248 : PF 248 mi_248 := ⟨dc_248, pw_12, rfl, (fun h => by cases h), by decide +kernel, rk_of rfl⟩
theorem pf_249 : PF 249 mi_249 := ⟨dc_249, pw_12, rfl, (fun h => by cases h), by decide +kernel, rk_of rfl⟩
theorem pf_250 : PF 250 mi_250 := ⟨dc_250, pw_12, rfl, (fun h => by cases h), by decide +kernel, rk_of rfl⟩
theorem pf_251 : PF 251 mi_251 := ⟨dc_251, pw_12, rfl, (fun h => by cases h), by decide +kernel, rk_of rfl⟩
theorem pf_252 : PF 252 mi_252 := ⟨dc_252, pw_12, rfl, (fun h => by cases h), by decide +kernel, rk_of rfl⟩
theorem pf_253 : PF 253 mi_253 := ⟨dc_253, pw_12, rfl, (fun h => by cases h), by decide +kernel, rk_of rfl⟩
theorem pf_254 : PF 254 mi_254 := ⟨dc_254, pw_12, rfl, (fun h => by cases h), by decide +kernel, rk_of rfl⟩
theorem pf_255 : PF 255 mi_255 := ⟨dc_255, pw_12, rfl, (fun h => by cases h), by decide +kernel, rk_of rfl⟩
theorem pf_256 : PF 256 mi_256 := ⟨dc_256, pw_12, rfl, (fun h => by cases h), by decide +kernel, rk_of rfl⟩
theorem pf_257 : PF 257 mi_257 := ⟨dc_257, pw_12, rfl, (fun h => by cases h), by decide +kernel, rk_of rfl⟩
theorem pf_258 : PF 258 mi_258 := ⟨dc_258, pw_12, rfl, (fun h => by cases h), by decide +kernel, rk_of rfl⟩
theorem pf_259 : PF 259 mi_259 := ⟨dc_259, pw_12, rfl, (fun h => by cases h), by decide +kernel, rk_of rfl⟩
theorem pf_260 : PF 260 mi_260 := ⟨dc_260, pw_12, rfl, (fun h => by cases h), by decide +kernel, rk_of rfl⟩
theorem pf_261 : PF 261 mi_261 := ⟨dc_261, pw_12, rfl, (fun h => by cases h), by decide +kernel, rk_of rfl⟩
theorem pf_262 : PF 262 mi_262 := ⟨dc_262, pw_12, rfl, (fun h => by cases h), by decide +kernel, rk_of rfl⟩
theorem pf_263 : PF 263 mi_263 := ⟨dc_263, pw_12, rfl, (fun h => by cases h), by decide +kernel, rk_of rfl⟩
theorem pf_264 : PF 264 mi_264 := ⟨dc_264, pw_12, rfl, (fun h => by cases h), by decide +kernel, rk_of rfl⟩
theorem pf_265 : PF 265 mi_265 := ⟨dc_265, pw_12, rfl, (fun h => by cases h), by decide +kernel, rk_of rfl⟩
theorem pf_266 : PF 266 mi_266 := ⟨dc_266, pw_12, rfl, (fun h => by cases h), by decide +kernel, rk_of rfl⟩
theorem pf_267 : PF 267 mi_267 := ⟨dc_267, pw_12, rfl, (fun h => by cases h), by decide +kernel, rk_of rfl⟩
theorem pf_268 : PF 268 mi_268 := ⟨dc_268, pw_12, rfl, (fun h => by cases h), by decide +kernel, rk_of rfl⟩
theorem pf_269 : PF 269 mi_269 := ⟨dc_269, pw_12, rfl, (fun h => by cases h), by decide +kernel, rk_of rfl⟩
theorem pf_270 : PF 270 mi_270 := ⟨dc_270, pw_12, rfl, (fun h => by cases h), by decide +kernel, rk_of rfl⟩
theorem pf_271 : PF 271 mi_271 := ⟨dc_271, pw_12, rfl, (fun h => by cases h), by decide +kernel, rk_of rfl⟩
theorem pf_272 : PF 272 mi_272 := ⟨dc_272, pw_12, rfl, (fun h => by cases h), by decide +kernel, rk_of rfl⟩
theorem pf_273 : PF 273 mi_273 := ⟨dc_273, pw_12, rfl, (fun h => by cases h), by decide +kernel, rk_of rfl⟩
theorem pf_274 : PF 274 mi_274 := ⟨dc_274, pw_12, rfl, (fun h => by cases h), by decide +kernel, rk_of rfl⟩
theorem pf_275 : PF 275 mi_275 := ⟨dc_275, pw_12, rfl, (fun h => by cases h), by decide +kernel, rk_of rfl⟩
theorem pf_276 : PF 276 mi_276 := ⟨dc_276, pw_12, rfl, (fun h => by cases h), by decide +kernel, rk_of rfl⟩
theorem pf_277 : PF 277 mi_277 := ⟨dc_277, pw_12, rfl, (fun h => by cases h), by decide +kernel, rk_of rfl⟩
theorem pf_278 : PF 278 mi_278 := ⟨dc_278, pw_12, rfl, (fun h => by cases h), by decide +kernel, rk_of rfl⟩
theorem pf_279 : PF 279 mi_279 := ⟨dc_279, pw_12, rfl, (fun h => by cases h), by decide +kernel, rk_of rfl⟩
theorem pf_280 : PF 280 mi_280 := ⟨dc_280, pw_12, rfl, (fun h => by cases h), by decide +kernel, rk_of rfl⟩
theorem pf_281 : PF 281 mi_281 := ⟨dc_281, pw_12, rfl, (fun h => by cases h), by decide +kernel, rk_of rfl⟩
theorem pf_282 : PF 282 mi_282 := ⟨dc_282, pw_12, rfl, (fun h => by cases h), by decide +kernel, rk_of rfl⟩
theorem pf_283 : PF 283 mi_283 := ⟨dc_283, pw_12, rfl, (fun h => by cases h), by decide +kernel, rk_of rfl⟩
theorem pf_284 : PF 284 mi_284 := ⟨dc_284, pw_12, rfl, (fun h => by cases h), by decide +kernel, rk_of rfl⟩
theorem pf_285 : PF 285 mi_285 := ⟨dc_285, pw_12, rfl, (fun h => by cases h), by decide +kernel, rk_of rfl⟩
theorem pf_286 : PF 286 mi_286 := ⟨dc_286, pw_12, rfl, (fun h => by cases h), by decide +kernel, rk_of rfl⟩
theorem pf_287 : PF 287 mi_287 := ⟨dc_287, pw_12, rfl, (fun h => by cases h), by decide +kernel, rk_of rfl⟩
theorem pf_288 : PF 288 mi_288 := ⟨dc_288, pw_12, rfl, (fun h => by cases h), by decide +kernel, rk_of rfl⟩
theorem pf_289 : PF 289 mi_289 := ⟨dc_289, pw_12, rfl, (fun h => by cases h), by decide +kernel, rk_of rfl⟩
theorem pf_290 : PF 290 mi_290 := ⟨dc_290, pw_12, rfl, (fun h => by cases h), by decide +kernel, rk_of rfl⟩
theorem pf_291 : PF 291 mi_291 := ⟨dc_291, pw_12, rfl, (fun h => by cases h), by decide +kernel, rk_of rfl⟩
theorem pf_292 : PF 292 mi_292 := ⟨dc_292, pw_12, rfl, (fun h => by cases h), by decide +kernel, rk_of rfl⟩
theorem pf_293 : PF 293 mi_293 := ⟨dc_293, pw_12, rfl, (fun h => by cases h), by decide +kernel, rk_of rfl⟩
theorem pf_294 : PF 294 mi_294 := ⟨dc_294, pw_12, rfl, (fun h => by cases h), by decide +kernel, rk_of rfl⟩
theorem pf_295 : PF 295 mi_295 := ⟨dc_295, pw_12, rfl, (fun h => by cases h), by decide +kernel, rk_of rfl⟩
theorem pf_296 : PF 296 mi_296 := ⟨dc_296, pw_12, rfl, (fun h => by cases h), by decide +kernel, rk_of rfl⟩
theorem pf_297 : PF 297 mi_297 := ⟨dc_297, pw_12, rfl, (fun h => by cases h), by decide +kernel, rk_of rfl⟩
theorem pf_298 : PF 298 mi_298 := ⟨dc_298, pw_12, rfl, (fun h => by cases h), by decide +kernel, rk_of rfl⟩
theorem pf_299 : PF 299 mi_299 := ⟨dc_299, pw_12, rfl, (fun h => by cases h), by decide +kernel, rk_of rfl⟩
theorem pf_300 : PF 300 mi_300 := ⟨dc_300, pw_12, rfl, (fun h => by cases h), by decide +kernel, rk_of rfl⟩
theorem pf_301 : PF 301 mi_301 := ⟨dc_301, pw_12, rfl, (fun h => by cases h), by decide +kernel, rk_of rfl⟩
theorem pf_302 : PF 302 mi_302 := ⟨dc_302, pw_12, rfl, (fun h => by cases h), by decide +kernel, rk_of rfl⟩
theorem pf_303 : PF 303 mi_303 := ⟨dc_303, pw_12, rfl, (fun h => by cases h), by decide +kernel, rk_of rfl⟩
theorem pf_304 : PF 304 mi_304 := ⟨dc_304, pw_12, rfl, (fun h => by cases h), by decide +kernel, rk_of rfl⟩
theorem pf_305 : PF 305 mi_305 := ⟨dc_305, pw_12, rfl, (fun h => by cases h), by decide +kernel, rk_of rfl⟩
theorem pf_306 : PF 306 mi_306 := ⟨dc_306, pw_12, rfl, (fun h => by cases h), by decide +kernel, rk_of rfl⟩
theorem pf_307 : PF 307 mi_307 := ⟨dc_307, pw_13, rfl, (fun h => by cases h), by decide +kernel, rk_of rfl⟩
def QM (n : Nat) (x : Option MI) : Prop := ∀ mi, x = some mi → PF n mi
theorem bs {α : Type} {a b : α} {c : Bool} {P : α → Prop} (h1 : c = true → P a) (h2 : c = false → P b) : P (bif c then a else b) := by
  cases c
  · exact h2 rfl
  · exact h1 rfl
theorem lf0 {n : Nat} {mi : MI} (h2 : Nat.blt n 1 = true) (h : PF 0 mi) : QM n (some mi) := fun m e => by
  cases e
  have : n = 0 := by have := Nat.le_of_ble_eq_true h2; omega
  subst this; exact h
theorem lf {n : Nat} {mi : MI} (k : Nat) (h1 : Nat.blt n k = false) (h2 : Nat.blt n (k + 1) = true) (h : PF k mi) : QM n (some mi) := fun m e => by
  cases e
  have : n = k := by
    have h3 := Nat.le_of_ble_eq_true h2
    have h4 : ¬ n < k := by rw [← Nat.blt_eq, h1]; simp
    omega
  subst this; exact h
set_option maxRecDepth 100000 in
theorem PF_all : ∀ y mi, mth y = some mi → PF y mi := fun n => by
  show QM n (mth n)
  unfold mth
  exact (bs (P := QM n) (fun t154 => (bs (P := QM n) (fun t77 => (bs (P := QM n) (fun t38 => (bs (P := QM n) (fun t19 => (bs (P := QM n) (fun t9 => (bs (P := QM n) (fun t4 => (bs (P := QM n) (fun t2 => (bs (P := QM n) (fun t1 => (lf0 t1 pf_0)) (fun f1 => (lf 1 f1 t2 pf_1)))) (fun f2 => (bs (P := QM n) (fun t3 => (lf 2 f2 t3 pf_2)) (fun f3 => (lf 3 f3 t4 pf_3)))))) (fun f4 => (bs (P := QM n) (fun t6 => (bs (P := QM n) (fun t5 => (lf 4 f4 t5 pf_4)) (fun f5 => (lf 5 f5 t6 pf_5)))) (fun f6 => (bs (P := QM n) (fun t7 => (lf 6 f6 t7 pf_6)) (fun f7 => (bs (P := QM n) (fun t8 => (lf 7 f7 t8 pf_7)) (fun f8 => (lf 8 f8 t9 pf_8)))))))))) (fun f9 => (bs (P := QM n) (fun t14 => (bs (P := QM n) (fun t11 => (bs (P := QM n) (fun t10 => (lf 9 f9 t10 pf_9)) (fun f10 => (lf 10 f10 t11 pf_10)))) (fun f11 => (bs (P := QM n) (fun t12 => (lf 11 f11 t12 pf_11)) (fun f12 => (bs (P := QM n) (fun t13 => (lf 12 f12 t13 pf_12)) (fun f13 => (lf 13 f13 t14 pf_13)))))))) (fun f14 => (bs (P := QM n) (fun t16 => (bs (P := QM n) (fun t15 => (lf 14 f14 t15 pf_14)) (fun f15 => (lf 15 f15 t16 pf_15)))) (fun f16 => (bs (P := QM n) (fun t17 => (lf 16 f16 t17 pf_16)) (fun f17 => (bs (P := QM n) (fun t18 => (lf 17 f17 t18 pf_17)) (fun f18 => (lf 18 f18 t19 pf_18)))))))))))) (fun f19 => (bs (P := QM n) (fun t28 => (bs (P := QM n) (fun t23 => (bs (P := QM n) (fun t21 => (bs (P := QM n) (fun t20 => (lf 19 f19 t20 pf_19)) (fun f20 => (lf 20 f20 t21 pf_20)))) (fun f21 => (bs (P := QM n) (fun t22 => (lf 21 f21 t22 pf_21)) (fun f22 => (lf 22 f22 t23 pf_22)))))) (fun f23 => (bs (P := QM n) (fun t25 => (bs (P := QM n) (fun t24 => (lf 23 f23 t24 pf_23)) (fun f24 => (lf 24 f24 t25 pf_24)))) (fun f25 => (bs (P := QM n) (fun t26 => (lf 25 f25 t26 pf_25)) (fun f26 => (bs (P := QM n) (fun t27 => (lf 26 f26 t27 pf_26)) (fun f27 => (lf 27 f27 t28 pf_27)))))))))) (fun f28 => (bs (P := QM n) (fun t33 => (bs (P := QM n) (fun t30 => (bs (P := QM n) (fun t29 => (lf 28 f28 t29 pf_28)) (fun f29 => (lf 29 f29 t30 pf_29)))) (fun f30 => (bs (P := QM n) (fun t31 => (lf 30 f30 t31 pf_30)) (fun f31 => (bs (P := QM n) (fun t32 => (lf 31 f31 t32 pf_31)) (fun f32 => (lf 32 f32 t33 pf_32)))))))) (fun f33 => (bs (P := QM n) (fun t35 => (bs (P := QM n) (fun t34 => (lf 33 f33 t34 pf_33)) (fun f34 => (lf 34 f34 t35 pf_34)))) (fun f35 => (bs (P := QM n) (fun t36 => (lf 35 f35 t36 pf_35)) (fun f36 => (bs (P := QM n) (fun t37 => (lf 36 f36 t37 pf_36)) (fun f37 => (lf 37 f37 t38 pf_37)))))))))))))) (fun f38 => (bs (P := QM n) (fun t57 => (bs (P := QM n) (fun t47 => (bs (P := QM n) (fun t42 => (bs (P := QM n) (fun t40 => (bs (P := QM n) (fun t39 => (lf 38 f38 t39 pf_38)) (fun f39 => (lf 39 f39 t40 pf_39)))) (fun f40 => (bs (P := QM n) (fun t41 => (lf 40 f40 t41 pf_40)) (fun f41 => (lf 41 f41 t42 pf_41)))))) (fun f42 => (bs (P := QM n) (fun t44 => (bs (P := QM n) (fun t43 => (lf 42 f42 t43 pf_42)) (fun f43 => (lf 43 f43 t44 pf_43)))) (fun f44 => (bs (P := QM n) (fun t45 => (lf 44 f44 t45 pf_44)) (fun f45 => (bs (P := QM n) (fun t46 => (lf 45 f45 t46 pf_45)) (fun f46 => (lf 46 f46 t47 pf_46)))))))))) (fun f47 => (bs (P := QM n) (fun t52 => (bs (P := QM n) (fun t49 => (bs (P := QM n) (fun t48 => (lf 47 f47 t48 pf_47)) (fun f48 => (lf 48 f48 t49 pf_48)))) (fun f49 => (bs (P := QM n) (fun t50 => (lf 49 f49 t50 pf_49)) (fun f50 => (bs (P := QM n) (fun t51 => (lf 50 f50 t51 pf_50)) (fun f51 => (lf 51 f51 t52 pf_51)))))))) (fun f52 => (bs (P := QM n) (fun t54 => (bs (P := QM n) (fun t53 => (lf 52 f52 t53 pf_52)) (fun f53 => (lf 53 f53 t54 pf_53)))) (fun f54 => (bs (P := QM n) (fun t55 => (lf 54 f54 t55 pf_54)) (fun f55 => (bs (P := QM n) (fun t56 => (lf 55 f55 t56 pf_55)) (fun f56 => (lf 56 f56 t57 pf_56)))))))))))) (fun f57 => (bs (P := QM n) (fun t67 => (bs (P := QM n) (fun t62 => (bs (P := QM n) (fun t59 => (bs (P := QM n) (fun t58 => (lf 57 f57 t58 pf_57)) (fun f58 => (lf 58 f58 t59 pf_58)))) (fun f59 => (bs (P := QM n) (fun t60 => (lf 59 f59 t60 pf_59)) (fun f60 => (bs (P := QM n) (fun t61 => (lf 60 f60 t61 pf_60)) (fun f61 => (lf 61 f61 t62 pf_61)))))))) (fun f62 => (bs (P := QM n) (fun t64 => (bs (P := QM n) (fun t63 => (lf 62 f62 t63 pf_62)) (fun f63 => (lf 63 f63 t64 pf_63)))) (fun f64 => (bs (P := QM n) (fun t65 => (lf 64 f64 t65 pf_64)) (fun f65 => (bs (P := QM n) (fun t66 => (lf 65 f65 t66 pf_65)) (fun f66 => (lf 66 f66 t67 pf_66)))))))))) (fun f67 => (bs (P := QM n) (fun t72 => (bs (P := QM n) (fun t69 => (bs (P := QM n) (fun t68 => (lf 67 f67 t68 pf_67)) (fun f68 => (lf 68 f68 t69 pf_68)))) (fun f69 => (bs (P := QM n) (fun t70 => (lf 69 f69 t70 pf_69)) (fun f70 => (bs (P := QM n) (fun t71 => (lf 70 f70 t71 pf_70)) (fun f71 => (lf 71 f71 t72 pf_71)))))))) (fun f72 => (bs (P := QM n) (fun t74 => (bs (P := QM n) (fun t73 => (lf 72 f72 t73 pf_72)) (fun f73 => (lf 73 f73 t74 pf_73)))) (fun f74 => (bs (P := QM n) (fun t75 => (lf 74 f74 t75 pf_74)) (fun f75 => (bs (P := QM n) (fun t76 => (lf 75 f75 t76 pf_75)) (fun f76 => (lf 76 f76 t77 pf_76)))))))))))))))) (fun f77 => (bs (P := QM n) (fun t115 => (bs (P := QM n) (fun t96 => (bs (P := QM n) (fun t86 => (bs (P := QM n) (fun t81 => (bs (P := QM n) (fun t79 => (bs (P := QM n) (fun t78 => (lf 77 f77 t78 pf_77)) (fun f78 => (lf 78 f78 t79 pf_78)))) (fun f79 => (bs (P := QM n) (fun t80 => (lf 79 f79 t80 pf_79)) (fun f80 => (lf 80 f80 t81 pf_80)))))) (fun f81 => (bs (P := QM n) (fun t83 => (bs (P := QM n) (fun t82 => (lf 81 f81 t82 pf_81)) (fun f82 => (lf 82 f82 t83 pf_82)))) (fun f83 => (bs (P := QM n) (fun t84 => (lf 83 f83 t84 pf_83)) (fun f84 => (bs (P := QM n) (fun t85 => (lf 84 f84 t85 pf_84)) (fun f85 => (lf 85 f85 t86 pf_85)))))))))) (fun f86 => (bs (P := QM n) (fun t91 => (bs (P := QM n) (fun t88 => (bs (P := QM n) (fun t87 => (lf 86 f86 t87 pf_86)) (fun f87 => (lf 87 f87 t88 pf_87)))) (fun f88 => (bs (P := QM n) (fun t89 => (lf 88 f88 t89 pf_88)) (fun f89 => (bs (P := QM n) (fun t90 => (lf 89 f89 t90 pf_89)) (fun f90 => (lf 90 f90 t91 pf_90)))))))) (fun f91 => (bs (P := QM n) (fun t93 => (bs (P := QM n) (fun t92 => (lf 91 f91 t92 pf_91)) (fun f92 => (lf 92 f92 t93 pf_92)))) (fun f93 => (bs (P := QM n) (fun t94 => (lf 93 f93 t94 pf_93)) (fun f94 => (bs (P := QM n) (fun t95 => (lf 94 f94 t95 pf_94)) (fun f95 => (lf 95 f95 t96 pf_95)))))))))))) (fun f96 => (bs (P := QM n) (fun t105 => (bs (P := QM n) (fun t100 => (bs (P := QM n) (fun t98 => (bs (P := QM n) (fun t97 => (lf 96 f96 t97 pf_96)) (fun f97 => (lf 97 f97 t98 pf_97)))) (fun f98 => (bs (P := QM n) (fun t99 => (lf 98 f98 t99 pf_98)) (fun f99 => (lf 99 f99 t100 pf_99)))))) (fun f100 => (bs (P := QM n) (fun t102 => (bs (P := QM n) (fun t101 => (lf 100 f100 t101 pf_100)) (fun f101 => (lf 101 f101 t102 pf_101)))) (fun f102 => (bs (P := QM n) (fun t103 => (lf 102 f102 t103 pf_102)) (fun f103 => (bs (P := QM n) (fun t104 => (lf 103 f103 t104 pf_103)) (fun f104 => (lf 104 f104 t105 pf_104)))))))))) (fun f105 => (bs (P := QM n) (fun t110 => (bs (P := QM n) (fun t107 => (bs (P := QM n) (fun t106 => (lf 105 f105 t106 pf_105)) (fun f106 => (lf 106 f106 t107 pf_106)))) (fun f107 => (bs (P := QM n) (fun t108 => (lf 107 f107 t108 pf_107)) (fun f108 => (bs (P := QM n) (fun t109 => (lf 108 f108 t109 pf_108)) (fun f109 => (lf 109 f109 t110 pf_109)))))))) (fun f110 => (bs (P := QM n) (fun t112 => (bs (P := QM n) (fun t111 => (lf 110 f110 t111 pf_110)) (fun f111 => (lf 111 f111 t112 pf_111)))) (fun f112 => (bs (P := QM n) (fun t113 => (lf 112 f112 t113 pf_112)) (fun f113 => (bs (P := QM n) (fun t114 => (lf 113 f113 t114 pf_113)) (fun f114 => (lf 114 f114 t115 pf_114)))))))))))))) (fun f115 => (bs (P := QM n) (fun t134 => (bs (P := QM n) (fun t124 => (bs (P := QM n) (fun t119 => (bs (P := QM n) (fun t117 => (bs (P := QM n) (fun t116 => (lf 115 f115 t116 pf_115)) (fun f116 => (lf 116 f116 t117 pf_116)))) (fun f117 => (bs (P := QM n) (fun t118 => (lf 117 f117 t118 pf_117)) (fun f118 => (lf 118 f118 t119 pf_118)))))) (fun f119 => (bs (P := QM n) (fun t121 => (bs (P := QM n) (fun t120 => (lf 119 f119 t120 pf_119)) (fun f120 => (lf 120 f120 t121 pf_120)))) (fun f121 => (bs (P := QM n) (fun t122 => (lf 121 f121 t122 pf_121)) (fun f122 => (bs (P := QM n) (fun t123 => (lf 122 f122 t123 pf_122)) (fun f123 => (lf 123 f123 t124 pf_123)))))))))) (fun f124 => (bs (P := QM n) (fun t129 => (bs (P := QM n) (fun t126 => (bs (P := QM n) (fun t125 => (lf 124 f124 t125 pf_124)) (fun f125 => (lf 125 f125 t126 pf_125)))) (fun f126 => (bs (P := QM n) (fun t127 => (lf 126 f126 t127 pf_126)) (fun f127 => (bs (P := QM n) (fun t128 => (lf 127 f127 t128 pf_127)) (fun f128 => (lf 128 f128 t129 pf_128)))))))) (fun f129 => (bs (P := QM n) (fun t131 => (bs (P := QM n) (fun t130 => (lf 129 f129 t130 pf_129)) (fun f130 => (lf 130 f130 t131 pf_130)))) (fun f131 => (bs (P := QM n) (fun t132 => (lf 131 f131 t132 pf_131)) (fun f132 => (bs (P := QM n) (fun t133 => (lf 132 f132 t133 pf_132)) (fun f133 => (lf 133 f133 t134 pf_133)))))))))))) (fun f134 => (bs (P := QM n) (fun t144 => (bs (P := QM n) (fun t139 => (bs (P := QM n) (fun t136 => (bs (P := QM n) (fun t135 => (lf 134 f134 t135 pf_134)) (fun f135 => (lf 135 f135 t136 pf_135)))) (fun f136 => (bs (P := QM n) (fun t137 => (lf 136 f136 t137 pf_136)) (fun f137 => (bs (P := QM n) (fun t138 => (lf 137 f137 t138 pf_137)) (fun f138 => (lf 138 f138 t139 pf_138)))))))) (fun f139 => (bs (P := QM n) (fun t141 => (bs (P := QM n) (fun t140 => (lf 139 f139 t140 pf_139)) (fun f140 => (lf 140 f140 t141 pf_140)))) (fun f141 => (bs (P := QM n) (fun t142 => (lf 141 f141 t142 pf_141)) (fun f142 => (bs (P := QM n) (fun t143 => (lf 142 f142 t143 pf_142)) (fun f143 => (lf 143 f143 t144 pf_143)))))))))) (fun f144 => (bs (P := QM n) (fun t149 => (bs (P := QM n) (fun t146 => (bs (P := QM n) (fun t145 => (lf 144 f144 t145 pf_144)) (fun f145 => (lf 145 f145 t146 pf_145)))) (fun f146 => (bs (P := QM n) (fun t147 => (lf 146 f146 t147 pf_146)) (fun f147 => (bs (P := QM n) (fun t148 => (lf 147 f147 t148 pf_147)) (fun f148 => (lf 148 f148 t149 pf_148)))))))) (fun f149 => (bs (P := QM n) (fun t151 => (bs (P := QM n) (fun t150 => (lf 149 f149 t150 pf_149)) (fun f150 => (lf 150 f150 t151 pf_150)))) (fun f151 => (bs (P := QM n) (fun t152 => (lf 151 f151 t152 pf_151)) (fun f152 => (bs (P := QM n) (fun t153 => (lf 152 f152 t153 pf_152)) (fun f153 => (lf 153 f153 t154 pf_153)))))))))))))))))) (fun f154 => (bs (P := QM n) (fun t231 => (bs (P := QM n) (fun t192 => (bs (P := QM n) (fun t173 => (bs (P := QM n) (fun t163 => (bs (P := QM n) (fun t158 => (bs (P := QM n) (fun t156 => (bs (P := QM n) (fun t155 => (lf 154 f154 t155 pf_154)) (fun f155 => (lf 155 f155 t156 pf_155)))) (fun f156 => (bs (P := QM n) (fun t157 => (lf 156 f156 t157 pf_156)) (fun f157 => (lf 157 f157 t158 pf_157)))))) (fun f158 => (bs (P := QM n) (fun t160 => (bs (P := QM n) (fun t159 => (lf 158 f158 t159 pf_158)) (fun f159 => (lf 159 f159 t160 pf_159)))) (fun f160 => (bs (P := QM n) (fun t161 => (lf 160 f160 t161 pf_160)) (fun f161 => (bs (P := QM n) (fun t162 => (lf 161 f161 t162 pf_161)) (fun f162 => (lf 162 f162 t163 pf_162)))))))))) (fun f163 => (bs (P := QM n) (fun t168 => (bs (P := QM n) (fun t165 => (bs (P := QM n) (fun t164 => (lf 163 f163 t164 pf_163)) (fun f164 => (lf 164 f164 t165 pf_164)))) (fun f165 => (bs (P := QM n) (fun t166 => (lf 165 f165 t166 pf_165)) (fun f166 => (bs (P := QM n) (fun t167 => (lf 166 f166 t167 pf_166)) (fun f167 => (lf 167 f167 t168 pf_167)))))))) (fun f168 => (bs (P := QM n) (fun t170 => (bs (P := QM n) (fun t169 => (lf 168 f168 t169 pf_168)) (fun f169 => (lf 169 f169 t170 pf_169)))) (fun f170 => (bs (P := QM n) (fun t171 => (lf 170 f170 t171 pf_170)) (fun f171 => (bs (P := QM n) (fun t172 => (lf 171 f171 t172 pf_171)) (fun f172 => (lf 172 f172 t173 pf_172)))))))))))) (fun f173 => (bs (P := QM n) (fun t182 => (bs (P := QM n) (fun t177 => (bs (P := QM n) (fun t175 => (bs (P := QM n) (fun t174 => (lf 173 f173 t174 pf_173)) (fun f174 => (lf 174 f174 t175 pf_174)))) (fun f175 => (bs (P := QM n) (fun t176 => (lf 175 f175 t176 pf_175)) (fun f176 => (lf 176 f176 t177 pf_176)))))) (fun f177 => (bs (P := QM n) (fun t179 => (bs (P := QM n) (fun t178 => (lf 177 f177 t178 pf_177)) (fun f178 => (lf 178 f178 t179 pf_178)))) (fun f179 => (bs (P := QM n) (fun t180 => (lf 179 f179 t180 pf_179)) (fun f180 => (bs (P := QM n) (fun t181 => (lf 180 f180 t181 pf_180)) (fun f181 => (lf 181 f181 t182 pf_181)))))))))) (fun f182 => (bs (P := QM n) (fun t187 => (bs (P := QM n) (fun t184 => (bs (P := QM n) (fun t183 => (lf 182 f182 t183 pf_182)) (fun f183 => (lf 183 f183 t184 pf_183)))) (fun f184 => (bs (P := QM n) (fun t185 => (lf 184 f184 t185 pf_184)) (fun f185 => (bs (P := QM n) (fun t186 => (lf 185 f185 t186 pf_185)) (fun f186 => (lf 186 f186 t187 pf_186)))))))) (fun f187 => (bs (P := QM n) (fun t189 => (bs (P := QM n) (fun t188 => (lf 187 f187 t188 pf_187)) (fun f188 => (lf 188 f188 t189 pf_188)))) (fun f189 => (bs (P := QM n) (fun t190 => (lf 189 f189 t190 pf_189)) (fun f190 => (bs (P := QM n) (fun t191 => (lf 190 f190 t191 pf_190)) (fun f191 => (lf 191 f191 t192 pf_191)))))))))))))) (fun f192 => (bs (P := QM n) (fun t211 => (bs (P := QM n) (fun t201 => (bs (P := QM n) (fun t196 => (bs (P := QM n) (fun t194 => (bs (P := QM n) (fun t193 => (lf 192 f192 t193 pf_192)) (fun f193 => (lf 193 f193 t194 pf_193)))) (fun f194 => (bs (P := QM n) (fun t195 => (lf 194 f194 t195 pf_194)) (fun f195 => (lf 195 f195 t196 pf_195)))))) (fun f196 => (bs (P := QM n) (fun t198 => (bs (P := QM n) (fun t197 => (lf 196 f196 t197 pf_196)) (fun f197 => (lf 197 f197 t198 pf_197)))) (fun f198 => (bs (P := QM n) (fun t199 => (lf 198 f198 t199 pf_198)) (fun f199 => (bs (P := QM n) (fun t200 => (lf 199 f199 t200 pf_199)) (fun f200 => (lf 200 f200 t201 pf_200)))))))))) (fun f201 => (bs (P := QM n) (fun t206 => (bs (P := QM n) (fun t203 => (bs (P := QM n) (fun t202 => (lf 201 f201 t202 pf_201)) (fun f202 => (lf 202 f202 t203 pf_202)))) (fun f203 => (bs (P := QM n) (fun t204 => (lf 203 f203 t204 pf_203)) (fun f204 => (bs (P := QM n) (fun t205 => (lf 204 f204 t205 pf_204)) (fun f205 => (lf 205 f205 t206 pf_205)))))))) (fun f206 => (bs (P := QM n) (fun t208 => (bs (P := QM n) (fun t207 => (lf 206 f206 t207 pf_206)) (fun f207 => (lf 207 f207 t208 pf_207)))) (fun f208 => (bs (P := QM n) (fun t209 => (lf 208 f208 t209 pf_208)) (fun f209 => (bs (P := QM n) (fun t210 => (lf 209 f209 t210 pf_209)) (fun f210 => (lf 210 f210 t211 pf_210)))))))))))) (fun f211 => (bs (P := QM n) (fun t221 => (bs (P := QM n) (fun t216 => (bs (P := QM n) (fun t213 => (bs (P := QM n) (fun t212 => (lf 211 f211 t212 pf_211)) (fun f212 => (lf 212 f212 t213 pf_212)))) (fun f213 => (bs (P := QM n) (fun t214 => (lf 213 f213 t214 pf_213)) (fun f214 => (bs (P := QM n) (fun t215 => (lf 214 f214 t215 pf_214)) (fun f215 => (lf 215 f215 t216 pf_215)))))))) (fun f216 => (bs (P := QM n) (fun t218 => (bs (P := QM n) (fun t217 => (lf 216 f216 t217 pf_216)) (fun f217 => (lf 217 f217 t218 pf_217)))) (fun f218 => (bs (P := QM n) (fun t219 => (lf 218 f218 t219 pf_218)) (fun f219 => (bs (P := QM n) (fun t220 => (lf 219 f219 t220 pf_219)) (fun f220 => (lf 220 f220 t221 pf_220)))))))))) (fun f221 => (bs (P := QM n) (fun t226 => (bs (P := QM n) (fun t223 => (bs (P := QM n) (fun t222 => (lf 221 f221 t222 pf_221)) (fun f222 => (lf 222 f222 t223 pf_222)))) (fun f223 => (bs (P := QM n) (fun t224 => (lf 223 f223 t224 pf_223)) (fun f224 => (bs (P := QM n) (fun t225 => (lf 224 f224 t225 pf_224)) (fun f225 => (lf 225 f225 t226 pf_225)))))))) (fun f226 => (bs (P := QM n) (fun t228 => (bs (P := QM n) (fun t227 => (lf 226 f226 t227 pf_226)) (fun f227 => (lf 227 f227 t228 pf_227)))) (fun f228 => (bs (P := QM n) (fun t229 => (lf 228 f228 t229 pf_228)) (fun f229 => (bs (P := QM n) (fun t230 => (lf 229 f229 t230 pf_229)) (fun f230 => (lf 230 f230 t231 pf_230)))))))))))))))) (fun f231 => (bs (P := QM n) (fun t270 => (bs (P := QM n) (fun t250 => (bs (P := QM n) (fun t240 => (bs (P := QM n) (fun t235 => (bs (P := QM n) (fun t233 => (bs (P := QM n) (fun t232 => (lf 231 f231 t232 pf_231)) (fun f232 => (lf 232 f232 t233 pf_232)))) (fun f233 => (bs (P := QM n) (fun t234 => (lf 233 f233 t234 pf_233)) (fun f234 => (lf 234 f234 t235 pf_234)))))) (fun f235 => (bs (P := QM n) (fun t237 => (bs (P := QM n) (fun t236 => (lf 235 f235 t236 pf_235)) (fun f236 => (lf 236 f236 t237 pf_236)))) (fun f237 => (bs (P := QM n) (fun t238 => (lf 237 f237 t238 pf_237)) (fun f238 => (bs (P := QM n) (fun t239 => (lf 238 f238 t239 pf_238)) (fun f239 => (lf 239 f239 t240 pf_239)))))))))) (fun f240 => (bs (P := QM n) (fun t245 => (bs (P := QM n) (fun t242 => (bs (P := QM n) (fun t241 => (lf 240 f240 t241 pf_240)) (fun f241 => (lf 241 f241 t242 pf_241)))) (fun f242 => (bs (P := QM n) (fun t243 => (lf 242 f242 t243 pf_242)) (fun f243 => (bs (P := QM n) (fun t244 => (lf 243 f243 t244 pf_243)) (fun f244 => (lf 244 f244 t245 pf_244)))))))) (fun f245 => (bs (P := QM n) (fun t247 => (bs (P := QM n) (fun t246 => (lf 245 f245 t246 pf_245)) (fun f246 => (lf 246 f246 t247 pf_246)))) (fun f247 => (bs (P := QM n) (fun t248 => (lf 247 f247 t248 pf_247)) (fun f248 => (bs (P := QM n) (fun t249 => (lf 248 f248 t249 pf_248)) (fun f249 => (lf 249 f249 t250 pf_249)))))))))))) (fun f250 => (bs (P := QM n) (fun t260 => (bs (P := QM n) (fun t255 => (bs (P := QM n) (fun t252 => (bs (P := QM n) (fun t251 => (lf 250 f250 t251 pf_250)) (fun f251 => (lf 251 f251 t252 pf_251)))) (fun f252 => (bs (P := QM n) (fun t253 => (lf 252 f252 t253 pf_252)) (fun f253 => (bs (P := QM n) (fun t254 => (lf 253 f253 t254 pf_253)) (fun f254 => (lf 254 f254 t255 pf_254)))))))) (fun f255 => (bs (P := QM n) (fun t257 => (bs (P := QM n) (fun t256 => (lf 255 f255 t256 pf_255)) (fun f256 => (lf 256 f256 t257 pf_256)))) (fun f257 => (bs (P := QM n) (fun t258 => (lf 257 f257 t258 pf_257)) (fun f258 => (bs (P := QM n) (fun t259 => (lf 258 f258 t259 pf_258)) (fun f259 => (lf 259 f259 t260 pf_259)))))))))) (fun f260 => (bs (P := QM n) (fun t265 => (bs (P := QM n) (fun t262 => (bs (P := QM n) (fun t261 => (lf 260 f260 t261 pf_260)) (fun f261 => (lf 261 f261 t262 pf_261)))) (fun f262 => (bs (P := QM n) (fun t263 => (lf 262 f262 t263 pf_262)) (fun f263 => (bs (P := QM n) (fun t264 => (lf 263 f263 t264 pf_263)) (fun f264 => (lf 264 f264 t265 pf_264)))))))) (fun f265 => (bs (P := QM n) (fun t267 => (bs (P := QM n) (fun t266 => (lf 265 f265 t266 pf_265)) (fun f266 => (lf 266 f266 t267 pf_266)))) (fun f267 => (bs (P := QM n) (fun t268 => (lf 267 f267 t268 pf_267)) (fun f268 => (bs (P := QM n) (fun t269 => (lf 268 f268 t269 pf_268)) (fun f269 => (lf 269 f269 t270 pf_269)))))))))))))) (fun f270 => (bs (P := QM n) (fun t289 => (bs (P := QM n) (fun t279 => (bs (P := QM n) (fun t274 => (bs (P := QM n) (fun t272 => (bs (P := QM n) (fun t271 => (lf 270 f270 t271 pf_270)) (fun f271 => (lf 271 f271 t272 pf_271)))) (fun f272 => (bs (P := QM n) (fun t273 => (lf 272 f272 t273 pf_272)) (fun f273 => (lf 273 f273 t274 pf_273)))))) (fun f274 => (bs (P := QM n) (fun t276 => (bs (P := QM n) (fun t275 => (lf 274 f274 t275 pf_274)) (fun f275 => (lf 275 f275 t276 pf_275)))) (fun f276 => (bs (P := QM n) (fun t277 => (lf 276 f276 t277 pf_276)) (fun f277 => (bs (P := QM n) (fun t278 => (lf 277 f277 t278 pf_277)) (fun f278 => (lf 278 f278 t279 pf_278)))))))))) (fun f279 => (bs (P := QM n) (fun t284 => (bs (P := QM n) (fun t281 => (bs (P := QM n) (fun t280 => (lf 279 f279 t280 pf_279)) (fun f280 => (lf 280 f280 t281 pf_280)))) (fun f281 => (bs (P := QM n) (fun t282 => (lf 281 f281 t282 pf_281)) (fun f282 => (bs (P := QM n) (fun t283 => (lf 282 f282 t283 pf_282)) (fun f283 => (lf 283 f283 t284 pf_283)))))))) (fun f284 => (bs (P := QM n) (fun t286 => (bs (P := QM n) (fun t285 => (lf 284 f284 t285 pf_284)) (fun f285 => (lf 285 f285 t286 pf_285)))) (fun f286 => (bs (P := QM n) (fun t287 => (lf 286 f286 t287 pf_286)) (fun f287 => (bs (P := QM n) (fun t288 => (lf 287 f287 t288 pf_287)) (fun f288 => (lf 288 f288 t289 pf_288)))))))))))) (fun f289 => (bs (P := QM n) (fun t299 => (bs (P := QM n) (fun t294 => (bs (P := QM n) (fun t291 => (bs (P := QM n) (fun t290 => (lf 289 f289 t290 pf_289)) (fun f290 => (lf 290 f290 t291 pf_290)))) (fun f291 => (bs (P := QM n) (fun t292 => (lf 291 f291 t292 pf_291)) (fun f292 => (bs (P := QM n) (fun t293 => (lf 292 f292 t293 pf_292)) (fun f293 => (lf 293 f293 t294 pf_293)))))))) (fun f294 => (bs (P := QM n) (fun t296 => (bs (P := QM n) (fun t295 => (lf 294 f294 t295 pf_294)) (fun f295 => (lf 295 f295 t296 pf_295)))) (fun f296 => (bs (P := QM n) (fun t297 => (lf 296 f296 t297 pf_296)) (fun f297 => (bs (P := QM n) (fun t298 => (lf 297 f297 t298 pf_297)) (fun f298 => (lf 298 f298 t299 pf_298)))))))))) (fun f299 => (bs (P := QM n) (fun t304 => (bs (P := QM n) (fun t301 => (bs (P := QM n) (fun t300 => (lf 299 f299 t300 pf_299)) (fun f300 => (lf 300 f300 t301 pf_300)))) (fun f301 => (bs (P := QM n) (fun t302 => (lf 301 f301 t302 pf_301)) (fun f302 => (bs (P := QM n) (fun t303 => (lf 302 f302 t303 pf_302)) (fun f303 => (lf 303 f303 t304 pf_303)))))))) (fun f304 => (bs (P := QM n) (fun t306 => (bs (P := QM n) (fun t305 => (lf 304 f304 t305 pf_304)) (fun f305 => (lf 305 f305 t306 pf_305)))) (fun f306 => (bs (P := QM n) (fun t307 => (lf 306 f306 t307 pf_306)) (fun f307 => (bs (P := QM n) (fun t308 => (lf 307 f307 t308 pf_307)) (fun f308 => (fun mi e => by cases e)))))))))))))))))))
theorem HAC_ok : HAC := ⟨(tc_1 (i := 70) rfl rfl), (tc_1 (i := 130) rfl rfl), (tc_1 (i := 131) rfl rfl), (tc_2 (i := 225) rfl rfl)⟩
