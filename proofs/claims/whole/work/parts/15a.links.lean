theorem po_0 : px_own 0 = 25 := by decide +kernel
theorem pt_0 : px_ret 0 = (some .boolean) := by decide +kernel
theorem po_1 : px_own 1 = 8 := by decide +kernel
theorem pt_1 : px_ret 1 = none := by decide +kernel
theorem po_2 : px_own 2 = 5 := by decide +kernel
theorem pt_2 : px_ret 2 = none := by decide +kernel
theorem po_3 : px_own 3 = 0 := by decide +kernel
theorem pt_3 : px_ret 3 = none := by decide +kernel
theorem po_4 : px_own 4 = 1 := by decide +kernel
theorem pt_4 : px_ret 4 = none := by decide +kernel
theorem po_5 : px_own 5 = 7 := by decide +kernel
theorem pt_5 : px_ret 5 = none := by decide +kernel
theorem po_6 : px_own 6 = 4 := by decide +kernel
theorem pt_6 : px_ret 6 = none := by decide +kernel
theorem po_7 : px_own 7 = 2 := by decide +kernel
theorem pt_7 : px_ret 7 = none := by decide +kernel
theorem po_8 : px_own 8 = 3 := by decide +kernel
theorem pt_8 : px_ret 8 = none := by decide +kernel
theorem po_9 : px_own 9 = 6 := by decide +kernel
theorem pt_9 : px_ret 9 = none := by decide +kernel
theorem po_10 : px_own 10 = 8 := by decide +kernel
theorem pt_10 : px_ret 10 = (some .int) := by decide +kernel
theorem po_11 : px_own 11 = 8 := by decide +kernel
theorem pt_11 : px_ret 11 = (some .boolean) := by decide +kernel
theorem po_12 : px_own 12 = 8 := by decide +kernel
theorem pt_12 : px_ret 12 = (some .boolean) := by decide +kernel
theorem po_13 : px_own 13 = 8 := by decide +kernel
theorem pt_13 : px_ret 13 = (some .int) := by decide +kernel
theorem po_14 : px_own 14 = 7 := by decide +kernel
theorem pt_14 : px_ret 14 = none := by decide +kernel
theorem po_15 : px_own 15 = 8 := by decide +kernel
theorem pt_15 : px_ret 15 = (some .int) := by decide +kernel
theorem po_16 : px_own 16 = 8 := by decide +kernel
theorem pt_16 : px_ret 16 = (some .int) := by decide +kernel
theorem po_17 : px_own 17 = 0 := by decide +kernel
theorem pt_17 : px_ret 17 = (some .boolean) := by decide +kernel
theorem po_18 : px_own 18 = 0 := by decide +kernel
theorem pt_18 : px_ret 18 = (some .boolean) := by decide +kernel
theorem po_19 : px_own 19 = 0 := by decide +kernel
theorem pt_19 : px_ret 19 = none := by decide +kernel
theorem po_20 : px_own 20 = 24 := by decide +kernel
theorem pt_20 : px_ret 20 = none := by decide +kernel
theorem po_21 : px_own 21 = 8 := by decide +kernel
theorem pt_21 : px_ret 21 = (some .int) := by decide +kernel
theorem po_22 : px_own 22 = 0 := by decide +kernel
theorem pt_22 : px_ret 22 = (some .int) := by decide +kernel
theorem po_23 : px_own 23 = 0 := by decide +kernel
theorem pt_23 : px_ret 23 = (some .boolean) := by decide +kernel
theorem po_24 : px_own 24 = 6 := by decide +kernel
theorem pt_24 : px_ret 24 = (some .int) := by decide +kernel
theorem po_25 : px_own 25 = 5 := by decide +kernel
theorem pt_25 : px_ret 25 = (some .int) := by decide +kernel
theorem po_26 : px_own 26 = 5 := by decide +kernel
theorem pt_26 : px_ret 26 = (some .long) := by decide +kernel
theorem po_27 : px_own 27 = 0 := by decide +kernel
theorem pt_27 : px_ret 27 = (some .int) := by decide +kernel
theorem po_28 : px_own 28 = 0 := by decide +kernel
theorem pt_28 : px_ret 28 = (some .int) := by decide +kernel
theorem po_29 : px_own 29 = 8 := by decide +kernel
theorem pt_29 : px_ret 29 = (some .int) := by decide +kernel
theorem po_30 : px_own 30 = 8 := by decide +kernel
theorem pt_30 : px_ret 30 = (some .int) := by decide +kernel
theorem po_31 : px_own 31 = 8 := by decide +kernel
theorem pt_31 : px_ret 31 = (some .boolean) := by decide +kernel
theorem po_32 : px_own 32 = 1 := by decide +kernel
theorem pt_32 : px_ret 32 = (some .int) := by decide +kernel
theorem po_33 : px_own 33 = 0 := by decide +kernel
theorem pt_33 : px_ret 33 = (some .int) := by decide +kernel
theorem po_34 : px_own 34 = 0 := by decide +kernel
theorem pt_34 : px_ret 34 = (some .boolean) := by decide +kernel
theorem po_35 : px_own 35 = 1 := by decide +kernel
theorem pt_35 : px_ret 35 = (some .int) := by decide +kernel
theorem po_36 : px_own 36 = 8 := by decide +kernel
theorem pt_36 : px_ret 36 = (some .int) := by decide +kernel
theorem po_37 : px_own 37 = 8 := by decide +kernel
theorem pt_37 : px_ret 37 = (some .boolean) := by decide +kernel
theorem po_38 : px_own 38 = 0 := by decide +kernel
theorem pt_38 : px_ret 38 = (some .boolean) := by decide +kernel
theorem po_39 : px_own 39 = 8 := by decide +kernel
theorem pt_39 : px_ret 39 = (some .int) := by decide +kernel
theorem po_40 : px_own 40 = 0 := by decide +kernel
theorem pt_40 : px_ret 40 = (some .boolean) := by decide +kernel
theorem po_41 : px_own 41 = 0 := by decide +kernel
theorem pt_41 : px_ret 41 = none := by decide +kernel
theorem po_42 : px_own 42 = 0 := by decide +kernel
theorem pt_42 : px_ret 42 = (some .int) := by decide +kernel
theorem po_43 : px_own 43 = 0 := by decide +kernel
theorem pt_43 : px_ret 43 = (some .int) := by decide +kernel
theorem po_44 : px_own 44 = 8 := by decide +kernel
theorem pt_44 : px_ret 44 = (some .int) := by decide +kernel
theorem po_45 : px_own 45 = 8 := by decide +kernel
theorem pt_45 : px_ret 45 = (some .int) := by decide +kernel
theorem po_46 : px_own 46 = 8 := by decide +kernel
theorem pt_46 : px_ret 46 = (some .int) := by decide +kernel
theorem po_47 : px_own 47 = 0 := by decide +kernel
theorem pt_47 : px_ret 47 = (some .int) := by decide +kernel
theorem po_48 : px_own 48 = 8 := by decide +kernel
theorem pt_48 : px_ret 48 = (some .int) := by decide +kernel
theorem po_49 : px_own 49 = 8 := by decide +kernel
theorem pt_49 : px_ret 49 = none := by decide +kernel
theorem po_50 : px_own 50 = 8 := by decide +kernel
theorem pt_50 : px_ret 50 = (some .int) := by decide +kernel
theorem po_51 : px_own 51 = 8 := by decide +kernel
theorem pt_51 : px_ret 51 = (some .int) := by decide +kernel
theorem po_52 : px_own 52 = 8 := by decide +kernel
theorem pt_52 : px_ret 52 = (some .boolean) := by decide +kernel
theorem po_53 : px_own 53 = 8 := by decide +kernel
theorem pt_53 : px_ret 53 = (some .boolean) := by decide +kernel
theorem po_54 : px_own 54 = 8 := by decide +kernel
theorem pt_54 : px_ret 54 = (some .int) := by decide +kernel
theorem po_55 : px_own 55 = 8 := by decide +kernel
theorem pt_55 : px_ret 55 = (some .int) := by decide +kernel
theorem po_56 : px_own 56 = 8 := by decide +kernel
theorem pt_56 : px_ret 56 = (some .int) := by decide +kernel
theorem po_57 : px_own 57 = 3 := by decide +kernel
theorem pt_57 : px_ret 57 = (some .boolean) := by decide +kernel
theorem po_58 : px_own 58 = 6 := by decide +kernel
theorem pt_58 : px_ret 58 = none := by decide +kernel
theorem po_59 : px_own 59 = 3 := by decide +kernel
theorem pt_59 : px_ret 59 = none := by decide +kernel
theorem po_60 : px_own 60 = 3 := by decide +kernel
theorem pt_60 : px_ret 60 = (some .int) := by decide +kernel
theorem po_61 : px_own 61 = 3 := by decide +kernel
theorem pt_61 : px_ret 61 = (some .boolean) := by decide +kernel
theorem po_62 : px_own 62 = 3 := by decide +kernel
theorem pt_62 : px_ret 62 = (some .int) := by decide +kernel
theorem po_63 : px_own 63 = 20 := by decide +kernel
theorem pt_63 : px_ret 63 = (some .int) := by decide +kernel
theorem po_64 : px_own 64 = 20 := by decide +kernel
theorem pt_64 : px_ret 64 = (some .byte) := by decide +kernel
theorem po_65 : px_own 65 = 20 := by decide +kernel
theorem pt_65 : px_ret 65 = (some .char) := by decide +kernel
theorem po_66 : px_own 66 = 20 := by decide +kernel
theorem pt_66 : px_ret 66 = (some .boolean) := by decide +kernel
theorem po_67 : px_own 67 = 21 := by decide +kernel
theorem pt_67 : px_ret 67 = (some .char) := by decide +kernel
theorem po_68 : px_own 68 = 20 := by decide +kernel
theorem pt_68 : px_ret 68 = none := by decide +kernel
theorem po_69 : px_own 69 = 22 := by decide +kernel
theorem pt_69 : px_ret 69 = (some .int) := by decide +kernel
theorem po_70 : px_own 70 = 3 := by decide +kernel
theorem pt_70 : px_ret 70 = (some .boolean) := by decide +kernel
theorem po_71 : px_own 71 = 6 := by decide +kernel
theorem pt_71 : px_ret 71 = none := by decide +kernel
theorem po_72 : px_own 72 = 3 := by decide +kernel
theorem pt_72 : px_ret 72 = (some .boolean) := by decide +kernel
theorem po_73 : px_own 73 = 6 := by decide +kernel
theorem pt_73 : px_ret 73 = none := by decide +kernel
theorem po_74 : px_own 74 = 3 := by decide +kernel
theorem pt_74 : px_ret 74 = (some .boolean) := by decide +kernel
theorem po_75 : px_own 75 = 3 := by decide +kernel
theorem pt_75 : px_ret 75 = (some .boolean) := by decide +kernel
theorem po_76 : px_own 76 = 3 := by decide +kernel
theorem pt_76 : px_ret 76 = (some .boolean) := by decide +kernel
theorem po_77 : px_own 77 = 3 := by decide +kernel
theorem pt_77 : px_ret 77 = (some .boolean) := by decide +kernel
theorem po_78 : px_own 78 = 3 := by decide +kernel
theorem pt_78 : px_ret 78 = (some .boolean) := by decide +kernel
theorem po_79 : px_own 79 = 3 := by decide +kernel
theorem pt_79 : px_ret 79 = (some .boolean) := by decide +kernel
theorem po_80 : px_own 80 = 6 := by decide +kernel
theorem pt_80 : px_ret 80 = none := by decide +kernel
theorem po_81 : px_own 81 = 3 := by decide +kernel
theorem pt_81 : px_ret 81 = (some .boolean) := by decide +kernel
theorem po_82 : px_own 82 = 3 := by decide +kernel
theorem pt_82 : px_ret 82 = (some .boolean) := by decide +kernel
theorem po_83 : px_own 83 = 3 := by decide +kernel
theorem pt_83 : px_ret 83 = (some .int) := by decide +kernel
theorem po_84 : px_own 84 = 3 := by decide +kernel
theorem pt_84 : px_ret 84 = (some .boolean) := by decide +kernel
theorem po_85 : px_own 85 = 3 := by decide +kernel
theorem pt_85 : px_ret 85 = (some .boolean) := by decide +kernel
theorem po_86 : px_own 86 = 3 := by decide +kernel
theorem pt_86 : px_ret 86 = (some .boolean) := by decide +kernel
theorem po_87 : px_own 87 = 3 := by decide +kernel
theorem pt_87 : px_ret 87 = (some .boolean) := by decide +kernel
theorem po_88 : px_own 88 = 3 := by decide +kernel
theorem pt_88 : px_ret 88 = (some .boolean) := by decide +kernel
theorem po_89 : px_own 89 = 3 := by decide +kernel
theorem pt_89 : px_ret 89 = (some .boolean) := by decide +kernel
theorem po_90 : px_own 90 = 6 := by decide +kernel
theorem pt_90 : px_ret 90 = none := by decide +kernel
theorem po_91 : px_own 91 = 6 := by decide +kernel
theorem pt_91 : px_ret 91 = (some (.object "SermonPanes$Text")) := by decide +kernel
theorem po_92 : px_own 92 = 8 := by decide +kernel
theorem pt_92 : px_ret 92 = (some .int) := by decide +kernel
theorem po_93 : px_own 93 = 4 := by decide +kernel
theorem pt_93 : px_ret 93 = none := by decide +kernel
theorem po_94 : px_own 94 = 1 := by decide +kernel
theorem pt_94 : px_ret 94 = none := by decide +kernel
theorem po_95 : px_own 95 = 7 := by decide +kernel
theorem pt_95 : px_ret 95 = none := by decide +kernel
theorem po_96 : px_own 96 = 4 := by decide +kernel
theorem pt_96 : px_ret 96 = none := by decide +kernel
theorem po_97 : px_own 97 = 6 := by decide +kernel
theorem pt_97 : px_ret 97 = (some .int) := by decide +kernel
theorem po_98 : px_own 98 = 4 := by decide +kernel
theorem pt_98 : px_ret 98 = none := by decide +kernel
theorem po_99 : px_own 99 = 0 := by decide +kernel
theorem pt_99 : px_ret 99 = (some .int) := by decide +kernel
theorem po_100 : px_own 100 = 7 := by decide +kernel
theorem pt_100 : px_ret 100 = none := by decide +kernel
theorem po_101 : px_own 101 = 0 := by decide +kernel
theorem pt_101 : px_ret 101 = (some .int) := by decide +kernel
theorem po_102 : px_own 102 = 0 := by decide +kernel
theorem pt_102 : px_ret 102 = (some .int) := by decide +kernel
theorem po_103 : px_own 103 = 0 := by decide +kernel
theorem pt_103 : px_ret 103 = (some .int) := by decide +kernel
theorem po_104 : px_own 104 = 0 := by decide +kernel
theorem pt_104 : px_ret 104 = (some .int) := by decide +kernel
theorem po_105 : px_own 105 = 0 := by decide +kernel
theorem pt_105 : px_ret 105 = (some .int) := by decide +kernel
theorem po_106 : px_own 106 = 0 := by decide +kernel
theorem pt_106 : px_ret 106 = (some .int) := by decide +kernel
theorem po_107 : px_own 107 = 7 := by decide +kernel
theorem pt_107 : px_ret 107 = none := by decide +kernel
theorem po_108 : px_own 108 = 4 := by decide +kernel
theorem pt_108 : px_ret 108 = (some .int) := by decide +kernel
theorem po_109 : px_own 109 = 8 := by decide +kernel
theorem pt_109 : px_ret 109 = (some .int) := by decide +kernel
theorem po_110 : px_own 110 = 8 := by decide +kernel
theorem pt_110 : px_ret 110 = (some .int) := by decide +kernel
theorem po_111 : px_own 111 = 8 := by decide +kernel
theorem pt_111 : px_ret 111 = (some .int) := by decide +kernel
theorem po_112 : px_own 112 = 8 := by decide +kernel
theorem pt_112 : px_ret 112 = (some .int) := by decide +kernel
theorem po_113 : px_own 113 = 8 := by decide +kernel
theorem pt_113 : px_ret 113 = (some .int) := by decide +kernel
theorem po_114 : px_own 114 = 8 := by decide +kernel
theorem pt_114 : px_ret 114 = (some .int) := by decide +kernel
theorem po_115 : px_own 115 = 8 := by decide +kernel
theorem pt_115 : px_ret 115 = (some .int) := by decide +kernel
theorem po_116 : px_own 116 = 8 := by decide +kernel
theorem pt_116 : px_ret 116 = (some .int) := by decide +kernel
theorem po_117 : px_own 117 = 8 := by decide +kernel
theorem pt_117 : px_ret 117 = (some .int) := by decide +kernel
theorem po_118 : px_own 118 = 8 := by decide +kernel
theorem pt_118 : px_ret 118 = (some .int) := by decide +kernel
theorem po_119 : px_own 119 = 7 := by decide +kernel
theorem pt_119 : px_ret 119 = (some .int) := by decide +kernel
theorem po_120 : px_own 120 = 8 := by decide +kernel
theorem pt_120 : px_ret 120 = (some .int) := by decide +kernel
theorem po_121 : px_own 121 = 2 := by decide +kernel
theorem pt_121 : px_ret 121 = (some .int) := by decide +kernel
theorem po_122 : px_own 122 = 2 := by decide +kernel
theorem pt_122 : px_ret 122 = (some .int) := by decide +kernel
theorem po_123 : px_own 123 = 2 := by decide +kernel
theorem pt_123 : px_ret 123 = (some .int) := by decide +kernel
theorem po_124 : px_own 124 = 2 := by decide +kernel
theorem pt_124 : px_ret 124 = (some .int) := by decide +kernel
theorem po_125 : px_own 125 = 8 := by decide +kernel
theorem pt_125 : px_ret 125 = (some .int) := by decide +kernel
theorem po_126 : px_own 126 = 8 := by decide +kernel
theorem pt_126 : px_ret 126 = (some .int) := by decide +kernel
theorem po_127 : px_own 127 = 8 := by decide +kernel
theorem pt_127 : px_ret 127 = (some .int) := by decide +kernel
theorem po_128 : px_own 128 = 2 := by decide +kernel
theorem pt_128 : px_ret 128 = (some .int) := by decide +kernel
theorem po_129 : px_own 129 = 2 := by decide +kernel
theorem pt_129 : px_ret 129 = none := by decide +kernel
theorem po_130 : px_own 130 = 2 := by decide +kernel
theorem pt_130 : px_ret 130 = (some .boolean) := by decide +kernel
theorem po_131 : px_own 131 = 2 := by decide +kernel
theorem pt_131 : px_ret 131 = (some .int) := by decide +kernel
theorem po_132 : px_own 132 = 8 := by decide +kernel
theorem pt_132 : px_ret 132 = (some .int) := by decide +kernel
theorem po_133 : px_own 133 = 2 := by decide +kernel
theorem pt_133 : px_ret 133 = (some .int) := by decide +kernel
theorem po_134 : px_own 134 = 2 := by decide +kernel
theorem pt_134 : px_ret 134 = (some .int) := by decide +kernel
theorem po_135 : px_own 135 = 8 := by decide +kernel
theorem pt_135 : px_ret 135 = (some .int) := by decide +kernel
theorem po_136 : px_own 136 = 2 := by decide +kernel
theorem pt_136 : px_ret 136 = (some .int) := by decide +kernel
theorem po_137 : px_own 137 = 23 := by decide +kernel
theorem pt_137 : px_ret 137 = (some .int) := by decide +kernel
theorem po_138 : px_own 138 = 2 := by decide +kernel
theorem pt_138 : px_ret 138 = (some .int) := by decide +kernel
theorem po_139 : px_own 139 = 2 := by decide +kernel
theorem pt_139 : px_ret 139 = (some .int) := by decide +kernel
theorem po_140 : px_own 140 = 2 := by decide +kernel
theorem pt_140 : px_ret 140 = (some .int) := by decide +kernel
theorem po_141 : px_own 141 = 8 := by decide +kernel
theorem pt_141 : px_ret 141 = (some .int) := by decide +kernel
theorem po_142 : px_own 142 = 2 := by decide +kernel
theorem pt_142 : px_ret 142 = (some .int) := by decide +kernel
theorem po_143 : px_own 143 = 8 := by decide +kernel
theorem pt_143 : px_ret 143 = (some .int) := by decide +kernel
theorem po_144 : px_own 144 = 2 := by decide +kernel
theorem pt_144 : px_ret 144 = (some .int) := by decide +kernel
theorem po_145 : px_own 145 = 2 := by decide +kernel
theorem pt_145 : px_ret 145 = none := by decide +kernel
theorem po_146 : px_own 146 = 2 := by decide +kernel
theorem pt_146 : px_ret 146 = none := by decide +kernel
theorem po_147 : px_own 147 = 2 := by decide +kernel
theorem pt_147 : px_ret 147 = (some .boolean) := by decide +kernel
theorem po_148 : px_own 148 = 2 := by decide +kernel
theorem pt_148 : px_ret 148 = (some .boolean) := by decide +kernel
theorem po_149 : px_own 149 = 2 := by decide +kernel
theorem pt_149 : px_ret 149 = (some .int) := by decide +kernel
theorem po_150 : px_own 150 = 8 := by decide +kernel
theorem pt_150 : px_ret 150 = (some .int) := by decide +kernel
theorem po_151 : px_own 151 = 2 := by decide +kernel
theorem pt_151 : px_ret 151 = (some .int) := by decide +kernel
theorem po_152 : px_own 152 = 0 := by decide +kernel
theorem pt_152 : px_ret 152 = none := by decide +kernel
theorem po_153 : px_own 153 = 8 := by decide +kernel
theorem pt_153 : px_ret 153 = (some .int) := by decide +kernel
theorem po_154 : px_own 154 = 2 := by decide +kernel
theorem pt_154 : px_ret 154 = (some .int) := by decide +kernel
theorem po_155 : px_own 155 = 2 := by decide +kernel
theorem pt_155 : px_ret 155 = (some .int) := by decide +kernel
theorem po_156 : px_own 156 = 2 := by decide +kernel
theorem pt_156 : px_ret 156 = (some .boolean) := by decide +kernel
theorem po_157 : px_own 157 = 2 := by decide +kernel
theorem pt_157 : px_ret 157 = (some .int) := by decide +kernel
theorem po_158 : px_own 158 = 2 := by decide +kernel
theorem pt_158 : px_ret 158 = (some .int) := by decide +kernel
theorem po_159 : px_own 159 = 8 := by decide +kernel
theorem pt_159 : px_ret 159 = (some .int) := by decide +kernel
theorem po_160 : px_own 160 = 2 := by decide +kernel
theorem pt_160 : px_ret 160 = (some .int) := by decide +kernel
theorem po_161 : px_own 161 = 8 := by decide +kernel
theorem pt_161 : px_ret 161 = (some .int) := by decide +kernel
theorem po_162 : px_own 162 = 2 := by decide +kernel
theorem pt_162 : px_ret 162 = (some .int) := by decide +kernel
theorem po_163 : px_own 163 = 8 := by decide +kernel
theorem pt_163 : px_ret 163 = (some .long) := by decide +kernel
theorem po_164 : px_own 164 = 2 := by decide +kernel
theorem pt_164 : px_ret 164 = (some .long) := by decide +kernel
theorem po_165 : px_own 165 = 24 := by decide +kernel
theorem pt_165 : px_ret 165 = none := by decide +kernel
theorem po_166 : px_own 166 = 8 := by decide +kernel
theorem pt_166 : px_ret 166 = (some .int) := by decide +kernel
theorem po_167 : px_own 167 = 0 := by decide +kernel
theorem pt_167 : px_ret 167 = (some .int) := by decide +kernel
theorem po_168 : px_own 168 = 0 := by decide +kernel
theorem pt_168 : px_ret 168 = (some .int) := by decide +kernel
theorem po_169 : px_own 169 = 8 := by decide +kernel
theorem pt_169 : px_ret 169 = (some .int) := by decide +kernel
theorem po_170 : px_own 170 = 8 := by decide +kernel
theorem pt_170 : px_ret 170 = (some .int) := by decide +kernel
theorem po_171 : px_own 171 = 8 := by decide +kernel
theorem pt_171 : px_ret 171 = (some .int) := by decide +kernel
theorem po_172 : px_own 172 = 8 := by decide +kernel
theorem pt_172 : px_ret 172 = (some .int) := by decide +kernel
theorem po_173 : px_own 173 = 8 := by decide +kernel
theorem pt_173 : px_ret 173 = (some .int) := by decide +kernel
theorem po_174 : px_own 174 = 9 := by decide +kernel
theorem pt_174 : px_ret 174 = none := by decide +kernel
theorem po_175 : px_own 175 = 9 := by decide +kernel
theorem pt_175 : px_ret 175 = (some .int) := by decide +kernel
theorem po_176 : px_own 176 = 9 := by decide +kernel
theorem pt_176 : px_ret 176 = (some .int) := by decide +kernel
theorem po_177 : px_own 177 = 9 := by decide +kernel
theorem pt_177 : px_ret 177 = none := by decide +kernel
theorem po_178 : px_own 178 = 9 := by decide +kernel
theorem pt_178 : px_ret 178 = (some .int) := by decide +kernel
theorem po_179 : px_own 179 = 9 := by decide +kernel
theorem pt_179 : px_ret 179 = (some .boolean) := by decide +kernel
theorem po_180 : px_own 180 = 9 := by decide +kernel
theorem pt_180 : px_ret 180 = (some .int) := by decide +kernel
theorem po_181 : px_own 181 = 9 := by decide +kernel
theorem pt_181 : px_ret 181 = (some .int) := by decide +kernel
theorem po_182 : px_own 182 = 9 := by decide +kernel
theorem pt_182 : px_ret 182 = (some .int) := by decide +kernel
theorem po_183 : px_own 183 = 9 := by decide +kernel
theorem pt_183 : px_ret 183 = (some .boolean) := by decide +kernel
theorem po_184 : px_own 184 = 9 := by decide +kernel
theorem pt_184 : px_ret 184 = (some .int) := by decide +kernel
theorem po_185 : px_own 185 = 9 := by decide +kernel
theorem pt_185 : px_ret 185 = (some .boolean) := by decide +kernel
theorem po_186 : px_own 186 = 9 := by decide +kernel
theorem pt_186 : px_ret 186 = (some .boolean) := by decide +kernel
theorem po_187 : px_own 187 = 9 := by decide +kernel
theorem pt_187 : px_ret 187 = none := by decide +kernel
theorem po_188 : px_own 188 = 9 := by decide +kernel
theorem pt_188 : px_ret 188 = none := by decide +kernel
theorem po_189 : px_own 189 = 9 := by decide +kernel
theorem pt_189 : px_ret 189 = (some .long) := by decide +kernel
theorem po_190 : px_own 190 = 9 := by decide +kernel
theorem pt_190 : px_ret 190 = (some .boolean) := by decide +kernel
theorem po_191 : px_own 191 = 9 := by decide +kernel
theorem pt_191 : px_ret 191 = none := by decide +kernel
theorem po_192 : px_own 192 = 9 := by decide +kernel
theorem pt_192 : px_ret 192 = (some .boolean) := by decide +kernel
theorem po_193 : px_own 193 = 9 := by decide +kernel
theorem pt_193 : px_ret 193 = (some .long) := by decide +kernel
theorem po_194 : px_own 194 = 9 := by decide +kernel
theorem pt_194 : px_ret 194 = (some .int) := by decide +kernel
theorem po_195 : px_own 195 = 9 := by decide +kernel
theorem pt_195 : px_ret 195 = none := by decide +kernel
theorem po_196 : px_own 196 = 9 := by decide +kernel
theorem pt_196 : px_ret 196 = (some .int) := by decide +kernel
theorem po_197 : px_own 197 = 9 := by decide +kernel
theorem pt_197 : px_ret 197 = (some .int) := by decide +kernel
theorem po_198 : px_own 198 = 9 := by decide +kernel
theorem pt_198 : px_ret 198 = (some .int) := by decide +kernel
theorem po_199 : px_own 199 = 9 := by decide +kernel
theorem pt_199 : px_ret 199 = (some .boolean) := by decide +kernel
theorem po_200 : px_own 200 = 9 := by decide +kernel
theorem pt_200 : px_ret 200 = (some .int) := by decide +kernel
theorem po_201 : px_own 201 = 9 := by decide +kernel
theorem pt_201 : px_ret 201 = (some .boolean) := by decide +kernel
theorem po_202 : px_own 202 = 9 := by decide +kernel
theorem pt_202 : px_ret 202 = (some .int) := by decide +kernel
theorem po_203 : px_own 203 = 9 := by decide +kernel
theorem pt_203 : px_ret 203 = (some .int) := by decide +kernel
theorem po_204 : px_own 204 = 9 := by decide +kernel
theorem pt_204 : px_ret 204 = (some .boolean) := by decide +kernel
theorem po_205 : px_own 205 = 9 := by decide +kernel
theorem pt_205 : px_ret 205 = (some .int) := by decide +kernel
theorem po_206 : px_own 206 = 9 := by decide +kernel
theorem pt_206 : px_ret 206 = (some .int) := by decide +kernel
theorem po_207 : px_own 207 = 9 := by decide +kernel
theorem pt_207 : px_ret 207 = (some .int) := by decide +kernel
theorem po_208 : px_own 208 = 9 := by decide +kernel
theorem pt_208 : px_ret 208 = (some .int) := by decide +kernel
theorem po_209 : px_own 209 = 9 := by decide +kernel
theorem pt_209 : px_ret 209 = (some .int) := by decide +kernel
theorem po_210 : px_own 210 = 9 := by decide +kernel
theorem pt_210 : px_ret 210 = (some .int) := by decide +kernel
theorem po_211 : px_own 211 = 9 := by decide +kernel
theorem pt_211 : px_ret 211 = (some .int) := by decide +kernel
theorem po_212 : px_own 212 = 9 := by decide +kernel
theorem pt_212 : px_ret 212 = (some .int) := by decide +kernel
theorem po_213 : px_own 213 = 9 := by decide +kernel
theorem pt_213 : px_ret 213 = (some .int) := by decide +kernel
theorem po_214 : px_own 214 = 9 := by decide +kernel
theorem pt_214 : px_ret 214 = (some .int) := by decide +kernel
theorem po_215 : px_own 215 = 9 := by decide +kernel
theorem pt_215 : px_ret 215 = (some .int) := by decide +kernel
theorem po_216 : px_own 216 = 9 := by decide +kernel
theorem pt_216 : px_ret 216 = none := by decide +kernel
theorem po_217 : px_own 217 = 9 := by decide +kernel
theorem pt_217 : px_ret 217 = (some .int) := by decide +kernel
theorem po_218 : px_own 218 = 9 := by decide +kernel
theorem pt_218 : px_ret 218 = (some .int) := by decide +kernel
theorem po_219 : px_own 219 = 9 := by decide +kernel
theorem pt_219 : px_ret 219 = (some .int) := by decide +kernel
theorem po_220 : px_own 220 = 9 := by decide +kernel
theorem pt_220 : px_ret 220 = none := by decide +kernel
theorem po_221 : px_own 221 = 9 := by decide +kernel
theorem pt_221 : px_ret 221 = none := by decide +kernel
theorem po_222 : px_own 222 = 9 := by decide +kernel
theorem pt_222 : px_ret 222 = none := by decide +kernel
theorem po_223 : px_own 223 = 9 := by decide +kernel
theorem pt_223 : px_ret 223 = (some .boolean) := by decide +kernel
theorem po_224 : px_own 224 = 9 := by decide +kernel
theorem pt_224 : px_ret 224 = (some .boolean) := by decide +kernel
theorem po_225 : px_own 225 = 9 := by decide +kernel
theorem pt_225 : px_ret 225 = none := by decide +kernel
theorem po_226 : px_own 226 = 9 := by decide +kernel
theorem pt_226 : px_ret 226 = (some .boolean) := by decide +kernel
theorem po_227 : px_own 227 = 9 := by decide +kernel
theorem pt_227 : px_ret 227 = none := by decide +kernel
theorem po_228 : px_own 228 = 9 := by decide +kernel
theorem pt_228 : px_ret 228 = none := by decide +kernel
theorem po_229 : px_own 229 = 9 := by decide +kernel
theorem pt_229 : px_ret 229 = (some .int) := by decide +kernel
theorem po_230 : px_own 230 = 9 := by decide +kernel
theorem pt_230 : px_ret 230 = none := by decide +kernel
theorem po_231 : px_own 231 = 9 := by decide +kernel
theorem pt_231 : px_ret 231 = (some .boolean) := by decide +kernel
theorem po_232 : px_own 232 = 9 := by decide +kernel
theorem pt_232 : px_ret 232 = none := by decide +kernel
theorem po_233 : px_own 233 = 9 := by decide +kernel
theorem pt_233 : px_ret 233 = (some .int) := by decide +kernel
theorem po_234 : px_own 234 = 9 := by decide +kernel
theorem pt_234 : px_ret 234 = (some .int) := by decide +kernel
theorem po_235 : px_own 235 = 9 := by decide +kernel
theorem pt_235 : px_ret 235 = (some .int) := by decide +kernel
theorem po_236 : px_own 236 = 9 := by decide +kernel
theorem pt_236 : px_ret 236 = none := by decide +kernel
theorem po_237 : px_own 237 = 9 := by decide +kernel
theorem pt_237 : px_ret 237 = none := by decide +kernel
theorem po_238 : px_own 238 = 9 := by decide +kernel
theorem pt_238 : px_ret 238 = (some .int) := by decide +kernel
theorem po_239 : px_own 239 = 9 := by decide +kernel
theorem pt_239 : px_ret 239 = (some .int) := by decide +kernel
theorem po_240 : px_own 240 = 9 := by decide +kernel
theorem pt_240 : px_ret 240 = (some .int) := by decide +kernel
theorem po_241 : px_own 241 = 9 := by decide +kernel
theorem pt_241 : px_ret 241 = none := by decide +kernel
theorem po_242 : px_own 242 = 9 := by decide +kernel
theorem pt_242 : px_ret 242 = (some .int) := by decide +kernel
theorem po_243 : px_own 243 = 9 := by decide +kernel
theorem pt_243 : px_ret 243 = (some .boolean) := by decide +kernel
theorem po_244 : px_own 244 = 9 := by decide +kernel
theorem pt_244 : px_ret 244 = (some .int) := by decide +kernel
theorem po_245 : px_own 245 = 9 := by decide +kernel
theorem pt_245 : px_ret 245 = none := by decide +kernel
theorem po_246 : px_own 246 = 9 := by decide +kernel
theorem pt_246 : px_ret 246 = (some .int) := by decide +kernel
theorem po_247 : px_own 247 = 9 := by decide +kernel
theorem pt_247 : px_ret 247 = (some .boolean) := by decide +kernel
theorem po_248 : px_own 248 = 9 := by decide +kernel
theorem pt_248 : px_ret 248 = (some .int) := by decide +kernel
theorem po_249 : px_own 249 = 9 := by decide +kernel
theorem pt_249 : px_ret 249 = (some .int) := by decide +kernel
theorem po_250 : px_own 250 = 9 := by decide +kernel
theorem pt_250 : px_ret 250 = none := by decide +kernel
theorem po_251 : px_own 251 = 9 := by decide +kernel
theorem pt_251 : px_ret 251 = none := by decide +kernel
theorem po_252 : px_own 252 = 9 := by decide +kernel
theorem pt_252 : px_ret 252 = (some .int) := by decide +kernel
theorem po_253 : px_own 253 = 9 := by decide +kernel
theorem pt_253 : px_ret 253 = (some .int) := by decide +kernel
theorem po_254 : px_own 254 = 9 := by decide +kernel
theorem pt_254 : px_ret 254 = (some .int) := by decide +kernel
theorem po_255 : px_own 255 = 9 := by decide +kernel
theorem pt_255 : px_ret 255 = (some .int) := by decide +kernel
theorem po_256 : px_own 256 = 9 := by decide +kernel
theorem pt_256 : px_ret 256 = (some .int) := by decide +kernel
theorem po_257 : px_own 257 = 9 := by decide +kernel
theorem pt_257 : px_ret 257 = (some .int) := by decide +kernel
theorem po_258 : px_own 258 = 9 := by decide +kernel
theorem pt_258 : px_ret 258 = (some .int) := by decide +kernel
theorem po_259 : px_own 259 = 9 := by decide +kernel
theorem pt_259 : px_ret 259 = (some .int) := by decide +kernel
theorem po_260 : px_own 260 = 9 := by decide +kernel
theorem pt_260 : px_ret 260 = (some .int) := by decide +kernel
theorem po_261 : px_own 261 = 9 := by decide +kernel
theorem pt_261 : px_ret 261 = none := by decide +kernel
theorem po_262 : px_own 262 = 9 := by decide +kernel
theorem pt_262 : px_ret 262 = (some .int) := by decide +kernel
theorem po_263 : px_own 263 = 9 := by decide +kernel
theorem pt_263 : px_ret 263 = none := by decide +kernel
theorem po_264 : px_own 264 = 9 := by decide +kernel
theorem pt_264 : px_ret 264 = (some .int) := by decide +kernel
theorem po_265 : px_own 265 = 9 := by decide +kernel
theorem pt_265 : px_ret 265 = (some .int) := by decide +kernel
theorem po_266 : px_own 266 = 9 := by decide +kernel
theorem pt_266 : px_ret 266 = (some .boolean) := by decide +kernel
theorem po_267 : px_own 267 = 9 := by decide +kernel
theorem pt_267 : px_ret 267 = (some .int) := by decide +kernel
theorem po_268 : px_own 268 = 9 := by decide +kernel
theorem pt_268 : px_ret 268 = (some .int) := by decide +kernel
theorem po_269 : px_own 269 = 9 := by decide +kernel
theorem pt_269 : px_ret 269 = (some .int) := by decide +kernel
theorem po_270 : px_own 270 = 9 := by decide +kernel
theorem pt_270 : px_ret 270 = none := by decide +kernel
theorem po_271 : px_own 271 = 9 := by decide +kernel
theorem pt_271 : px_ret 271 = (some .boolean) := by decide +kernel
theorem po_272 : px_own 272 = 9 := by decide +kernel
theorem pt_272 : px_ret 272 = (some .int) := by decide +kernel
theorem po_273 : px_own 273 = 9 := by decide +kernel
theorem pt_273 : px_ret 273 = (some .boolean) := by decide +kernel
theorem po_274 : px_own 274 = 9 := by decide +kernel
theorem pt_274 : px_ret 274 = (some .int) := by decide +kernel
theorem po_275 : px_own 275 = 9 := by decide +kernel
theorem pt_275 : px_ret 275 = (some .int) := by decide +kernel
theorem po_276 : px_own 276 = 9 := by decide +kernel
theorem pt_276 : px_ret 276 = (some .int) := by decide +kernel
theorem po_277 : px_own 277 = 9 := by decide +kernel
theorem pt_277 : px_ret 277 = (some .int) := by decide +kernel
theorem po_278 : px_own 278 = 9 := by decide +kernel
theorem pt_278 : px_ret 278 = (some .boolean) := by decide +kernel
theorem po_279 : px_own 279 = 9 := by decide +kernel
theorem pt_279 : px_ret 279 = (some .int) := by decide +kernel
theorem po_280 : px_own 280 = 9 := by decide +kernel
theorem pt_280 : px_ret 280 = (some .int) := by decide +kernel
theorem po_281 : px_own 281 = 9 := by decide +kernel
theorem pt_281 : px_ret 281 = (some .int) := by decide +kernel
theorem po_282 : px_own 282 = 9 := by decide +kernel
theorem pt_282 : px_ret 282 = (some .int) := by decide +kernel
theorem po_283 : px_own 283 = 9 := by decide +kernel
theorem pt_283 : px_ret 283 = (some .int) := by decide +kernel
theorem po_284 : px_own 284 = 9 := by decide +kernel
theorem pt_284 : px_ret 284 = (some .int) := by decide +kernel
theorem po_285 : px_own 285 = 9 := by decide +kernel
theorem pt_285 : px_ret 285 = none := by decide +kernel
theorem po_286 : px_own 286 = 9 := by decide +kernel
theorem pt_286 : px_ret 286 = (some .int) := by decide +kernel
theorem po_287 : px_own 287 = 9 := by decide +kernel
theorem pt_287 : px_ret 287 = (some .int) := by decide +kernel
theorem po_288 : px_own 288 = 9 := by decide +kernel
theorem pt_288 : px_ret 288 = (some .int) := by decide +kernel
theorem po_289 : px_own 289 = 9 := by decide +kernel
theorem pt_289 : px_ret 289 = (some .int) := by decide +kernel
theorem po_290 : px_own 290 = 9 := by decide +kernel
theorem pt_290 : px_ret 290 = (some .int) := by decide +kernel
theorem po_291 : px_own 291 = 9 := by decide +kernel
theorem pt_291 : px_ret 291 = (some .long) := by decide +kernel
theorem po_292 : px_own 292 = 9 := by decide +kernel
theorem pt_292 : px_ret 292 = (some .int) := by decide +kernel
theorem po_293 : px_own 293 = 9 := by decide +kernel
theorem pt_293 : px_ret 293 = none := by decide +kernel
theorem po_294 : px_own 294 = 9 := by decide +kernel
theorem pt_294 : px_ret 294 = none := by decide +kernel
theorem po_295 : px_own 295 = 9 := by decide +kernel
theorem pt_295 : px_ret 295 = (some .int) := by decide +kernel
theorem po_296 : px_own 296 = 9 := by decide +kernel
theorem pt_296 : px_ret 296 = (some .int) := by decide +kernel
theorem po_297 : px_own 297 = 9 := by decide +kernel
theorem pt_297 : px_ret 297 = (some .int) := by decide +kernel
theorem po_298 : px_own 298 = 9 := by decide +kernel
theorem pt_298 : px_ret 298 = none := by decide +kernel
theorem po_299 : px_own 299 = 9 := by decide +kernel
theorem pt_299 : px_ret 299 = (some .int) := by decide +kernel
theorem po_300 : px_own 300 = 9 := by decide +kernel
theorem pt_300 : px_ret 300 = (some .int) := by decide +kernel
theorem po_301 : px_own 301 = 9 := by decide +kernel
theorem pt_301 : px_ret 301 = (some .int) := by decide +kernel
theorem po_302 : px_own 302 = 9 := by decide +kernel
theorem pt_302 : px_ret 302 = (some .int) := by decide +kernel
theorem po_303 : px_own 303 = 9 := by decide +kernel
theorem pt_303 : px_ret 303 = (some .int) := by decide +kernel
theorem po_304 : px_own 304 = 9 := by decide +kernel
theorem pt_304 : px_ret 304 = (some .int) := by decide +kernel
theorem pg_5_9 : px_fr 5 9 = some (5, 0) := by decide +kernel
theorem pg_1_9 : px_fr 1 9 = some (1, 0) := by decide +kernel
theorem pg_4_119 : px_fr 4 119 = some (1, 0) := by decide +kernel
theorem pg_0_133 : px_fr 0 133 = some (1, 0) := by decide +kernel
theorem pg_8_363 : px_fr 8 363 = some (1, 0) := by decide +kernel
theorem pg_1_15 : px_fr 1 15 = some (1, 1) := by decide +kernel
theorem pg_8_161 : px_fr 8 161 = some (1, 1) := by decide +kernel
theorem pg_4_132 : px_fr 4 132 = some (1, 1) := by decide +kernel
theorem pg_0_127 : px_fr 0 127 = some (1, 1) := by decide +kernel
theorem pg_2_216 : px_fr 2 216 = some (1, 1) := by decide +kernel
theorem pg_1_18 : px_fr 1 18 = some (1, 2) := by decide +kernel
theorem pg_8_158 : px_fr 8 158 = some (1, 2) := by decide +kernel
theorem pg_0_80 : px_fr 0 80 = some (1, 2) := by decide +kernel
theorem pg_2_213 : px_fr 2 213 = some (1, 2) := by decide +kernel
theorem pg_1_21 : px_fr 1 21 = some (1, 3) := by decide +kernel
theorem pg_4_113 : px_fr 4 113 = some (1, 3) := by decide +kernel
theorem pg_0_86 : px_fr 0 86 = some (1, 3) := by decide +kernel
theorem pg_2_194 : px_fr 2 194 = some (1, 3) := by decide +kernel
theorem pg_8_325 : px_fr 8 325 = some (1, 3) := by decide +kernel
theorem pg_1_25 : px_fr 1 25 = some (1, 4) := by decide +kernel
theorem pg_4_110 : px_fr 4 110 = some (1, 4) := by decide +kernel
theorem pg_0_83 : px_fr 0 83 = some (1, 4) := by decide +kernel
theorem pg_8_183 : px_fr 8 183 = some (1, 4) := by decide +kernel
theorem pg_2_222 : px_fr 2 222 = some (1, 4) := by decide +kernel
theorem pg_0_12 : px_fr 0 12 = some (0, 0) := by decide +kernel
theorem pg_4_50 : px_fr 4 50 = some (0, 0) := by decide +kernel
theorem pg_8_131 : px_fr 8 131 = some (0, 0) := by decide +kernel
theorem pg_2_88 : px_fr 2 88 = some (0, 0) := by decide +kernel
theorem pg_0_18 : px_fr 0 18 = some (0, 1) := by decide +kernel
theorem pg_8_106 : px_fr 8 106 = some (0, 1) := by decide +kernel
theorem pg_2_106 : px_fr 2 106 = some (0, 1) := by decide +kernel
theorem pg_0_22 : px_fr 0 22 = some (0, 2) := by decide +kernel
theorem pg_8_109 : px_fr 8 109 = some (0, 2) := by decide +kernel
theorem pg_0_25 : px_fr 0 25 = some (0, 3) := by decide +kernel
theorem pg_2_121 : px_fr 2 121 = some (0, 3) := by decide +kernel
theorem pg_8_287 : px_fr 8 287 = some (0, 3) := by decide +kernel
theorem pg_0_30 : px_fr 0 30 = some (0, 4) := by decide +kernel
theorem pg_8_209 : px_fr 8 209 = some (0, 4) := by decide +kernel
theorem pg_0_34 : px_fr 0 34 = some (0, 5) := by decide +kernel
theorem pg_8_174 : px_fr 8 174 = some (0, 5) := by decide +kernel
theorem pg_0_37 : px_fr 0 37 = some (0, 6) := by decide +kernel
theorem pg_8_103 : px_fr 8 103 = some (0, 6) := by decide +kernel
theorem pg_2_77 : px_fr 2 77 = some (0, 6) := by decide +kernel
theorem pg_0_41 : px_fr 0 41 = some (0, 7) := by decide +kernel
theorem pg_8_155 : px_fr 8 155 = some (0, 7) := by decide +kernel
theorem pg_2_145 : px_fr 2 145 = some (0, 7) := by decide +kernel
theorem pg_0_44 : px_fr 0 44 = some (0, 8) := by decide +kernel
theorem pg_2_118 : px_fr 2 118 = some (0, 8) := by decide +kernel
theorem pg_8_284 : px_fr 8 284 = some (0, 8) := by decide +kernel
theorem pg_0_47 : px_fr 0 47 = some (0, 9) := by decide +kernel
theorem pg_8_202 : px_fr 8 202 = some (0, 9) := by decide +kernel
theorem pg_0_50 : px_fr 0 50 = some (0, 10) := by decide +kernel
theorem pg_8_245 : px_fr 8 245 = some (0, 10) := by decide +kernel
theorem pg_2_225 : px_fr 2 225 = some (0, 10) := by decide +kernel
theorem pg_0_53 : px_fr 0 53 = some (0, 11) := by decide +kernel
theorem pg_8_186 : px_fr 8 186 = some (0, 11) := by decide +kernel
theorem pg_2_236 : px_fr 2 236 = some (0, 11) := by decide +kernel
theorem pg_0_56 : px_fr 0 56 = some (0, 12) := by decide +kernel
theorem pg_8_189 : px_fr 8 189 = some (0, 12) := by decide +kernel
theorem pg_0_59 : px_fr 0 59 = some (0, 13) := by decide +kernel
theorem pg_0_62 : px_fr 0 62 = some (0, 14) := by decide +kernel
theorem pg_7_13 : px_fr 7 13 = some (7, 0) := by decide +kernel
theorem pg_7_17 : px_fr 7 17 = some (7, 1) := by decide +kernel
theorem pg_7_21 : px_fr 7 21 = some (7, 2) := by decide +kernel
theorem pg_7_25 : px_fr 7 25 = some (7, 3) := by decide +kernel
theorem pg_8_357 : px_fr 8 357 = some (7, 3) := by decide +kernel
theorem pg_4_9 : px_fr 4 9 = some (4, 0) := by decide +kernel
theorem pg_8_223 : px_fr 8 223 = some (4, 0) := by decide +kernel
theorem pg_4_39 : px_fr 4 39 = some (4, 1) := by decide +kernel
theorem pg_4_43 : px_fr 4 43 = some (4, 2) := by decide +kernel
theorem pg_4_46 : px_fr 4 46 = some (4, 3) := by decide +kernel
theorem pg_4_18 : px_fr 4 18 = some (4, 4) := by decide +kernel
theorem pg_4_25 : px_fr 4 25 = some (4, 5) := by decide +kernel
theorem pg_4_29 : px_fr 4 29 = some (4, 6) := by decide +kernel
theorem pg_4_33 : px_fr 4 33 = some (4, 7) := by decide +kernel
theorem pg_4_36 : px_fr 4 36 = some (4, 8) := by decide +kernel
theorem pg_2_11 : px_fr 2 11 = some (2, 0) := by decide +kernel
theorem pg_8_293 : px_fr 8 293 = some (2, 0) := by decide +kernel
theorem pg_2_15 : px_fr 2 15 = some (2, 1) := by decide +kernel
theorem pg_8_299 : px_fr 8 299 = some (2, 1) := by decide +kernel
theorem pg_2_19 : px_fr 2 19 = some (2, 2) := by decide +kernel
theorem pg_8_322 : px_fr 8 322 = some (2, 2) := by decide +kernel
theorem pg_2_65 : px_fr 2 65 = some (2, 3) := by decide +kernel
theorem pg_2_74 : px_fr 2 74 = some (2, 4) := by decide +kernel
theorem pg_2_22 : px_fr 2 22 = some (2, 5) := by decide +kernel
theorem pg_2_25 : px_fr 2 25 = some (2, 6) := by decide +kernel
theorem pg_2_28 : px_fr 2 28 = some (2, 7) := by decide +kernel
theorem pg_2_31 : px_fr 2 31 = some (2, 8) := by decide +kernel
theorem pg_2_34 : px_fr 2 34 = some (2, 9) := by decide +kernel
theorem pg_2_37 : px_fr 2 37 = some (2, 10) := by decide +kernel
theorem pg_2_40 : px_fr 2 40 = some (2, 11) := by decide +kernel
theorem pg_2_43 : px_fr 2 43 = some (2, 12) := by decide +kernel
theorem pg_2_46 : px_fr 2 46 = some (2, 13) := by decide +kernel
theorem pg_2_49 : px_fr 2 49 = some (2, 14) := by decide +kernel
theorem pg_2_52 : px_fr 2 52 = some (2, 15) := by decide +kernel
theorem pg_2_56 : px_fr 2 56 = some (2, 16) := by decide +kernel
theorem pg_2_59 : px_fr 2 59 = some (2, 17) := by decide +kernel
theorem pg_2_62 : px_fr 2 62 = some (2, 18) := by decide +kernel
theorem pg_6_26 : px_fr 6 26 = some (6, 0) := by decide +kernel
theorem pg_5_20 : px_fr 5 20 = some (6, 0) := by decide +kernel
theorem pg_6_30 : px_fr 6 30 = some (6, 1) := by decide +kernel
theorem pg_5_23 : px_fr 5 23 = some (6, 1) := by decide +kernel
theorem pg_6_33 : px_fr 6 33 = some (6, 2) := by decide +kernel
theorem pg_5_17 : px_fr 5 17 = some (6, 2) := by decide +kernel
theorem pg_6_7 : px_fr 6 7 = some (6, 3) := by decide +kernel
theorem pg_3_108 : px_fr 3 108 = some (6, 3) := by decide +kernel
theorem pg_6_13 : px_fr 6 13 = some (6, 4) := by decide +kernel
theorem pg_3_68 : px_fr 3 68 = some (6, 4) := by decide +kernel
theorem pg_8_229 : px_fr 8 229 = some (6, 4) := by decide +kernel
theorem pg_0_140 : px_fr 0 140 = some (6, 4) := by decide +kernel
theorem pg_6_16 : px_fr 6 16 = some (6, 5) := by decide +kernel
theorem pg_4_71 : px_fr 4 71 = some (6, 5) := by decide +kernel
theorem pg_3_174 : px_fr 3 174 = some (6, 5) := by decide +kernel
theorem pg_3_14 : px_fr 3 14 = some (3, 0) := by decide +kernel
theorem pg_8_213 : px_fr 8 213 = some (3, 0) := by decide +kernel
theorem pg_3_20 : px_fr 3 20 = some (3, 1) := by decide +kernel
theorem pg_8_239 : px_fr 8 239 = some (3, 1) := by decide +kernel
theorem pg_3_46 : px_fr 3 46 = some (3, 2) := by decide +kernel
theorem pg_3_24 : px_fr 3 24 = some (3, 3) := by decide +kernel
theorem pg_3_27 : px_fr 3 27 = some (3, 4) := by decide +kernel
theorem pg_3_31 : px_fr 3 31 = some (3, 5) := by decide +kernel
theorem pg_3_34 : px_fr 3 34 = some (3, 6) := by decide +kernel
theorem pg_3_37 : px_fr 3 37 = some (3, 7) := by decide +kernel
theorem pg_3_40 : px_fr 3 40 = some (3, 8) := by decide +kernel
theorem pg_3_43 : px_fr 3 43 = some (3, 9) := by decide +kernel
theorem pg_8_12 : px_fr 8 12 = some (8, 0) := by decide +kernel
theorem pg_8_21 : px_fr 8 21 = some (8, 1) := by decide +kernel
theorem pg_8_25 : px_fr 8 25 = some (8, 2) := by decide +kernel
theorem pg_8_28 : px_fr 8 28 = some (8, 3) := by decide +kernel
theorem pg_8_32 : px_fr 8 32 = some (8, 4) := by decide +kernel
theorem pg_8_39 : px_fr 8 39 = some (8, 5) := by decide +kernel
theorem pg_8_48 : px_fr 8 48 = some (8, 6) := by decide +kernel
theorem pg_8_57 : px_fr 8 57 = some (8, 7) := by decide +kernel
theorem pg_8_61 : px_fr 8 61 = some (8, 8) := by decide +kernel
theorem pg_8_70 : px_fr 8 70 = some (8, 9) := by decide +kernel
theorem pg_8_74 : px_fr 8 74 = some (8, 10) := by decide +kernel
theorem pg_8_77 : px_fr 8 77 = some (8, 11) := by decide +kernel
theorem pg_8_81 : px_fr 8 81 = some (8, 12) := by decide +kernel
theorem pg_8_84 : px_fr 8 84 = some (8, 13) := by decide +kernel
theorem pg_8_87 : px_fr 8 87 = some (8, 14) := by decide +kernel
theorem pg_9_177 : px_fr 9 177 = some (9, 0) := by decide +kernel
theorem pg_9_180 : px_fr 9 180 = some (9, 1) := by decide +kernel
theorem pg_9_7 : px_fr 9 7 = some (9, 2) := by decide +kernel
theorem pg_9_13 : px_fr 9 13 = some (9, 3) := by decide +kernel
theorem pg_9_16 : px_fr 9 16 = some (9, 4) := by decide +kernel
theorem pg_9_19 : px_fr 9 19 = some (9, 5) := by decide +kernel
theorem pg_9_23 : px_fr 9 23 = some (9, 6) := by decide +kernel
theorem pg_9_26 : px_fr 9 26 = some (9, 7) := by decide +kernel
theorem pg_9_183 : px_fr 9 183 = some (9, 8) := by decide +kernel
theorem pg_9_29 : px_fr 9 29 = some (9, 9) := by decide +kernel
theorem pg_9_32 : px_fr 9 32 = some (9, 10) := by decide +kernel
theorem pg_9_267 : px_fr 9 267 = some (9, 11) := by decide +kernel
theorem pg_9_35 : px_fr 9 35 = some (9, 12) := by decide +kernel
theorem pg_9_264 : px_fr 9 264 = some (9, 13) := by decide +kernel
theorem pg_9_283 : px_fr 9 283 = some (9, 14) := by decide +kernel
theorem pg_9_273 : px_fr 9 273 = some (9, 15) := by decide +kernel
theorem pg_9_296 : px_fr 9 296 = some (9, 16) := by decide +kernel
theorem pg_9_286 : px_fr 9 286 = some (9, 17) := by decide +kernel
theorem pg_9_38 : px_fr 9 38 = some (9, 18) := by decide +kernel
theorem pg_9_276 : px_fr 9 276 = some (9, 19) := by decide +kernel
theorem pg_9_353 : px_fr 9 353 = some (9, 20) := by decide +kernel
theorem pg_9_407 : px_fr 9 407 = some (9, 21) := by decide +kernel
theorem pg_9_42 : px_fr 9 42 = some (9, 22) := by decide +kernel
theorem pg_9_313 : px_fr 9 313 = some (9, 23) := by decide +kernel
theorem pg_9_45 : px_fr 9 45 = some (9, 24) := by decide +kernel
theorem pg_9_48 : px_fr 9 48 = some (9, 25) := by decide +kernel
theorem pg_9_344 : px_fr 9 344 = some (9, 26) := by decide +kernel
theorem pg_9_51 : px_fr 9 51 = some (9, 27) := by decide +kernel
theorem pg_9_54 : px_fr 9 54 = some (9, 28) := by decide +kernel
theorem pg_9_316 : px_fr 9 316 = some (9, 29) := by decide +kernel
theorem pg_9_338 : px_fr 9 338 = some (9, 30) := by decide +kernel
theorem pg_9_81 : px_fr 9 81 = some (9, 31) := by decide +kernel
theorem pg_9_93 : px_fr 9 93 = some (9, 32) := by decide +kernel
theorem pg_9_104 : px_fr 9 104 = some (9, 33) := by decide +kernel
theorem pg_9_430 : px_fr 9 430 = some (9, 34) := by decide +kernel
theorem pg_9_107 : px_fr 9 107 = some (9, 35) := by decide +kernel
theorem pg_9_110 : px_fr 9 110 = some (9, 36) := by decide +kernel
theorem pg_9_113 : px_fr 9 113 = some (9, 37) := by decide +kernel
theorem pg_9_427 : px_fr 9 427 = some (9, 38) := by decide +kernel
theorem pg_9_441 : px_fr 9 441 = some (9, 39) := by decide +kernel
theorem pg_9_447 : px_fr 9 447 = some (9, 40) := by decide +kernel
theorem pg_9_116 : px_fr 9 116 = some (9, 41) := by decide +kernel
theorem pg_9_119 : px_fr 9 119 = some (9, 42) := by decide +kernel
theorem pg_9_122 : px_fr 9 122 = some (9, 43) := by decide +kernel
theorem pg_9_125 : px_fr 9 125 = some (9, 44) := by decide +kernel
theorem pg_9_128 : px_fr 9 128 = some (9, 45) := by decide +kernel
theorem pg_9_131 : px_fr 9 131 = some (9, 46) := by decide +kernel
theorem pg_9_134 : px_fr 9 134 = some (9, 47) := by decide +kernel
theorem pg_9_137 : px_fr 9 137 = some (9, 48) := by decide +kernel
theorem pg_9_140 : px_fr 9 140 = some (9, 49) := by decide +kernel
theorem pg_9_143 : px_fr 9 143 = some (9, 50) := by decide +kernel
theorem pg_9_146 : px_fr 9 146 = some (9, 51) := by decide +kernel
theorem pg_9_149 : px_fr 9 149 = some (9, 52) := by decide +kernel
theorem pg_9_162 : px_fr 9 162 = some (9, 53) := by decide +kernel
theorem pg_9_165 : px_fr 9 165 = some (9, 54) := by decide +kernel
theorem pg_9_573 : px_fr 9 573 = some (9, 55) := by decide +kernel
theorem pg_9_576 : px_fr 9 576 = some (9, 56) := by decide +kernel
theorem pg_9_168 : px_fr 9 168 = some (9, 57) := by decide +kernel
theorem pg_9_570 : px_fr 9 570 = some (9, 58) := by decide +kernel
theorem pg_9_594 : px_fr 9 594 = some (9, 59) := by decide +kernel
theorem pg_9_171 : px_fr 9 171 = some (9, 60) := by decide +kernel
theorem pg_9_174 : px_fr 9 174 = some (9, 61) := by decide +kernel
theorem pc_25_9 : px_ct 25 9 = some (5, 1, 0) := by decide +kernel
theorem pc_8_3 : px_ct 8 3 = some (0, 0, 0) := by decide +kernel
theorem pc_8_11 : px_ct 8 11 = some (6, 2, 0) := by decide +kernel
theorem pc_5_3 : px_ct 5 3 = some (0, 0, 0) := by decide +kernel
theorem pc_8_18 : px_ct 8 18 = some (5, 3, 1) := by decide +kernel
theorem pc_0_3 : px_ct 0 3 = some (0, 0, 0) := by decide +kernel
theorem pc_0_11 : px_ct 0 11 = some (6, 4, 0) := by decide +kernel
theorem pc_1_3 : px_ct 1 3 = some (0, 0, 0) := by decide +kernel
theorem pc_8_38 : px_ct 8 38 = some (5, 5, 0) := by decide +kernel
theorem pc_7_3 : px_ct 7 3 = some (0, 0, 0) := by decide +kernel
theorem pc_7_28 : px_ct 7 28 = some (6, 4, 0) := by decide +kernel
theorem pc_8_45 : px_ct 8 45 = some (5, 6, 3) := by decide +kernel
theorem pc_4_3 : px_ct 4 3 = some (0, 0, 0) := by decide +kernel
theorem pc_4_17 : px_ct 4 17 = some (6, 4, 0) := by decide +kernel
theorem pc_4_24 : px_ct 4 24 = some (5, 5, 0) := by decide +kernel
theorem pc_8_54 : px_ct 8 54 = some (5, 7, 2) := by decide +kernel
theorem pc_2_3 : px_ct 2 3 = some (0, 0, 0) := by decide +kernel
theorem pc_2_71 : px_ct 2 71 = some (5, 3, 1) := by decide +kernel
theorem pc_8_67 : px_ct 8 67 = some (5, 8, 1) := by decide +kernel
theorem pc_3_3 : px_ct 3 3 = some (0, 0, 0) := by decide +kernel
theorem pc_3_11 : px_ct 3 11 = some (5, 9, 2) := by decide +kernel
theorem pc_6_1 : px_ct 6 1 = some (0, 0, 0) := by decide +kernel
theorem pc_6_20 : px_ct 6 20 = some (2, 0, 2) := by decide +kernel
theorem pc_25_13 : px_ct 25 13 = some (7, 10, 2) := by decide +kernel
theorem pc_8_91 : px_ct 8 91 = some (3, 11, 1) := by decide +kernel
theorem pc_8_95 : px_ct 8 95 = some (3, 12, 3) := by decide +kernel
theorem pc_8_99 : px_ct 8 99 = some (7, 13, 1) := by decide +kernel
theorem pc_8_112 : px_ct 8 112 = some (7, 14, 0) := by decide +kernel
theorem pc_8_115 : px_ct 8 115 = some (7, 15, 1) := by decide +kernel
theorem pc_25_18 : px_ct 25 18 = some (7, 16, 2) := by decide +kernel
theorem pc_8_118 : px_ct 8 118 = some (7, 17, 1) := by decide +kernel
theorem pc_0_76 : px_ct 0 76 = some (4, 12, 3) := by decide +kernel
theorem pc_8_121 : px_ct 8 121 = some (7, 18, 1) := by decide +kernel
theorem pc_0_93 : px_ct 0 93 = some (7, 19, 2) := by decide +kernel
theorem pc_0_115 : px_ct 0 115 = some (3, 20, 2) := by decide +kernel
theorem pc_0_89 : px_ct 0 89 = some (4, 21, 2) := by decide +kernel
theorem pc_8_380 : px_ct 8 380 = some (2, 2, 1) := by decide +kernel
theorem pc_0_70 : px_ct 0 70 = some (1, 0, 5) := by decide +kernel
theorem pc_0_97 : px_ct 0 97 = some (7, 22, 1) := by decide +kernel
theorem pc_0_136 : px_ct 0 136 = some (7, 23, 1) := by decide +kernel
theorem pc_0_143 : px_ct 0 143 = some (7, 24, 1) := by decide +kernel
theorem pc_0_146 : px_ct 0 146 = some (7, 25, 4) := by decide +kernel
theorem pc_5_27 : px_ct 5 27 = some (3, 26, 3) := by decide +kernel
theorem pc_8_124 : px_ct 8 124 = some (7, 27, 2) := by decide +kernel
theorem pc_0_102 : px_ct 0 102 = some (7, 28, 1) := by decide +kernel
theorem pc_0_105 : px_ct 0 105 = some (4, 29, 3) := by decide +kernel
theorem pc_8_372 : px_ct 8 372 = some (2, 1, 2) := by decide +kernel
theorem pc_8_377 : px_ct 8 377 = some (2, 0, 2) := by decide +kernel
theorem pc_25_22 : px_ct 25 22 = some (7, 30, 2) := by decide +kernel
theorem pc_8_128 : px_ct 8 128 = some (3, 31, 1) := by decide +kernel
theorem pc_8_135 : px_ct 8 135 = some (7, 32, 2) := by decide +kernel
theorem pc_8_140 : px_ct 8 140 = some (7, 33, 1) := by decide +kernel
theorem pc_8_143 : px_ct 8 143 = some (7, 34, 1) := by decide +kernel
theorem pc_0_109 : px_ct 0 109 = some (7, 35, 1) := by decide +kernel
theorem pc_0_112 : px_ct 0 112 = some (7, 33, 1) := by decide +kernel
theorem pc_8_146 : px_ct 8 146 = some (7, 28, 1) := by decide +kernel
theorem pc_25_26 : px_ct 25 26 = some (7, 36, 2) := by decide +kernel
theorem pc_8_149 : px_ct 8 149 = some (3, 37, 1) := by decide +kernel
theorem pc_8_152 : px_ct 8 152 = some (7, 38, 1) := by decide +kernel
theorem pc_25_30 : px_ct 25 30 = some (7, 39, 2) := by decide +kernel
theorem pc_8_164 : px_ct 8 164 = some (7, 40, 1) := by decide +kernel
theorem pc_8_167 : px_ct 8 167 = some (7, 41, 1) := by decide +kernel
theorem pc_0_121 : px_ct 0 121 = some (7, 42, 1) := by decide +kernel
theorem pc_0_124 : px_ct 0 124 = some (7, 32, 2) := by decide +kernel
theorem pc_8_171 : px_ct 8 171 = some (7, 43, 1) := by decide +kernel
theorem pc_25_34 : px_ct 25 34 = some (7, 44, 2) := by decide +kernel
theorem pc_25_38 : px_ct 25 38 = some (7, 45, 2) := by decide +kernel
theorem pc_8_177 : px_ct 8 177 = some (3, 46, 1) := by decide +kernel
theorem pc_8_180 : px_ct 8 180 = some (7, 47, 1) := by decide +kernel
theorem pc_25_42 : px_ct 25 42 = some (7, 48, 5) := by decide +kernel
theorem pc_8_192 : px_ct 8 192 = some (7, 49, 1) := by decide +kernel
theorem pc_25_47 : px_ct 25 47 = some (7, 50, 1) := by decide +kernel
theorem pc_25_52 : px_ct 25 52 = some (7, 51, 0) := by decide +kernel
theorem pc_8_195 : px_ct 8 195 = some (7, 52, 1) := by decide +kernel
theorem pc_8_274 : px_ct 8 274 = some (3, 53, 1) := by decide +kernel
theorem pc_8_366 : px_ct 8 366 = some (1, 0, 5) := by decide +kernel
theorem pc_25_57 : px_ct 25 57 = some (7, 54, 0) := by decide +kernel
theorem pc_25_61 : px_ct 25 61 = some (7, 55, 0) := by decide +kernel
theorem pc_8_198 : px_ct 8 198 = some (7, 56, 0) := by decide +kernel
theorem pc_8_205 : px_ct 8 205 = some (7, 57, 2) := by decide +kernel
theorem pc_3_50 : px_ct 3 50 = some (4, 29, 3) := by decide +kernel
theorem pc_3_54 : px_ct 3 54 = some (7, 58, 0) := by decide +kernel
theorem pc_3_57 : px_ct 3 57 = some (7, 59, 0) := by decide +kernel
theorem pc_3_177 : px_ct 3 177 = some (3, 60, 1) := by decide +kernel
theorem pc_3_181 : px_ct 3 181 = some (2, 1, 2) := by decide +kernel
theorem pc_3_60 : px_ct 3 60 = some (7, 61, 0) := by decide +kernel
theorem pc_3_78 : px_ct 3 78 = some (7, 62, 1) := by decide +kernel
theorem pc_3_187 : px_ct 3 187 = some (7, 63, 0) := by decide +kernel
theorem pc_20_335 : px_ct 20 335 = some (7, 64, 0) := by decide +kernel
theorem pc_3_192 : px_ct 3 192 = some (7, 65, 1) := by decide +kernel
theorem pc_20_492 : px_ct 20 492 = some (7, 66, 0) := by decide +kernel
theorem pc_20_495 : px_ct 20 495 = some (3, 67, 2) := by decide +kernel
theorem pc_21_9 : px_ct 21 9 = some (3, 68, 2) := by decide +kernel
theorem pc_20_1059 : px_ct 20 1059 = some (3, 69, 3) := by decide +kernel
theorem pc_3_71 : px_ct 3 71 = some (7, 70, 0) := by decide +kernel
theorem pc_3_82 : px_ct 3 82 = some (7, 71, 1) := by decide +kernel
theorem pc_3_86 : px_ct 3 86 = some (7, 72, 1) := by decide +kernel
theorem pc_3_111 : px_ct 3 111 = some (7, 73, 2) := by decide +kernel
theorem pc_3_121 : px_ct 3 121 = some (7, 74, 1) := by decide +kernel
theorem pc_3_154 : px_ct 3 154 = some (7, 75, 1) := by decide +kernel
theorem pc_3_159 : px_ct 3 159 = some (7, 76, 1) := by decide +kernel
theorem pc_3_64 : px_ct 3 64 = some (7, 77, 1) := by decide +kernel
theorem pc_3_142 : px_ct 3 142 = some (7, 78, 1) := by decide +kernel
theorem pc_3_145 : px_ct 3 145 = some (7, 79, 1) := by decide +kernel
theorem pc_3_129 : px_ct 3 129 = some (7, 80, 2) := by decide +kernel
theorem pc_3_164 : px_ct 3 164 = some (7, 81, 0) := by decide +kernel
theorem pc_3_167 : px_ct 3 167 = some (7, 82, 0) := by decide +kernel
theorem pc_3_150 : px_ct 3 150 = some (7, 83, 2) := by decide +kernel
theorem pc_3_92 : px_ct 3 92 = some (7, 84, 1) := by decide +kernel
theorem pc_3_100 : px_ct 3 100 = some (7, 85, 1) := by decide +kernel
theorem pc_3_103 : px_ct 3 103 = some (7, 86, 0) := by decide +kernel
theorem pc_3_117 : px_ct 3 117 = some (4, 12, 3) := by decide +kernel
theorem pc_3_114 : px_ct 3 114 = some (7, 87, 1) := by decide +kernel
theorem pc_3_124 : px_ct 3 124 = some (7, 88, 1) := by decide +kernel
theorem pc_3_135 : px_ct 3 135 = some (7, 89, 1) := by decide +kernel
theorem pc_3_132 : px_ct 3 132 = some (7, 90, 1) := by decide +kernel
theorem pc_6_36 : px_ct 6 36 = some (4, 12, 3) := by decide +kernel
theorem pc_8_217 : px_ct 8 217 = some (7, 91, 0) := by decide +kernel
theorem pc_6_42 : px_ct 6 42 = some (5, 9, 2) := by decide +kernel
theorem pc_6_45 : px_ct 6 45 = some (1, 0, 5) := by decide +kernel
theorem pc_25_65 : px_ct 25 65 = some (7, 92, 0) := by decide +kernel
theorem pc_8_226 : px_ct 8 226 = some (7, 93, 0) := by decide +kernel
theorem pc_4_55 : px_ct 4 55 = some (7, 94, 1) := by decide +kernel
theorem pc_1_28 : px_ct 1 28 = some (1, 0, 5) := by decide +kernel
theorem pc_4_59 : px_ct 4 59 = some (7, 95, 1) := by decide +kernel
theorem pc_7_33 : px_ct 7 33 = some (1, 0, 5) := by decide +kernel
theorem pc_7_29 : px_ct 7 29 = some (7, 94, 1) := by decide +kernel
theorem pc_8_232 : px_ct 8 232 = some (7, 96, 2) := by decide +kernel
theorem pc_4_62 : px_ct 4 62 = some (7, 24, 1) := by decide +kernel
theorem pc_4_68 : px_ct 4 68 = some (7, 97, 1) := by decide +kernel
theorem pc_4_75 : px_ct 4 75 = some (7, 98, 1) := by decide +kernel
theorem pc_4_116 : px_ct 4 116 = some (7, 99, 0) := by decide +kernel
theorem pc_4_122 : px_ct 4 122 = some (1, 0, 5) := by decide +kernel
theorem pc_4_128 : px_ct 4 128 = some (7, 40, 1) := by decide +kernel
theorem pc_4_79 : px_ct 4 79 = some (7, 25, 4) := by decide +kernel
theorem pc_4_85 : px_ct 4 85 = some (7, 100, 1) := by decide +kernel
theorem pc_4_89 : px_ct 4 89 = some (7, 101, 1) := by decide +kernel
theorem pc_0_152 : px_ct 0 152 = some (7, 17, 1) := by decide +kernel
theorem pc_0_155 : px_ct 0 155 = some (7, 18, 1) := by decide +kernel
theorem pc_0_158 : px_ct 0 158 = some (7, 27, 2) := by decide +kernel
theorem pc_0_161 : px_ct 0 161 = some (2, 1, 2) := by decide +kernel
theorem pc_4_92 : px_ct 4 92 = some (7, 102, 2) := by decide +kernel
theorem pc_0_166 : px_ct 0 166 = some (4, 31, 1) := by decide +kernel
theorem pc_0_169 : px_ct 0 169 = some (4, 11, 1) := by decide +kernel
theorem pc_4_96 : px_ct 4 96 = some (7, 103, 1) := by decide +kernel
theorem pc_4_99 : px_ct 4 99 = some (7, 104, 2) := by decide +kernel
theorem pc_0_172 : px_ct 0 172 = some (4, 37, 1) := by decide +kernel
theorem pc_0_175 : px_ct 0 175 = some (7, 40, 1) := by decide +kernel
theorem pc_0_178 : px_ct 0 178 = some (7, 38, 1) := by decide +kernel
theorem pc_4_102 : px_ct 4 102 = some (7, 105, 0) := by decide +kernel
theorem pc_0_181 : px_ct 0 181 = some (7, 41, 1) := by decide +kernel
theorem pc_0_185 : px_ct 0 185 = some (7, 106, 1) := by decide +kernel
theorem pc_0_130 : px_ct 0 130 = some (7, 43, 1) := by decide +kernel
theorem pc_4_106 : px_ct 4 106 = some (7, 107, 1) := by decide +kernel
theorem pc_8_236 : px_ct 8 236 = some (7, 108, 0) := by decide +kernel
theorem pc_25_69 : px_ct 25 69 = some (7, 109, 0) := by decide +kernel
theorem pc_25_73 : px_ct 25 73 = some (7, 110, 0) := by decide +kernel
theorem pc_25_77 : px_ct 25 77 = some (7, 111, 1) := by decide +kernel
theorem pc_8_242 : px_ct 8 242 = some (7, 23, 1) := by decide +kernel
theorem pc_25_81 : px_ct 25 81 = some (7, 112, 1) := by decide +kernel
theorem pc_8_248 : px_ct 8 248 = some (7, 100, 1) := by decide +kernel
theorem pc_8_252 : px_ct 8 252 = some (7, 101, 1) := by decide +kernel
theorem pc_8_255 : px_ct 8 255 = some (7, 113, 2) := by decide +kernel
theorem pc_8_360 : px_ct 8 360 = some (7, 107, 1) := by decide +kernel
theorem pc_25_85 : px_ct 25 85 = some (7, 114, 2) := by decide +kernel
theorem pc_8_258 : px_ct 8 258 = some (7, 102, 2) := by decide +kernel
theorem pc_25_89 : px_ct 25 89 = some (7, 115, 1) := by decide +kernel
theorem pc_8_261 : px_ct 8 261 = some (7, 103, 1) := by decide +kernel
theorem pc_25_93 : px_ct 25 93 = some (7, 116, 2) := by decide +kernel
theorem pc_8_264 : px_ct 8 264 = some (7, 104, 2) := by decide +kernel
theorem pc_25_97 : px_ct 25 97 = some (7, 117, 0) := by decide +kernel
theorem pc_8_267 : px_ct 8 267 = some (7, 105, 0) := by decide +kernel
theorem pc_25_101 : px_ct 25 101 = some (7, 118, 0) := by decide +kernel
theorem pc_8_270 : px_ct 8 270 = some (7, 119, 1) := by decide +kernel
theorem pc_25_105 : px_ct 25 105 = some (7, 120, 5) := by decide +kernel
theorem pc_8_277 : px_ct 8 277 = some (7, 121, 4) := by decide +kernel
theorem pc_2_92 : px_ct 2 92 = some (7, 32, 2) := by decide +kernel
theorem pc_2_97 : px_ct 2 97 = some (7, 18, 1) := by decide +kernel
theorem pc_2_80 : px_ct 2 80 = some (7, 27, 2) := by decide +kernel
theorem pc_2_101 : px_ct 2 101 = some (7, 122, 1) := by decide +kernel
theorem pc_2_109 : px_ct 2 109 = some (2, 1, 2) := by decide +kernel
theorem pc_8_281 : px_ct 8 281 = some (7, 123, 1) := by decide +kernel
theorem pc_2_114 : px_ct 2 114 = some (7, 124, 0) := by decide +kernel
theorem pc_25_109 : px_ct 25 109 = some (7, 125, 3) := by decide +kernel
theorem pc_25_114 : px_ct 25 114 = some (7, 126, 0) := by decide +kernel
theorem pc_25_118 : px_ct 25 118 = some (7, 127, 1) := by decide +kernel
theorem pc_8_290 : px_ct 8 290 = some (7, 128, 0) := by decide +kernel
theorem pc_2_84 : px_ct 2 84 = some (7, 129, 1) := by decide +kernel
theorem pc_2_124 : px_ct 2 124 = some (7, 130, 1) := by decide +kernel
theorem pc_2_127 : px_ct 2 127 = some (7, 131, 2) := by decide +kernel
theorem pc_25_122 : px_ct 25 122 = some (7, 132, 1) := by decide +kernel
theorem pc_8_296 : px_ct 8 296 = some (7, 133, 0) := by decide +kernel
theorem pc_2_130 : px_ct 2 130 = some (7, 134, 1) := by decide +kernel
theorem pc_2_133 : px_ct 2 133 = some (3, 20, 2) := by decide +kernel
theorem pc_2_139 : px_ct 2 139 = some (2, 0, 2) := by decide +kernel
theorem pc_25_126 : px_ct 25 126 = some (7, 135, 1) := by decide +kernel
theorem pc_8_302 : px_ct 8 302 = some (7, 136, 0) := by decide +kernel
theorem pc_2_142 : px_ct 2 142 = some (7, 41, 1) := by decide +kernel
theorem pc_2_148 : px_ct 2 148 = some (7, 43, 1) := by decide +kernel
theorem pc_2_151 : px_ct 2 151 = some (3, 137, 1) := by decide +kernel
theorem pc_2_156 : px_ct 2 156 = some (7, 138, 2) := by decide +kernel
theorem pc_8_305 : px_ct 8 305 = some (7, 139, 1) := by decide +kernel
theorem pc_2_160 : px_ct 2 160 = some (7, 140, 2) := by decide +kernel
theorem pc_25_130 : px_ct 25 130 = some (7, 141, 1) := by decide +kernel
theorem pc_8_308 : px_ct 8 308 = some (7, 142, 1) := by decide +kernel
theorem pc_2_163 : px_ct 2 163 = some (7, 42, 1) := by decide +kernel
theorem pc_2_166 : px_ct 2 166 = some (7, 33, 1) := by decide +kernel
theorem pc_2_169 : px_ct 2 169 = some (7, 35, 1) := by decide +kernel
theorem pc_25_134 : px_ct 25 134 = some (7, 143, 1) := by decide +kernel
theorem pc_8_311 : px_ct 8 311 = some (7, 144, 0) := by decide +kernel
theorem pc_2_172 : px_ct 2 172 = some (7, 145, 0) := by decide +kernel
theorem pc_2_175 : px_ct 2 175 = some (7, 146, 0) := by decide +kernel
theorem pc_2_186 : px_ct 2 186 = some (7, 147, 3) := by decide +kernel
theorem pc_2_179 : px_ct 2 179 = some (7, 148, 1) := by decide +kernel
theorem pc_2_183 : px_ct 2 183 = some (3, 149, 1) := by decide +kernel
theorem pc_8_314 : px_ct 8 314 = some (3, 137, 1) := by decide +kernel
theorem pc_25_138 : px_ct 25 138 = some (7, 150, 2) := by decide +kernel
theorem pc_8_319 : px_ct 8 319 = some (7, 151, 1) := by decide +kernel
theorem pc_2_190 : px_ct 2 190 = some (7, 152, 1) := by decide +kernel
theorem pc_0_66 : px_ct 0 66 = some (7, 94, 1) := by decide +kernel
theorem pc_25_142 : px_ct 25 142 = some (7, 153, 2) := by decide +kernel
theorem pc_8_328 : px_ct 8 328 = some (7, 154, 1) := by decide +kernel
theorem pc_2_197 : px_ct 2 197 = some (7, 34, 1) := by decide +kernel
theorem pc_2_200 : px_ct 2 200 = some (4, 21, 2) := by decide +kernel
theorem pc_2_203 : px_ct 2 203 = some (7, 155, 1) := by decide +kernel
theorem pc_2_206 : px_ct 2 206 = some (7, 156, 2) := by decide +kernel
theorem pc_8_331 : px_ct 8 331 = some (7, 157, 1) := by decide +kernel
theorem pc_2_210 : px_ct 2 210 = some (7, 158, 1) := by decide +kernel
theorem pc_25_146 : px_ct 25 146 = some (7, 159, 2) := by decide +kernel
theorem pc_8_334 : px_ct 8 334 = some (7, 160, 2) := by decide +kernel
theorem pc_2_219 : px_ct 2 219 = some (7, 106, 1) := by decide +kernel
theorem pc_25_150 : px_ct 25 150 = some (7, 161, 1) := by decide +kernel
theorem pc_8_337 : px_ct 8 337 = some (7, 162, 1) := by decide +kernel
theorem pc_2_228 : px_ct 2 228 = some (7, 99, 0) := by decide +kernel
theorem pc_25_154 : px_ct 25 154 = some (7, 163, 2) := by decide +kernel
theorem pc_8_342 : px_ct 8 342 = some (7, 164, 2) := by decide +kernel
theorem pc_2_231 : px_ct 2 231 = some (3, 165, 2) := by decide +kernel
theorem pc_25_159 : px_ct 25 159 = some (7, 166, 2) := by decide +kernel
theorem pc_8_347 : px_ct 8 347 = some (7, 152, 1) := by decide +kernel
theorem pc_8_351 : px_ct 8 351 = some (7, 167, 2) := by decide +kernel
theorem pc_0_188 : px_ct 0 188 = some (3, 168, 1) := by decide +kernel
theorem pc_0_191 : px_ct 0 191 = some (7, 101, 1) := by decide +kernel
theorem pc_0_194 : px_ct 0 194 = some (7, 105, 0) := by decide +kernel
theorem pc_25_163 : px_ct 25 163 = some (7, 169, 2) := by decide +kernel
theorem pc_25_167 : px_ct 25 167 = some (7, 170, 1) := by decide +kernel
theorem pc_25_171 : px_ct 25 171 = some (7, 171, 1) := by decide +kernel
theorem pc_25_175 : px_ct 25 175 = some (7, 172, 1) := by decide +kernel
theorem pc_8_354 : px_ct 8 354 = some (7, 99, 0) := by decide +kernel
theorem pc_25_179 : px_ct 25 179 = some (7, 173, 0) := by decide +kernel
theorem pc_25_12 : px_ct 25 12 = some (5, 174, 0) := by decide +kernel
theorem pc_9_1 : px_ct 9 1 = some (0, 0, 0) := by decide +kernel
theorem pc_25_104 : px_ct 25 104 = some (7, 175, 0) := by decide +kernel
theorem pc_9_186 : px_ct 9 186 = some (7, 176, 1) := by decide +kernel
theorem pc_9_194 : px_ct 9 194 = some (7, 177, 1) := by decide +kernel
theorem pc_25_170 : px_ct 25 170 = some (7, 178, 1) := by decide +kernel
theorem pc_9_197 : px_ct 9 197 = some (3, 179, 3) := by decide +kernel
theorem pc_25_174 : px_ct 25 174 = some (7, 180, 1) := by decide +kernel
theorem pc_9_201 : px_ct 9 201 = some (7, 181, 1) := by decide +kernel
theorem pc_25_17 : px_ct 25 17 = some (7, 182, 2) := by decide +kernel
theorem pc_9_210 : px_ct 9 210 = some (3, 183, 1) := by decide +kernel
theorem pc_25_21 : px_ct 25 21 = some (7, 184, 2) := by decide +kernel
theorem pc_9_216 : px_ct 9 216 = some (7, 185, 1) := by decide +kernel
theorem pc_9_221 : px_ct 9 221 = some (7, 186, 1) := by decide +kernel
theorem pc_9_453 : px_ct 9 453 = some (7, 187, 0) := by decide +kernel
theorem pc_9_456 : px_ct 9 456 = some (7, 188, 1) := by decide +kernel
theorem pc_9_462 : px_ct 9 462 = some (7, 189, 2) := by decide +kernel
theorem pc_9_450 : px_ct 9 450 = some (7, 190, 1) := by decide +kernel
theorem pc_9_444 : px_ct 9 444 = some (7, 191, 2) := by decide +kernel
theorem pc_9_248 : px_ct 9 248 = some (7, 192, 1) := by decide +kernel
theorem pc_9_433 : px_ct 9 433 = some (7, 193, 3) := by decide +kernel
theorem pc_9_224 : px_ct 9 224 = some (7, 194, 2) := by decide +kernel
theorem pc_9_459 : px_ct 9 459 = some (7, 195, 1) := by decide +kernel
theorem pc_9_237 : px_ct 9 237 = some (3, 196, 2) := by decide +kernel
theorem pc_9_466 : px_ct 9 466 = some (3, 197, 3) := by decide +kernel
theorem pc_25_25 : px_ct 25 25 = some (7, 198, 2) := by decide +kernel
theorem pc_9_228 : px_ct 9 228 = some (3, 199, 1) := by decide +kernel
theorem pc_9_231 : px_ct 9 231 = some (7, 200, 1) := by decide +kernel
theorem pc_9_234 : px_ct 9 234 = some (7, 201, 1) := by decide +kernel
theorem pc_9_472 : px_ct 9 472 = some (7, 202, 1) := by decide +kernel
theorem pc_25_29 : px_ct 25 29 = some (7, 203, 2) := by decide +kernel
theorem pc_9_240 : px_ct 9 240 = some (3, 204, 1) := by decide +kernel
theorem pc_9_245 : px_ct 9 245 = some (7, 205, 1) := by decide +kernel
theorem pc_25_33 : px_ct 25 33 = some (7, 206, 2) := by decide +kernel
theorem pc_9_251 : px_ct 9 251 = some (7, 207, 2) := by decide +kernel
theorem pc_9_254 : px_ct 9 254 = some (7, 208, 2) := by decide +kernel
theorem pc_9_475 : px_ct 9 475 = some (7, 209, 1) := by decide +kernel
theorem pc_25_37 : px_ct 25 37 = some (7, 210, 2) := by decide +kernel
theorem pc_25_41 : px_ct 25 41 = some (7, 211, 2) := by decide +kernel
theorem pc_9_261 : px_ct 9 261 = some (7, 212, 2) := by decide +kernel
theorem pc_25_56 : px_ct 25 56 = some (7, 213, 0) := by decide +kernel
theorem pc_25_60 : px_ct 25 60 = some (7, 214, 0) := by decide +kernel
theorem pc_25_46 : px_ct 25 46 = some (7, 215, 5) := by decide +kernel
theorem pc_9_270 : px_ct 9 270 = some (7, 216, 1) := by decide +kernel
theorem pc_25_51 : px_ct 25 51 = some (7, 217, 1) := by decide +kernel
theorem pc_25_72 : px_ct 25 72 = some (7, 218, 0) := by decide +kernel
theorem pc_25_64 : px_ct 25 64 = some (7, 219, 0) := by decide +kernel
theorem pc_9_415 : px_ct 9 415 = some (7, 220, 1) := by decide +kernel
theorem pc_9_404 : px_ct 9 404 = some (7, 221, 0) := by decide +kernel
theorem pc_9_280 : px_ct 9 280 = some (7, 222, 0) := by decide +kernel
theorem pc_9_290 : px_ct 9 290 = some (3, 223, 1) := by decide +kernel
theorem pc_9_293 : px_ct 9 293 = some (3, 224, 1) := by decide +kernel
theorem pc_9_418 : px_ct 9 418 = some (7, 225, 0) := by decide +kernel
theorem pc_9_334 : px_ct 9 334 = some (7, 226, 1) := by decide +kernel
theorem pc_9_309 : px_ct 9 309 = some (7, 227, 1) := by decide +kernel
theorem pc_9_410 : px_ct 9 410 = some (7, 228, 1) := by decide +kernel
theorem pc_9_394 : px_ct 9 394 = some (7, 229, 0) := by decide +kernel
theorem pc_9_341 : px_ct 9 341 = some (7, 230, 2) := by decide +kernel
theorem pc_9_347 : px_ct 9 347 = some (7, 231, 1) := by decide +kernel
theorem pc_9_350 : px_ct 9 350 = some (7, 232, 1) := by decide +kernel
theorem pc_9_377 : px_ct 9 377 = some (7, 233, 0) := by decide +kernel
theorem pc_9_356 : px_ct 9 356 = some (7, 234, 0) := by decide +kernel
theorem pc_9_360 : px_ct 9 360 = some (7, 235, 0) := by decide +kernel
theorem pc_9_365 : px_ct 9 365 = some (7, 236, 3) := by decide +kernel
theorem pc_9_322 : px_ct 9 322 = some (7, 237, 2) := by decide +kernel
theorem pc_9_371 : px_ct 9 371 = some (7, 238, 2) := by decide +kernel
theorem pc_9_397 : px_ct 9 397 = some (7, 239, 1) := by decide +kernel
theorem pc_9_319 : px_ct 9 319 = some (3, 240, 1) := by decide +kernel
theorem pc_9_380 : px_ct 9 380 = some (7, 241, 1) := by decide +kernel
theorem pc_9_383 : px_ct 9 383 = some (7, 242, 0) := by decide +kernel
theorem pc_9_386 : px_ct 9 386 = some (7, 243, 0) := by decide +kernel
theorem pc_9_401 : px_ct 9 401 = some (7, 244, 0) := by decide +kernel
theorem pc_9_421 : px_ct 9 421 = some (7, 245, 0) := by decide +kernel
theorem pc_25_80 : px_ct 25 80 = some (7, 246, 1) := by decide +kernel
theorem pc_9_424 : px_ct 9 424 = some (7, 247, 1) := by decide +kernel
theorem pc_25_84 : px_ct 25 84 = some (7, 248, 1) := by decide +kernel
theorem pc_9_484 : px_ct 9 484 = some (7, 249, 1) := by decide +kernel
theorem pc_9_478 : px_ct 9 478 = some (7, 250, 1) := by decide +kernel
theorem pc_9_190 : px_ct 9 190 = some (7, 251, 1) := by decide +kernel
theorem pc_9_481 : px_ct 9 481 = some (7, 252, 1) := by decide +kernel
theorem pc_25_88 : px_ct 25 88 = some (7, 253, 2) := by decide +kernel
theorem pc_9_487 : px_ct 9 487 = some (7, 254, 2) := by decide +kernel
theorem pc_25_92 : px_ct 25 92 = some (7, 255, 1) := by decide +kernel
theorem pc_9_490 : px_ct 9 490 = some (7, 256, 1) := by decide +kernel
theorem pc_25_96 : px_ct 25 96 = some (7, 257, 2) := by decide +kernel
theorem pc_9_493 : px_ct 9 493 = some (7, 258, 2) := by decide +kernel
theorem pc_25_100 : px_ct 25 100 = some (7, 259, 0) := by decide +kernel
theorem pc_9_499 : px_ct 9 499 = some (7, 260, 0) := by decide +kernel
theorem pc_9_496 : px_ct 9 496 = some (7, 261, 0) := by decide +kernel
theorem pc_25_108 : px_ct 25 108 = some (7, 262, 5) := by decide +kernel
theorem pc_9_510 : px_ct 9 510 = some (7, 263, 1) := by decide +kernel
theorem pc_9_503 : px_ct 9 503 = some (7, 264, 3) := by decide +kernel
theorem pc_9_507 : px_ct 9 507 = some (7, 265, 1) := by decide +kernel
theorem pc_9_513 : px_ct 9 513 = some (7, 266, 3) := by decide +kernel
theorem pc_25_113 : px_ct 25 113 = some (7, 267, 3) := by decide +kernel
theorem pc_25_117 : px_ct 25 117 = some (7, 268, 0) := by decide +kernel
theorem pc_25_121 : px_ct 25 121 = some (7, 269, 1) := by decide +kernel
theorem pc_9_524 : px_ct 9 524 = some (7, 270, 0) := by decide +kernel
theorem pc_9_527 : px_ct 9 527 = some (7, 271, 1) := by decide +kernel
theorem pc_9_521 : px_ct 9 521 = some (7, 272, 3) := by decide +kernel
theorem pc_9_517 : px_ct 9 517 = some (3, 273, 2) := by decide +kernel
theorem pc_25_125 : px_ct 25 125 = some (7, 274, 1) := by decide +kernel
theorem pc_9_530 : px_ct 9 530 = some (7, 275, 1) := by decide +kernel
theorem pc_25_129 : px_ct 25 129 = some (7, 276, 1) := by decide +kernel
theorem pc_9_537 : px_ct 9 537 = some (7, 277, 0) := by decide +kernel
theorem pc_9_534 : px_ct 9 534 = some (7, 278, 1) := by decide +kernel
theorem pc_25_133 : px_ct 25 133 = some (7, 279, 1) := by decide +kernel
theorem pc_25_137 : px_ct 25 137 = some (7, 280, 1) := by decide +kernel
theorem pc_9_540 : px_ct 9 540 = some (7, 281, 2) := by decide +kernel
theorem pc_9_544 : px_ct 9 544 = some (3, 282, 1) := by decide +kernel
theorem pc_25_141 : px_ct 25 141 = some (7, 283, 2) := by decide +kernel
theorem pc_25_145 : px_ct 25 145 = some (7, 284, 2) := by decide +kernel
theorem pc_9_553 : px_ct 9 553 = some (7, 285, 1) := by decide +kernel
theorem pc_9_550 : px_ct 9 550 = some (7, 286, 2) := by decide +kernel
theorem pc_9_547 : px_ct 9 547 = some (3, 287, 3) := by decide +kernel
theorem pc_25_149 : px_ct 25 149 = some (7, 288, 2) := by decide +kernel
theorem pc_25_153 : px_ct 25 153 = some (7, 289, 1) := by decide +kernel
theorem pc_9_556 : px_ct 9 556 = some (7, 290, 0) := by decide +kernel
theorem pc_25_158 : px_ct 25 158 = some (7, 291, 2) := by decide +kernel
theorem pc_25_68 : px_ct 25 68 = some (7, 292, 0) := by decide +kernel
theorem pc_9_585 : px_ct 9 585 = some (7, 293, 0) := by decide +kernel
theorem pc_9_561 : px_ct 9 561 = some (7, 294, 1) := by decide +kernel
theorem pc_9_588 : px_ct 9 588 = some (7, 295, 1) := by decide +kernel
theorem pc_9_579 : px_ct 9 579 = some (7, 296, 1) := by decide +kernel
theorem pc_9_582 : px_ct 9 582 = some (7, 297, 3) := by decide +kernel
theorem pc_9_591 : px_ct 9 591 = some (7, 298, 1) := by decide +kernel
theorem pc_25_76 : px_ct 25 76 = some (7, 299, 0) := by decide +kernel
theorem pc_25_162 : px_ct 25 162 = some (7, 300, 2) := by decide +kernel
theorem pc_9_603 : px_ct 9 603 = some (7, 301, 1) := by decide +kernel
theorem pc_25_166 : px_ct 25 166 = some (7, 302, 2) := by decide +kernel
theorem pc_25_178 : px_ct 25 178 = some (7, 303, 1) := by decide +kernel
theorem pc_25_182 : px_ct 25 182 = some (7, 304, 0) := by decide +kernel
theorem pk_0_101 : px_kc 0 101 = some (-2000000000) := by decide +kernel
theorem pk_5_26 : px_kc 5 26 = some (-2000000000) := by decide +kernel
theorem pk_4_88 : px_kc 4 88 = some (-2000000000) := by decide +kernel
theorem pk_2_105 : px_kc 2 105 = some (1000000) := by decide +kernel
theorem pk_23_265 : px_kc 23 265 = some (1431655765) := by decide +kernel
theorem pk_23_266 : px_kc 23 266 = some (858993459) := by decide +kernel
theorem pk_23_267 : px_kc 23 267 = some (252645135) := by decide +kernel
theorem pk_2_159 : px_kc 2 159 = some (-1000000) := by decide +kernel
theorem pk_2_178 : px_kc 2 178 = some (65535) := by decide +kernel
theorem pk_2_182 : px_kc 2 182 = some (65536) := by decide +kernel
theorem pk_8_346 : px_kc 8 346 = some (1000000) := by decide +kernel
theorem pk_9_502 : px_kc 9 502 = some (100000000) := by decide +kernel
theorem pk_9_533 : px_kc 9 533 = some (-100000000) := by decide +kernel
theorem pk_9_543 : px_kc 9 543 = some (65536) := by decide +kernel
theorem pl_5_35 : px_k2c 5 35 = some (-2000000000) := by decide +kernel
theorem pl_5_31 : px_k2c 5 31 = some (1000000000) := by decide +kernel
theorem pl_5_33 : px_k2c 5 33 = some (-1000000000) := by decide +kernel
theorem pl_8_340 : px_k2c 8 340 = some (-1) := by decide +kernel
theorem pl_2_234 : px_k2c 2 234 = some (1000000000000) := by decide +kernel
theorem pl_2_239 : px_k2c 2 239 = some (10) := by decide +kernel
theorem pl_0_198 : px_k2c 0 198 = some (1103) := by decide +kernel
theorem pl_0_200 : px_k2c 0 200 = some (12345) := by decide +kernel
theorem pl_0_202 : px_k2c 0 202 = some (1000003) := by decide +kernel
theorem pl_9_57 : px_k2c 9 57 = some (769604) := by decide +kernel
theorem pl_9_59 : px_k2c 9 59 = some (8869) := by decide +kernel
theorem pl_9_61 : px_k2c 9 61 = some (6801509) := by decide +kernel
theorem pl_9_63 : px_k2c 9 63 = some (56377) := by decide +kernel
theorem pl_9_65 : px_k2c 9 65 = some (18935) := by decide +kernel
theorem pl_9_67 : px_k2c 9 67 = some (116807086) := by decide +kernel
theorem pl_9_69 : px_k2c 9 69 = some (18596) := by decide +kernel
theorem pl_9_71 : px_k2c 9 71 = some (78501) := by decide +kernel
theorem pl_9_73 : px_k2c 9 73 = some (7935150) := by decide +kernel
theorem pl_9_75 : px_k2c 9 75 = some (654625076) := by decide +kernel
theorem pl_9_77 : px_k2c 9 77 = some (278194) := by decide +kernel
theorem pl_9_79 : px_k2c 9 79 = some (441828) := by decide +kernel
theorem pl_9_85 : px_k2c 9 85 = some (146885) := by decide +kernel
theorem pl_9_87 : px_k2c 9 87 = some (404362868) := by decide +kernel
theorem pl_9_89 : px_k2c 9 89 = some (559300916) := by decide +kernel
theorem pl_9_91 : px_k2c 9 91 = some (2491499) := by decide +kernel
theorem pl_9_96 : px_k2c 9 96 = some (658548179) := by decide +kernel
theorem pl_9_98 : px_k2c 9 98 = some (146611) := by decide +kernel
theorem pl_9_100 : px_k2c 9 100 = some (79727987) := by decide +kernel
theorem pl_9_102 : px_k2c 9 102 = some (67155) := by decide +kernel
theorem pl_9_152 : px_k2c 9 152 = some (641271301) := by decide +kernel
theorem pl_9_154 : px_k2c 9 154 = some (19764) := by decide +kernel
theorem pl_9_156 : px_k2c 9 156 = some (555910248) := by decide +kernel
theorem pl_9_158 : px_k2c 9 158 = some (755083) := by decide +kernel
theorem pl_9_160 : px_k2c 9 160 = some (525939) := by decide +kernel
theorem pl_9_208 : px_k2c 9 208 = some (2) := by decide +kernel
theorem pl_9_214 : px_k2c 9 214 = some (9) := by decide +kernel
theorem pl_9_219 : px_k2c 9 219 = some (18) := by decide +kernel
theorem pl_9_303 : px_k2c 9 303 = some (-1) := by decide +kernel
theorem pl_9_437 : px_k2c 9 437 = some (-1000000000) := by decide +kernel
theorem pl_9_439 : px_k2c 9 439 = some (1000000000) := by decide +kernel
theorem pl_9_204 : px_k2c 9 204 = some (15) := by decide +kernel
theorem pl_9_470 : px_k2c 9 470 = some (60) := by decide +kernel
theorem pl_9_206 : px_k2c 9 206 = some (7) := by decide +kernel
theorem pl_9_243 : px_k2c 9 243 = some (99) := by decide +kernel
theorem pl_9_257 : px_k2c 9 257 = some (999) := by decide +kernel
theorem pl_9_259 : px_k2c 9 259 = some (10) := by decide +kernel
theorem pl_9_299 : px_k2c 9 299 = some (32) := by decide +kernel
theorem pl_9_301 : px_k2c 9 301 = some (96) := by decide +kernel
theorem pl_9_305 : px_k2c 9 305 = some (1000000) := by decide +kernel
theorem pl_9_307 : px_k2c 9 307 = some (48) := by decide +kernel
theorem pl_9_375 : px_k2c 9 375 = some (14836) := by decide +kernel
theorem pl_9_363 : px_k2c 9 363 = some (1000) := by decide +kernel
theorem pl_9_369 : px_k2c 9 369 = some (5) := by decide +kernel
theorem pl_9_326 : px_k2c 9 326 = some (20) := by decide +kernel
theorem pl_9_328 : px_k2c 9 328 = some (24) := by decide +kernel
theorem pl_9_330 : px_k2c 9 330 = some (25) := by decide +kernel
theorem pl_9_332 : px_k2c 9 332 = some (27) := by decide +kernel
theorem pl_9_390 : px_k2c 9 390 = some (1476) := by decide +kernel
theorem pl_9_392 : px_k2c 9 392 = some (498) := by decide +kernel
theorem pl_9_413 : px_k2c 9 413 = some (294) := by decide +kernel
theorem pl_9_559 : px_k2c 9 559 = some (1000000000000) := by decide +kernel
theorem pl_9_564 : px_k2c 9 564 = some (486) := by decide +kernel
theorem pl_9_566 : px_k2c 9 566 = some (52) := by decide +kernel
theorem pl_9_568 : px_k2c 9 568 = some (21279923) := by decide +kernel
theorem pl_9_597 : px_k2c 9 597 = some (1103) := by decide +kernel
theorem pl_9_599 : px_k2c 9 599 = some (12345) := by decide +kernel
theorem pl_9_601 : px_k2c 9 601 = some (1000003) := by decide +kernel
theorem pl_9_606 : px_k2c 9 606 = some (3) := by decide +kernel
theorem pl_9_608 : px_k2c 9 608 = some (14) := by decide +kernel
theorem pl_9_610 : px_k2c 9 610 = some (16) := by decide +kernel
theorem pn_25_7 : px_clc 25 7 = some 8 := by decide +kernel
theorem pn_8_9 : px_clc 8 9 = some 5 := by decide +kernel
theorem pn_8_16 : px_clc 8 16 = some 0 := by decide +kernel
theorem pn_0_9 : px_clc 0 9 = some 1 := by decide +kernel
theorem pn_0_28 : px_clc 0 28 = some 6 := by decide +kernel
theorem pn_8_36 : px_clc 8 36 = some 7 := by decide +kernel
theorem pn_7_11 : px_clc 7 11 = some 1 := by decide +kernel
theorem pn_8_43 : px_clc 8 43 = some 4 := by decide +kernel
theorem pn_4_15 : px_clc 4 15 = some 1 := by decide +kernel
theorem pn_4_22 : px_clc 4 22 = some 7 := by decide +kernel
theorem pn_8_52 : px_clc 8 52 = some 2 := by decide +kernel
theorem pn_2_69 : px_clc 2 69 = some 0 := by decide +kernel
theorem pn_8_65 : px_clc 8 65 = some 3 := by decide +kernel
theorem pn_3_9 : px_clc 3 9 = some 6 := by decide +kernel
theorem pn_6_8 : px_clc 6 8 = some 6 := by decide +kernel
theorem pn_25_10 : px_clc 25 10 = some 9 := by decide +kernel
theorem ps_3_74 : px_kc 3 74 = none ∧ px_sc 3 74 = some 0 := by decide +kernel
theorem ps_3_76 : px_kc 3 76 = none ∧ px_sc 3 76 = some 1 := by decide +kernel
theorem ps_3_172 : px_kc 3 172 = none ∧ px_sc 3 172 = some 2 := by decide +kernel
theorem ps_3_170 : px_kc 3 170 = none ∧ px_sc 3 170 = some 3 := by decide +kernel
theorem ps_3_162 : px_kc 3 162 = none ∧ px_sc 3 162 = some 4 := by decide +kernel
theorem ps_3_157 : px_kc 3 157 = none ∧ px_sc 3 157 = some 5 := by decide +kernel
theorem ps_3_90 : px_kc 3 90 = none ∧ px_sc 3 90 = some 6 := by decide +kernel
theorem ps_3_96 : px_kc 3 96 = none ∧ px_sc 3 96 = some 7 := by decide +kernel
theorem ps_3_98 : px_kc 3 98 = none ∧ px_sc 3 98 = some 8 := by decide +kernel
theorem ps_3_106 : px_kc 3 106 = none ∧ px_sc 3 106 = some 9 := by decide +kernel
theorem ps_3_140 : px_kc 3 140 = none ∧ px_sc 3 140 = some 10 := by decide +kernel
theorem ps_3_148 : px_kc 3 148 = none ∧ px_sc 3 148 = some 11 := by decide +kernel
theorem ps_3_138 : px_kc 3 138 = none ∧ px_sc 3 138 = some 12 := by decide +kernel
theorem ps_3_127 : px_kc 3 127 = none ∧ px_sc 3 127 = some 13 := by decide +kernel
