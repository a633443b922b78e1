theorem zk_m : ∀ k, k < 249 → okM k = true := by
  intro k hk
  rcases Nat.lt_or_ge k 124 with h | h
  · rcases Nat.lt_or_ge k 62 with h | h
    · rcases Nat.lt_or_ge k 31 with h | h
      · rcases Nat.lt_or_ge k 15 with h | h
        · rcases Nat.lt_or_ge k 7 with h | h
          · rcases Nat.lt_or_ge k 3 with h | h
            · rcases Nat.lt_or_ge k 1 with h | h
              · obtain rfl : k = 0 := by omega
                exact zk_0
              · rcases Nat.lt_or_ge k 2 with h | h
                · obtain rfl : k = 1 := by omega
                  exact zk_1
                · obtain rfl : k = 2 := by omega
                  exact zk_2
            · rcases Nat.lt_or_ge k 5 with h | h
              · rcases Nat.lt_or_ge k 4 with h | h
                · obtain rfl : k = 3 := by omega
                  exact zk_3
                · obtain rfl : k = 4 := by omega
                  exact zk_4
              · rcases Nat.lt_or_ge k 6 with h | h
                · obtain rfl : k = 5 := by omega
                  exact zk_5
                · obtain rfl : k = 6 := by omega
                  exact zk_6
          · rcases Nat.lt_or_ge k 11 with h | h
            · rcases Nat.lt_or_ge k 9 with h | h
              · rcases Nat.lt_or_ge k 8 with h | h
                · obtain rfl : k = 7 := by omega
                  exact zk_7
                · obtain rfl : k = 8 := by omega
                  exact zk_8
              · rcases Nat.lt_or_ge k 10 with h | h
                · obtain rfl : k = 9 := by omega
                  exact zk_9
                · obtain rfl : k = 10 := by omega
                  exact zk_10
            · rcases Nat.lt_or_ge k 13 with h | h
              · rcases Nat.lt_or_ge k 12 with h | h
                · obtain rfl : k = 11 := by omega
                  exact zk_11
                · obtain rfl : k = 12 := by omega
                  exact zk_12
              · rcases Nat.lt_or_ge k 14 with h | h
                · obtain rfl : k = 13 := by omega
                  exact zk_13
                · obtain rfl : k = 14 := by omega
                  exact zk_14
        · rcases Nat.lt_or_ge k 23 with h | h
          · rcases Nat.lt_or_ge k 19 with h | h
            · rcases Nat.lt_or_ge k 17 with h | h
              · rcases Nat.lt_or_ge k 16 with h | h
                · obtain rfl : k = 15 := by omega
                  exact zk_15
                · obtain rfl : k = 16 := by omega
                  exact zk_16
              · rcases Nat.lt_or_ge k 18 with h | h
                · obtain rfl : k = 17 := by omega
                  exact zk_17
                · obtain rfl : k = 18 := by omega
                  exact zk_18
            · rcases Nat.lt_or_ge k 21 with h | h
              · rcases Nat.lt_or_ge k 20 with h | h
                · obtain rfl : k = 19 := by omega
                  exact zk_19
                · obtain rfl : k = 20 := by omega
                  exact zk_20
              · rcases Nat.lt_or_ge k 22 with h | h
                · obtain rfl : k = 21 := by omega
                  exact zk_21
                · obtain rfl : k = 22 := by omega
                  exact zk_22
          · rcases Nat.lt_or_ge k 27 with h | h
            · rcases Nat.lt_or_ge k 25 with h | h
              · rcases Nat.lt_or_ge k 24 with h | h
                · obtain rfl : k = 23 := by omega
                  exact zk_23
                · obtain rfl : k = 24 := by omega
                  exact zk_24
              · rcases Nat.lt_or_ge k 26 with h | h
                · obtain rfl : k = 25 := by omega
                  exact zk_25
                · obtain rfl : k = 26 := by omega
                  exact zk_26
            · rcases Nat.lt_or_ge k 29 with h | h
              · rcases Nat.lt_or_ge k 28 with h | h
                · obtain rfl : k = 27 := by omega
                  exact zk_27
                · obtain rfl : k = 28 := by omega
                  exact zk_28
              · rcases Nat.lt_or_ge k 30 with h | h
                · obtain rfl : k = 29 := by omega
                  exact zk_29
                · obtain rfl : k = 30 := by omega
                  exact zk_30
      · rcases Nat.lt_or_ge k 46 with h | h
        · rcases Nat.lt_or_ge k 38 with h | h
          · rcases Nat.lt_or_ge k 34 with h | h
            · rcases Nat.lt_or_ge k 32 with h | h
              · obtain rfl : k = 31 := by omega
                exact zk_31
              · rcases Nat.lt_or_ge k 33 with h | h
                · obtain rfl : k = 32 := by omega
                  exact zk_32
                · obtain rfl : k = 33 := by omega
                  exact zk_33
            · rcases Nat.lt_or_ge k 36 with h | h
              · rcases Nat.lt_or_ge k 35 with h | h
                · obtain rfl : k = 34 := by omega
                  exact zk_34
                · obtain rfl : k = 35 := by omega
                  exact zk_35
              · rcases Nat.lt_or_ge k 37 with h | h
                · obtain rfl : k = 36 := by omega
                  exact zk_36
                · obtain rfl : k = 37 := by omega
                  exact zk_37
          · rcases Nat.lt_or_ge k 42 with h | h
            · rcases Nat.lt_or_ge k 40 with h | h
              · rcases Nat.lt_or_ge k 39 with h | h
                · obtain rfl : k = 38 := by omega
                  exact zk_38
                · obtain rfl : k = 39 := by omega
                  exact zk_39
              · rcases Nat.lt_or_ge k 41 with h | h
                · obtain rfl : k = 40 := by omega
                  exact zk_40
                · obtain rfl : k = 41 := by omega
                  exact zk_41
            · rcases Nat.lt_or_ge k 44 with h | h
              · rcases Nat.lt_or_ge k 43 with h | h
                · obtain rfl : k = 42 := by omega
                  exact zk_42
                · obtain rfl : k = 43 := by omega
                  exact zk_43
              · rcases Nat.lt_or_ge k 45 with h | h
                · obtain rfl : k = 44 := by omega
                  exact zk_44
                · obtain rfl : k = 45 := by omega
                  exact zk_45
        · rcases Nat.lt_or_ge k 54 with h | h
          · rcases Nat.lt_or_ge k 50 with h | h
            · rcases Nat.lt_or_ge k 48 with h | h
              · rcases Nat.lt_or_ge k 47 with h | h
                · obtain rfl : k = 46 := by omega
                  exact zk_46
                · obtain rfl : k = 47 := by omega
                  exact zk_47
              · rcases Nat.lt_or_ge k 49 with h | h
                · obtain rfl : k = 48 := by omega
                  exact zk_48
                · obtain rfl : k = 49 := by omega
                  exact zk_49
            · rcases Nat.lt_or_ge k 52 with h | h
              · rcases Nat.lt_or_ge k 51 with h | h
                · obtain rfl : k = 50 := by omega
                  exact zk_50
                · obtain rfl : k = 51 := by omega
                  exact zk_51
              · rcases Nat.lt_or_ge k 53 with h | h
                · obtain rfl : k = 52 := by omega
                  exact zk_52
                · obtain rfl : k = 53 := by omega
                  exact zk_53
          · rcases Nat.lt_or_ge k 58 with h | h
            · rcases Nat.lt_or_ge k 56 with h | h
              · rcases Nat.lt_or_ge k 55 with h | h
                · obtain rfl : k = 54 := by omega
                  exact zk_54
                · obtain rfl : k = 55 := by omega
                  exact zk_55
              · rcases Nat.lt_or_ge k 57 with h | h
                · obtain rfl : k = 56 := by omega
                  exact zk_56
                · obtain rfl : k = 57 := by omega
                  exact zk_57
            · rcases Nat.lt_or_ge k 60 with h | h
              · rcases Nat.lt_or_ge k 59 with h | h
                · obtain rfl : k = 58 := by omega
                  exact zk_58
                · obtain rfl : k = 59 := by omega
                  exact zk_59
              · rcases Nat.lt_or_ge k 61 with h | h
                · obtain rfl : k = 60 := by omega
                  exact zk_60
                · obtain rfl : k = 61 := by omega
                  exact zk_61
    · rcases Nat.lt_or_ge k 93 with h | h
      · rcases Nat.lt_or_ge k 77 with h | h
        · rcases Nat.lt_or_ge k 69 with h | h
          · rcases Nat.lt_or_ge k 65 with h | h
            · rcases Nat.lt_or_ge k 63 with h | h
              · obtain rfl : k = 62 := by omega
                exact zk_62
              · rcases Nat.lt_or_ge k 64 with h | h
                · obtain rfl : k = 63 := by omega
                  exact zk_63
                · obtain rfl : k = 64 := by omega
                  exact zk_64
            · rcases Nat.lt_or_ge k 67 with h | h
              · rcases Nat.lt_or_ge k 66 with h | h
                · obtain rfl : k = 65 := by omega
                  exact zk_65
                · obtain rfl : k = 66 := by omega
                  exact zk_66
              · rcases Nat.lt_or_ge k 68 with h | h
                · obtain rfl : k = 67 := by omega
                  exact zk_67
                · obtain rfl : k = 68 := by omega
                  exact zk_68
          · rcases Nat.lt_or_ge k 73 with h | h
            · rcases Nat.lt_or_ge k 71 with h | h
              · rcases Nat.lt_or_ge k 70 with h | h
                · obtain rfl : k = 69 := by omega
                  exact zk_69
                · obtain rfl : k = 70 := by omega
                  exact zk_70
              · rcases Nat.lt_or_ge k 72 with h | h
                · obtain rfl : k = 71 := by omega
                  exact zk_71
                · obtain rfl : k = 72 := by omega
                  exact zk_72
            · rcases Nat.lt_or_ge k 75 with h | h
              · rcases Nat.lt_or_ge k 74 with h | h
                · obtain rfl : k = 73 := by omega
                  exact zk_73
                · obtain rfl : k = 74 := by omega
                  exact zk_74
              · rcases Nat.lt_or_ge k 76 with h | h
                · obtain rfl : k = 75 := by omega
                  exact zk_75
                · obtain rfl : k = 76 := by omega
                  exact zk_76
        · rcases Nat.lt_or_ge k 85 with h | h
          · rcases Nat.lt_or_ge k 81 with h | h
            · rcases Nat.lt_or_ge k 79 with h | h
              · rcases Nat.lt_or_ge k 78 with h | h
                · obtain rfl : k = 77 := by omega
                  exact zk_77
                · obtain rfl : k = 78 := by omega
                  exact zk_78
              · rcases Nat.lt_or_ge k 80 with h | h
                · obtain rfl : k = 79 := by omega
                  exact zk_79
                · obtain rfl : k = 80 := by omega
                  exact zk_80
            · rcases Nat.lt_or_ge k 83 with h | h
              · rcases Nat.lt_or_ge k 82 with h | h
                · obtain rfl : k = 81 := by omega
                  exact zk_81
                · obtain rfl : k = 82 := by omega
                  exact zk_82
              · rcases Nat.lt_or_ge k 84 with h | h
                · obtain rfl : k = 83 := by omega
                  exact zk_83
                · obtain rfl : k = 84 := by omega
                  exact zk_84
          · rcases Nat.lt_or_ge k 89 with h | h
            · rcases Nat.lt_or_ge k 87 with h | h
              · rcases Nat.lt_or_ge k 86 with h | h
                · obtain rfl : k = 85 := by omega
                  exact zk_85
                · obtain rfl : k = 86 := by omega
                  exact zk_86
              · rcases Nat.lt_or_ge k 88 with h | h
                · obtain rfl : k = 87 := by omega
                  exact zk_87
                · obtain rfl : k = 88 := by omega
                  exact zk_88
            · rcases Nat.lt_or_ge k 91 with h | h
              · rcases Nat.lt_or_ge k 90 with h | h
                · obtain rfl : k = 89 := by omega
                  exact zk_89
                · obtain rfl : k = 90 := by omega
                  exact zk_90
              · rcases Nat.lt_or_ge k 92 with h | h
                · obtain rfl : k = 91 := by omega
                  exact zk_91
                · obtain rfl : k = 92 := by omega
                  exact zk_92
      · rcases Nat.lt_or_ge k 108 with h | h
        · rcases Nat.lt_or_ge k 100 with h | h
          · rcases Nat.lt_or_ge k 96 with h | h
            · rcases Nat.lt_or_ge k 94 with h | h
              · obtain rfl : k = 93 := by omega
                exact zk_93
              · rcases Nat.lt_or_ge k 95 with h | h
                · obtain rfl : k = 94 := by omega
                  exact zk_94
                · obtain rfl : k = 95 := by omega
                  exact zk_95
            · rcases Nat.lt_or_ge k 98 with h | h
              · rcases Nat.lt_or_ge k 97 with h | h
                · obtain rfl : k = 96 := by omega
                  exact zk_96
                · obtain rfl : k = 97 := by omega
                  exact zk_97
              · rcases Nat.lt_or_ge k 99 with h | h
                · obtain rfl : k = 98 := by omega
                  exact zk_98
                · obtain rfl : k = 99 := by omega
                  exact zk_99
          · rcases Nat.lt_or_ge k 104 with h | h
            · rcases Nat.lt_or_ge k 102 with h | h
              · rcases Nat.lt_or_ge k 101 with h | h
                · obtain rfl : k = 100 := by omega
                  exact zk_100
                · obtain rfl : k = 101 := by omega
                  exact zk_101
              · rcases Nat.lt_or_ge k 103 with h | h
                · obtain rfl : k = 102 := by omega
                  exact zk_102
                · obtain rfl : k = 103 := by omega
                  exact zk_103
            · rcases Nat.lt_or_ge k 106 with h | h
              · rcases Nat.lt_or_ge k 105 with h | h
                · obtain rfl : k = 104 := by omega
                  exact zk_104
                · obtain rfl : k = 105 := by omega
                  exact zk_105
              · rcases Nat.lt_or_ge k 107 with h | h
                · obtain rfl : k = 106 := by omega
                  exact zk_106
                · obtain rfl : k = 107 := by omega
                  exact zk_107
        · rcases Nat.lt_or_ge k 116 with h | h
          · rcases Nat.lt_or_ge k 112 with h | h
            · rcases Nat.lt_or_ge k 110 with h | h
              · rcases Nat.lt_or_ge k 109 with h | h
                · obtain rfl : k = 108 := by omega
                  exact zk_108
                · obtain rfl : k = 109 := by omega
                  exact zk_109
              · rcases Nat.lt_or_ge k 111 with h | h
                · obtain rfl : k = 110 := by omega
                  exact zk_110
                · obtain rfl : k = 111 := by omega
                  exact zk_111
            · rcases Nat.lt_or_ge k 114 with h | h
              · rcases Nat.lt_or_ge k 113 with h | h
                · obtain rfl : k = 112 := by omega
                  exact zk_112
                · obtain rfl : k = 113 := by omega
                  exact zk_113
              · rcases Nat.lt_or_ge k 115 with h | h
                · obtain rfl : k = 114 := by omega
                  exact zk_114
                · obtain rfl : k = 115 := by omega
                  exact zk_115
          · rcases Nat.lt_or_ge k 120 with h | h
            · rcases Nat.lt_or_ge k 118 with h | h
              · rcases Nat.lt_or_ge k 117 with h | h
                · obtain rfl : k = 116 := by omega
                  exact zk_116
                · obtain rfl : k = 117 := by omega
                  exact zk_117
              · rcases Nat.lt_or_ge k 119 with h | h
                · obtain rfl : k = 118 := by omega
                  exact zk_118
                · obtain rfl : k = 119 := by omega
                  exact zk_119
            · rcases Nat.lt_or_ge k 122 with h | h
              · rcases Nat.lt_or_ge k 121 with h | h
                · obtain rfl : k = 120 := by omega
                  exact zk_120
                · obtain rfl : k = 121 := by omega
                  exact zk_121
              · rcases Nat.lt_or_ge k 123 with h | h
                · obtain rfl : k = 122 := by omega
                  exact zk_122
                · obtain rfl : k = 123 := by omega
                  exact zk_123
  · rcases Nat.lt_or_ge k 186 with h | h
    · rcases Nat.lt_or_ge k 155 with h | h
      · rcases Nat.lt_or_ge k 139 with h | h
        · rcases Nat.lt_or_ge k 131 with h | h
          · rcases Nat.lt_or_ge k 127 with h | h
            · rcases Nat.lt_or_ge k 125 with h | h
              · obtain rfl : k = 124 := by omega
                exact zk_124
              · rcases Nat.lt_or_ge k 126 with h | h
                · obtain rfl : k = 125 := by omega
                  exact zk_125
                · obtain rfl : k = 126 := by omega
                  exact zk_126
            · rcases Nat.lt_or_ge k 129 with h | h
              · rcases Nat.lt_or_ge k 128 with h | h
                · obtain rfl : k = 127 := by omega
                  exact zk_127
                · obtain rfl : k = 128 := by omega
                  exact zk_128
              · rcases Nat.lt_or_ge k 130 with h | h
                · obtain rfl : k = 129 := by omega
                  exact zk_129
                · obtain rfl : k = 130 := by omega
                  exact zk_130
          · rcases Nat.lt_or_ge k 135 with h | h
            · rcases Nat.lt_or_ge k 133 with h | h
              · rcases Nat.lt_or_ge k 132 with h | h
                · obtain rfl : k = 131 := by omega
                  exact zk_131
                · obtain rfl : k = 132 := by omega
                  exact zk_132
              · rcases Nat.lt_or_ge k 134 with h | h
                · obtain rfl : k = 133 := by omega
                  exact zk_133
                · obtain rfl : k = 134 := by omega
                  exact zk_134
            · rcases Nat.lt_or_ge k 137 with h | h
              · rcases Nat.lt_or_ge k 136 with h | h
                · obtain rfl : k = 135 := by omega
                  exact zk_135
                · obtain rfl : k = 136 := by omega
                  exact zk_136
              · rcases Nat.lt_or_ge k 138 with h | h
                · obtain rfl : k = 137 := by omega
                  exact zk_137
                · obtain rfl : k = 138 := by omega
                  exact zk_138
        · rcases Nat.lt_or_ge k 147 with h | h
          · rcases Nat.lt_or_ge k 143 with h | h
            · rcases Nat.lt_or_ge k 141 with h | h
              · rcases Nat.lt_or_ge k 140 with h | h
                · obtain rfl : k = 139 := by omega
                  exact zk_139
                · obtain rfl : k = 140 := by omega
                  exact zk_140
              · rcases Nat.lt_or_ge k 142 with h | h
                · obtain rfl : k = 141 := by omega
                  exact zk_141
                · obtain rfl : k = 142 := by omega
                  exact zk_142
            · rcases Nat.lt_or_ge k 145 with h | h
              · rcases Nat.lt_or_ge k 144 with h | h
                · obtain rfl : k = 143 := by omega
                  exact zk_143
                · obtain rfl : k = 144 := by omega
                  exact zk_144
              · rcases Nat.lt_or_ge k 146 with h | h
                · obtain rfl : k = 145 := by omega
                  exact zk_145
                · obtain rfl : k = 146 := by omega
                  exact zk_146
          · rcases Nat.lt_or_ge k 151 with h | h
            · rcases Nat.lt_or_ge k 149 with h | h
              · rcases Nat.lt_or_ge k 148 with h | h
                · obtain rfl : k = 147 := by omega
                  exact zk_147
                · obtain rfl : k = 148 := by omega
                  exact zk_148
              · rcases Nat.lt_or_ge k 150 with h | h
                · obtain rfl : k = 149 := by omega
                  exact zk_149
                · obtain rfl : k = 150 := by omega
                  exact zk_150
            · rcases Nat.lt_or_ge k 153 with h | h
              · rcases Nat.lt_or_ge k 152 with h | h
                · obtain rfl : k = 151 := by omega
                  exact zk_151
                · obtain rfl : k = 152 := by omega
                  exact zk_152
              · rcases Nat.lt_or_ge k 154 with h | h
                · obtain rfl : k = 153 := by omega
                  exact zk_153
                · obtain rfl : k = 154 := by omega
                  exact zk_154
      · rcases Nat.lt_or_ge k 170 with h | h
        · rcases Nat.lt_or_ge k 162 with h | h
          · rcases Nat.lt_or_ge k 158 with h | h
            · rcases Nat.lt_or_ge k 156 with h | h
              · obtain rfl : k = 155 := by omega
                exact zk_155
              · rcases Nat.lt_or_ge k 157 with h | h
                · obtain rfl : k = 156 := by omega
                  exact zk_156
                · obtain rfl : k = 157 := by omega
                  exact zk_157
            · rcases Nat.lt_or_ge k 160 with h | h
              · rcases Nat.lt_or_ge k 159 with h | h
                · obtain rfl : k = 158 := by omega
                  exact zk_158
                · obtain rfl : k = 159 := by omega
                  exact zk_159
              · rcases Nat.lt_or_ge k 161 with h | h
                · obtain rfl : k = 160 := by omega
                  exact zk_160
                · obtain rfl : k = 161 := by omega
                  exact zk_161
          · rcases Nat.lt_or_ge k 166 with h | h
            · rcases Nat.lt_or_ge k 164 with h | h
              · rcases Nat.lt_or_ge k 163 with h | h
                · obtain rfl : k = 162 := by omega
                  exact zk_162
                · obtain rfl : k = 163 := by omega
                  exact zk_163
              · rcases Nat.lt_or_ge k 165 with h | h
                · obtain rfl : k = 164 := by omega
                  exact zk_164
                · obtain rfl : k = 165 := by omega
                  exact zk_165
            · rcases Nat.lt_or_ge k 168 with h | h
              · rcases Nat.lt_or_ge k 167 with h | h
                · obtain rfl : k = 166 := by omega
                  exact zk_166
                · obtain rfl : k = 167 := by omega
                  exact zk_167
              · rcases Nat.lt_or_ge k 169 with h | h
                · obtain rfl : k = 168 := by omega
                  exact zk_168
                · obtain rfl : k = 169 := by omega
                  exact zk_169
        · rcases Nat.lt_or_ge k 178 with h | h
          · rcases Nat.lt_or_ge k 174 with h | h
            · rcases Nat.lt_or_ge k 172 with h | h
              · rcases Nat.lt_or_ge k 171 with h | h
                · obtain rfl : k = 170 := by omega
                  exact zk_170
                · obtain rfl : k = 171 := by omega
                  exact zk_171
              · rcases Nat.lt_or_ge k 173 with h | h
                · obtain rfl : k = 172 := by omega
                  exact zk_172
                · obtain rfl : k = 173 := by omega
                  exact zk_173
            · rcases Nat.lt_or_ge k 176 with h | h
              · rcases Nat.lt_or_ge k 175 with h | h
                · obtain rfl : k = 174 := by omega
                  exact zk_174
                · obtain rfl : k = 175 := by omega
                  exact zk_175
              · rcases Nat.lt_or_ge k 177 with h | h
                · obtain rfl : k = 176 := by omega
                  exact zk_176
                · obtain rfl : k = 177 := by omega
                  exact zk_177
          · rcases Nat.lt_or_ge k 182 with h | h
            · rcases Nat.lt_or_ge k 180 with h | h
              · rcases Nat.lt_or_ge k 179 with h | h
                · obtain rfl : k = 178 := by omega
                  exact zk_178
                · obtain rfl : k = 179 := by omega
                  exact zk_179
              · rcases Nat.lt_or_ge k 181 with h | h
                · obtain rfl : k = 180 := by omega
                  exact zk_180
                · obtain rfl : k = 181 := by omega
                  exact zk_181
            · rcases Nat.lt_or_ge k 184 with h | h
              · rcases Nat.lt_or_ge k 183 with h | h
                · obtain rfl : k = 182 := by omega
                  exact zk_182
                · obtain rfl : k = 183 := by omega
                  exact zk_183
              · rcases Nat.lt_or_ge k 185 with h | h
                · obtain rfl : k = 184 := by omega
                  exact zk_184
                · obtain rfl : k = 185 := by omega
                  exact zk_185
    · rcases Nat.lt_or_ge k 217 with h | h
      · rcases Nat.lt_or_ge k 201 with h | h
        · rcases Nat.lt_or_ge k 193 with h | h
          · rcases Nat.lt_or_ge k 189 with h | h
            · rcases Nat.lt_or_ge k 187 with h | h
              · obtain rfl : k = 186 := by omega
                exact zk_186
              · rcases Nat.lt_or_ge k 188 with h | h
                · obtain rfl : k = 187 := by omega
                  exact zk_187
                · obtain rfl : k = 188 := by omega
                  exact zk_188
            · rcases Nat.lt_or_ge k 191 with h | h
              · rcases Nat.lt_or_ge k 190 with h | h
                · obtain rfl : k = 189 := by omega
                  exact zk_189
                · obtain rfl : k = 190 := by omega
                  exact zk_190
              · rcases Nat.lt_or_ge k 192 with h | h
                · obtain rfl : k = 191 := by omega
                  exact zk_191
                · obtain rfl : k = 192 := by omega
                  exact zk_192
          · rcases Nat.lt_or_ge k 197 with h | h
            · rcases Nat.lt_or_ge k 195 with h | h
              · rcases Nat.lt_or_ge k 194 with h | h
                · obtain rfl : k = 193 := by omega
                  exact zk_193
                · obtain rfl : k = 194 := by omega
                  exact zk_194
              · rcases Nat.lt_or_ge k 196 with h | h
                · obtain rfl : k = 195 := by omega
                  exact zk_195
                · obtain rfl : k = 196 := by omega
                  exact zk_196
            · rcases Nat.lt_or_ge k 199 with h | h
              · rcases Nat.lt_or_ge k 198 with h | h
                · obtain rfl : k = 197 := by omega
                  exact zk_197
                · obtain rfl : k = 198 := by omega
                  exact zk_198
              · rcases Nat.lt_or_ge k 200 with h | h
                · obtain rfl : k = 199 := by omega
                  exact zk_199
                · obtain rfl : k = 200 := by omega
                  exact zk_200
        · rcases Nat.lt_or_ge k 209 with h | h
          · rcases Nat.lt_or_ge k 205 with h | h
            · rcases Nat.lt_or_ge k 203 with h | h
              · rcases Nat.lt_or_ge k 202 with h | h
                · obtain rfl : k = 201 := by omega
                  exact zk_201
                · obtain rfl : k = 202 := by omega
                  exact zk_202
              · rcases Nat.lt_or_ge k 204 with h | h
                · obtain rfl : k = 203 := by omega
                  exact zk_203
                · obtain rfl : k = 204 := by omega
                  exact zk_204
            · rcases Nat.lt_or_ge k 207 with h | h
              · rcases Nat.lt_or_ge k 206 with h | h
                · obtain rfl : k = 205 := by omega
                  exact zk_205
                · obtain rfl : k = 206 := by omega
                  exact zk_206
              · rcases Nat.lt_or_ge k 208 with h | h
                · obtain rfl : k = 207 := by omega
                  exact zk_207
                · obtain rfl : k = 208 := by omega
                  exact zk_208
          · rcases Nat.lt_or_ge k 213 with h | h
            · rcases Nat.lt_or_ge k 211 with h | h
              · rcases Nat.lt_or_ge k 210 with h | h
                · obtain rfl : k = 209 := by omega
                  exact zk_209
                · obtain rfl : k = 210 := by omega
                  exact zk_210
              · rcases Nat.lt_or_ge k 212 with h | h
                · obtain rfl : k = 211 := by omega
                  exact zk_211
                · obtain rfl : k = 212 := by omega
                  exact zk_212
            · rcases Nat.lt_or_ge k 215 with h | h
              · rcases Nat.lt_or_ge k 214 with h | h
                · obtain rfl : k = 213 := by omega
                  exact zk_213
                · obtain rfl : k = 214 := by omega
                  exact zk_214
              · rcases Nat.lt_or_ge k 216 with h | h
                · obtain rfl : k = 215 := by omega
                  exact zk_215
                · obtain rfl : k = 216 := by omega
                  exact zk_216
      · rcases Nat.lt_or_ge k 233 with h | h
        · rcases Nat.lt_or_ge k 225 with h | h
          · rcases Nat.lt_or_ge k 221 with h | h
            · rcases Nat.lt_or_ge k 219 with h | h
              · rcases Nat.lt_or_ge k 218 with h | h
                · obtain rfl : k = 217 := by omega
                  exact zk_217
                · obtain rfl : k = 218 := by omega
                  exact zk_218
              · rcases Nat.lt_or_ge k 220 with h | h
                · obtain rfl : k = 219 := by omega
                  exact zk_219
                · obtain rfl : k = 220 := by omega
                  exact zk_220
            · rcases Nat.lt_or_ge k 223 with h | h
              · rcases Nat.lt_or_ge k 222 with h | h
                · obtain rfl : k = 221 := by omega
                  exact zk_221
                · obtain rfl : k = 222 := by omega
                  exact zk_222
              · rcases Nat.lt_or_ge k 224 with h | h
                · obtain rfl : k = 223 := by omega
                  exact zk_223
                · obtain rfl : k = 224 := by omega
                  exact zk_224
          · rcases Nat.lt_or_ge k 229 with h | h
            · rcases Nat.lt_or_ge k 227 with h | h
              · rcases Nat.lt_or_ge k 226 with h | h
                · obtain rfl : k = 225 := by omega
                  exact zk_225
                · obtain rfl : k = 226 := by omega
                  exact zk_226
              · rcases Nat.lt_or_ge k 228 with h | h
                · obtain rfl : k = 227 := by omega
                  exact zk_227
                · obtain rfl : k = 228 := by omega
                  exact zk_228
            · rcases Nat.lt_or_ge k 231 with h | h
              · rcases Nat.lt_or_ge k 230 with h | h
                · obtain rfl : k = 229 := by omega
                  exact zk_229
                · obtain rfl : k = 230 := by omega
                  exact zk_230
              · rcases Nat.lt_or_ge k 232 with h | h
                · obtain rfl : k = 231 := by omega
                  exact zk_231
                · obtain rfl : k = 232 := by omega
                  exact zk_232
        · rcases Nat.lt_or_ge k 241 with h | h
          · rcases Nat.lt_or_ge k 237 with h | h
            · rcases Nat.lt_or_ge k 235 with h | h
              · rcases Nat.lt_or_ge k 234 with h | h
                · obtain rfl : k = 233 := by omega
                  exact zk_233
                · obtain rfl : k = 234 := by omega
                  exact zk_234
              · rcases Nat.lt_or_ge k 236 with h | h
                · obtain rfl : k = 235 := by omega
                  exact zk_235
                · obtain rfl : k = 236 := by omega
                  exact zk_236
            · rcases Nat.lt_or_ge k 239 with h | h
              · rcases Nat.lt_or_ge k 238 with h | h
                · obtain rfl : k = 237 := by omega
                  exact zk_237
                · obtain rfl : k = 238 := by omega
                  exact zk_238
              · rcases Nat.lt_or_ge k 240 with h | h
                · obtain rfl : k = 239 := by omega
                  exact zk_239
                · obtain rfl : k = 240 := by omega
                  exact zk_240
          · rcases Nat.lt_or_ge k 245 with h | h
            · rcases Nat.lt_or_ge k 243 with h | h
              · rcases Nat.lt_or_ge k 242 with h | h
                · obtain rfl : k = 241 := by omega
                  exact zk_241
                · obtain rfl : k = 242 := by omega
                  exact zk_242
              · rcases Nat.lt_or_ge k 244 with h | h
                · obtain rfl : k = 243 := by omega
                  exact zk_243
                · obtain rfl : k = 244 := by omega
                  exact zk_244
            · rcases Nat.lt_or_ge k 247 with h | h
              · rcases Nat.lt_or_ge k 246 with h | h
                · obtain rfl : k = 245 := by omega
                  exact zk_245
                · obtain rfl : k = 246 := by omega
                  exact zk_246
              · rcases Nat.lt_or_ge k 248 with h | h
                · obtain rfl : k = 247 := by omega
                  exact zk_247
                · obtain rfl : k = 248 := by omega
                  exact zk_248
theorem zk_pl : ∀ k, k < xmCount → plainFor (xmY k) = true := by decide +kernel
theorem zk_all : ∀ k, k < xmCount → plainFor (xmY k) = true ∧ ∀ pc i, xmCd k pc = some i → xmOK k pc i := fun k hk => ⟨zk_pl k hk, okM_ok zk_c (fun j hj => zk_t j (by have e : xmCount = 249 := rfl; omega)) (zk_m k hk)⟩
/-- the little machine tells the truth -/
theorem zk_sound {l : Launch} {V : xmV} : ∀ (d k : Nat) (av : List Value) (G : xmH) (r : Option Value) (G' : xmH), xmCall V d k av G r G' → xmLe G G' ∧ xmMet l V k av r G G' := xmCall_sound zk_all
