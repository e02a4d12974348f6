/-! the code against the bytes, method by method -/
theorem om_0 : okM 0 = true := by decide +kernel
theorem om_1 : okM 1 = true := by decide +kernel
theorem om_2 : okM 2 = true := by decide +kernel
theorem om_3 : okM 3 = true := by decide +kernel
theorem om_4 : okM 4 = true := by decide +kernel
theorem om_5 : okM 5 = true := by decide +kernel
theorem om_6 : okM 6 = true := by decide +kernel
theorem om_7 : okM 7 = true := by decide +kernel
theorem om_8 : okM 8 = true := by decide +kernel
theorem om_9 : okM 9 = true := by decide +kernel
theorem om_10 : okM 10 = true := by decide +kernel
theorem om_11 : okM 11 = true := by decide +kernel
theorem om_12 : okM 12 = true := by decide +kernel
theorem om_13 : okM 13 = true := by decide +kernel
theorem om_14 : okM 14 = true := by decide +kernel
theorem om_15 : okM 15 = true := by decide +kernel
theorem om_16 : okM 16 = true := by decide +kernel
theorem om_17 : okM 17 = true := by decide +kernel
theorem om_18 : okM 18 = true := by decide +kernel
theorem om_19 : okM 19 = true := by decide +kernel
theorem om_20 : okM 20 = true := by decide +kernel
theorem om_21 : okM 21 = true := by decide +kernel
theorem om_22 : okM 22 = true := by decide +kernel
theorem om_23 : okM 23 = true := by decide +kernel
theorem om_24 : okM 24 = true := by decide +kernel
theorem om_25 : okM 25 = true := by decide +kernel
theorem om_26 : okM 26 = true := by decide +kernel
theorem om_27 : okM 27 = true := by decide +kernel
theorem om_28 : okM 28 = true := by decide +kernel
theorem om_29 : okM 29 = true := by decide +kernel
theorem om_30 : okM 30 = true := by decide +kernel
theorem om_31 : okM 31 = true := by decide +kernel
theorem om_32 : okM 32 = true := by decide +kernel
theorem om_33 : okM 33 = true := by decide +kernel
theorem om_34 : okM 34 = true := by decide +kernel
theorem om_35 : okM 35 = true := by decide +kernel
theorem om_36 : okM 36 = true := by decide +kernel
theorem om_37 : okM 37 = true := by decide +kernel
theorem om_38 : okM 38 = true := by decide +kernel
theorem om_39 : okM 39 = true := by decide +kernel
theorem om_40 : okM 40 = true := by decide +kernel
theorem om_41 : okM 41 = true := by decide +kernel
theorem om_42 : okM 42 = true := by decide +kernel
theorem om_43 : okM 43 = true := by decide +kernel
theorem om_44 : okM 44 = true := by decide +kernel
theorem om_45 : okM 45 = true := by decide +kernel
theorem om_46 : okM 46 = true := by decide +kernel
theorem om_47 : okM 47 = true := by decide +kernel
theorem om_48 : okM 48 = true := by decide +kernel
theorem om_49 : okM 49 = true := by decide +kernel
theorem om_50 : okM 50 = true := by decide +kernel
theorem om_51 : okM 51 = true := by decide +kernel
theorem om_52 : okM 52 = true := by decide +kernel
theorem om_53 : okM 53 = true := by decide +kernel
theorem om_54 : okM 54 = true := by decide +kernel
theorem om_55 : okM 55 = true := by decide +kernel
theorem om_56 : okM 56 = true := by decide +kernel
theorem om_57 : okM 57 = true := by decide +kernel
theorem om_58 : okM 58 = true := by decide +kernel
theorem om_59 : okM 59 = true := by decide +kernel
theorem om_60 : okM 60 = true := by decide +kernel
theorem om_61 : okM 61 = true := by decide +kernel
theorem om_62 : okM 62 = true := by decide +kernel
theorem om_63 : okM 63 = true := by decide +kernel
theorem om_64 : okM 64 = true := by decide +kernel
theorem om_65 : okM 65 = true := by decide +kernel
theorem om_66 : okM 66 = true := by decide +kernel
theorem om_67 : okM 67 = true := by decide +kernel
theorem om_68 : okM 68 = true := by decide +kernel
theorem om_69 : okM 69 = true := by decide +kernel
theorem om_70 : okM 70 = true := by decide +kernel
theorem om_71 : okM 71 = true := by decide +kernel
theorem om_72 : okM 72 = true := by decide +kernel
theorem om_73 : okM 73 = true := by decide +kernel
theorem om_74 : okM 74 = true := by decide +kernel
theorem om_75 : okM 75 = true := by decide +kernel
theorem om_76 : okM 76 = true := by decide +kernel
theorem om_77 : okM 77 = true := by decide +kernel
theorem om_78 : okM 78 = true := by decide +kernel
theorem om_79 : okM 79 = true := by decide +kernel
theorem om_80 : okM 80 = true := by decide +kernel
theorem om_81 : okM 81 = true := by decide +kernel
theorem om_82 : okM 82 = true := by decide +kernel
theorem om_83 : okM 83 = true := by decide +kernel
theorem om_84 : okM 84 = true := by decide +kernel
theorem om_85 : okM 85 = true := by decide +kernel
theorem om_86 : okM 86 = true := by decide +kernel
theorem om_87 : okM 87 = true := by decide +kernel
theorem om_88 : okM 88 = true := by decide +kernel
theorem om_89 : okM 89 = true := by decide +kernel
theorem om_90 : okM 90 = true := by decide +kernel
theorem om_91 : okM 91 = true := by decide +kernel
theorem om_92 : okM 92 = true := by decide +kernel
theorem om_93 : okM 93 = true := by decide +kernel
theorem om_94 : okM 94 = true := by decide +kernel
theorem om_95 : okM 95 = true := by decide +kernel
theorem om_96 : okM 96 = true := by decide +kernel
theorem om_97 : okM 97 = true := by decide +kernel
theorem om_98 : okM 98 = true := by decide +kernel
theorem om_99 : okM 99 = true := by decide +kernel
theorem om_100 : okM 100 = true := by decide +kernel
theorem om_101 : okM 101 = true := by decide +kernel
theorem om_102 : okM 102 = true := by decide +kernel
theorem om_103 : okM 103 = true := by decide +kernel
theorem om_104 : okM 104 = true := by decide +kernel
theorem om_105 : okM 105 = true := by decide +kernel
theorem om_106 : okM 106 = true := by decide +kernel
theorem om_107 : okM 107 = true := by decide +kernel
theorem om_108 : okM 108 = true := by decide +kernel
theorem om_109 : okM 109 = true := by decide +kernel
theorem om_110 : okM 110 = true := by decide +kernel
theorem om_111 : okM 111 = true := by decide +kernel
theorem om_112 : okM 112 = true := by decide +kernel
theorem om_113 : okM 113 = true := by decide +kernel
theorem om_114 : okM 114 = true := by decide +kernel
theorem om_115 : okM 115 = true := by decide +kernel
theorem om_116 : okM 116 = true := by decide +kernel
theorem om_117 : okM 117 = true := by decide +kernel
theorem om_118 : okM 118 = true := by decide +kernel
theorem om_119 : okM 119 = true := by decide +kernel
theorem om_120 : okM 120 = true := by decide +kernel
theorem om_121 : okM 121 = true := by decide +kernel
theorem om_122 : okM 122 = true := by decide +kernel
theorem om_123 : okM 123 = true := by decide +kernel
theorem om_124 : okM 124 = true := by decide +kernel
theorem om_125 : okM 125 = true := by decide +kernel
theorem om_126 : okM 126 = true := by decide +kernel
theorem om_127 : okM 127 = true := by decide +kernel
theorem om_128 : okM 128 = true := by decide +kernel
theorem om_129 : okM 129 = true := by decide +kernel
theorem om_130 : okM 130 = true := by decide +kernel
theorem om_131 : okM 131 = true := by decide +kernel
theorem om_132 : okM 132 = true := by decide +kernel
theorem om_133 : okM 133 = true := by decide +kernel
theorem om_134 : okM 134 = true := by decide +kernel
theorem om_135 : okM 135 = true := by decide +kernel
theorem om_136 : okM 136 = true := by decide +kernel
theorem om_137 : okM 137 = true := by decide +kernel
theorem om_138 : okM 138 = true := by decide +kernel
theorem om_139 : okM 139 = true := by decide +kernel
theorem om_140 : okM 140 = true := by decide +kernel
theorem om_141 : okM 141 = true := by decide +kernel
theorem om_142 : okM 142 = true := by decide +kernel
theorem om_143 : okM 143 = true := by decide +kernel
theorem om_144 : okM 144 = true := by decide +kernel
theorem om_145 : okM 145 = true := by decide +kernel
theorem om_146 : okM 146 = true := by decide +kernel
theorem om_147 : okM 147 = true := by decide +kernel
theorem om_148 : okM 148 = true := by decide +kernel
theorem om_149 : okM 149 = true := by decide +kernel
theorem om_150 : okM 150 = true := by decide +kernel
theorem om_151 : okM 151 = true := by decide +kernel
theorem om_152 : okM 152 = true := by decide +kernel
theorem om_153 : okM 153 = true := by decide +kernel
theorem om_154 : okM 154 = true := by decide +kernel
theorem om_155 : okM 155 = true := by decide +kernel
theorem om_156 : okM 156 = true := by decide +kernel
theorem om_157 : okM 157 = true := by decide +kernel
theorem om_158 : okM 158 = true := by decide +kernel
theorem om_159 : okM 159 = true := by decide +kernel
theorem om_160 : okM 160 = true := by decide +kernel
theorem om_161 : okM 161 = true := by decide +kernel
theorem om_162 : okM 162 = true := by decide +kernel
theorem om_163 : okM 163 = true := by decide +kernel
theorem om_a0 : ∀ k, k < 0 → okM k = true := lt_0
theorem om_a1 : ∀ k, k < 1 → okM k = true := lt_s om_a0 om_0
theorem om_a2 : ∀ k, k < 2 → okM k = true := lt_s om_a1 om_1
theorem om_a3 : ∀ k, k < 3 → okM k = true := lt_s om_a2 om_2
theorem om_a4 : ∀ k, k < 4 → okM k = true := lt_s om_a3 om_3
theorem om_a5 : ∀ k, k < 5 → okM k = true := lt_s om_a4 om_4
theorem om_a6 : ∀ k, k < 6 → okM k = true := lt_s om_a5 om_5
theorem om_a7 : ∀ k, k < 7 → okM k = true := lt_s om_a6 om_6
theorem om_a8 : ∀ k, k < 8 → okM k = true := lt_s om_a7 om_7
theorem om_a9 : ∀ k, k < 9 → okM k = true := lt_s om_a8 om_8
theorem om_a10 : ∀ k, k < 10 → okM k = true := lt_s om_a9 om_9
theorem om_a11 : ∀ k, k < 11 → okM k = true := lt_s om_a10 om_10
theorem om_a12 : ∀ k, k < 12 → okM k = true := lt_s om_a11 om_11
theorem om_a13 : ∀ k, k < 13 → okM k = true := lt_s om_a12 om_12
theorem om_a14 : ∀ k, k < 14 → okM k = true := lt_s om_a13 om_13
theorem om_a15 : ∀ k, k < 15 → okM k = true := lt_s om_a14 om_14
theorem om_a16 : ∀ k, k < 16 → okM k = true := lt_s om_a15 om_15
theorem om_a17 : ∀ k, k < 17 → okM k = true := lt_s om_a16 om_16
theorem om_a18 : ∀ k, k < 18 → okM k = true := lt_s om_a17 om_17
theorem om_a19 : ∀ k, k < 19 → okM k = true := lt_s om_a18 om_18
theorem om_a20 : ∀ k, k < 20 → okM k = true := lt_s om_a19 om_19
theorem om_a21 : ∀ k, k < 21 → okM k = true := lt_s om_a20 om_20
theorem om_a22 : ∀ k, k < 22 → okM k = true := lt_s om_a21 om_21
theorem om_a23 : ∀ k, k < 23 → okM k = true := lt_s om_a22 om_22
theorem om_a24 : ∀ k, k < 24 → okM k = true := lt_s om_a23 om_23
theorem om_a25 : ∀ k, k < 25 → okM k = true := lt_s om_a24 om_24
theorem om_a26 : ∀ k, k < 26 → okM k = true := lt_s om_a25 om_25
theorem om_a27 : ∀ k, k < 27 → okM k = true := lt_s om_a26 om_26
theorem om_a28 : ∀ k, k < 28 → okM k = true := lt_s om_a27 om_27
theorem om_a29 : ∀ k, k < 29 → okM k = true := lt_s om_a28 om_28
theorem om_a30 : ∀ k, k < 30 → okM k = true := lt_s om_a29 om_29
theorem om_a31 : ∀ k, k < 31 → okM k = true := lt_s om_a30 om_30
theorem om_a32 : ∀ k, k < 32 → okM k = true := lt_s om_a31 om_31
theorem om_a33 : ∀ k, k < 33 → okM k = true := lt_s om_a32 om_32
theorem om_a34 : ∀ k, k < 34 → okM k = true := lt_s om_a33 om_33
theorem om_a35 : ∀ k, k < 35 → okM k = true := lt_s om_a34 om_34
theorem om_a36 : ∀ k, k < 36 → okM k = true := lt_s om_a35 om_35
theorem om_a37 : ∀ k, k < 37 → okM k = true := lt_s om_a36 om_36
theorem om_a38 : ∀ k, k < 38 → okM k = true := lt_s om_a37 om_37
theorem om_a39 : ∀ k, k < 39 → okM k = true := lt_s om_a38 om_38
theorem om_a40 : ∀ k, k < 40 → okM k = true := lt_s om_a39 om_39
theorem om_a41 : ∀ k, k < 41 → okM k = true := lt_s om_a40 om_40
theorem om_a42 : ∀ k, k < 42 → okM k = true := lt_s om_a41 om_41
theorem om_a43 : ∀ k, k < 43 → okM k = true := lt_s om_a42 om_42
theorem om_a44 : ∀ k, k < 44 → okM k = true := lt_s om_a43 om_43
theorem om_a45 : ∀ k, k < 45 → okM k = true := lt_s om_a44 om_44
theorem om_a46 : ∀ k, k < 46 → okM k = true := lt_s om_a45 om_45
theorem om_a47 : ∀ k, k < 47 → okM k = true := lt_s om_a46 om_46
theorem om_a48 : ∀ k, k < 48 → okM k = true := lt_s om_a47 om_47
theorem om_a49 : ∀ k, k < 49 → okM k = true := lt_s om_a48 om_48
theorem om_a50 : ∀ k, k < 50 → okM k = true := lt_s om_a49 om_49
theorem om_a51 : ∀ k, k < 51 → okM k = true := lt_s om_a50 om_50
theorem om_a52 : ∀ k, k < 52 → okM k = true := lt_s om_a51 om_51
theorem om_a53 : ∀ k, k < 53 → okM k = true := lt_s om_a52 om_52
theorem om_a54 : ∀ k, k < 54 → okM k = true := lt_s om_a53 om_53
theorem om_a55 : ∀ k, k < 55 → okM k = true := lt_s om_a54 om_54
theorem om_a56 : ∀ k, k < 56 → okM k = true := lt_s om_a55 om_55
theorem om_a57 : ∀ k, k < 57 → okM k = true := lt_s om_a56 om_56
theorem om_a58 : ∀ k, k < 58 → okM k = true := lt_s om_a57 om_57
theorem om_a59 : ∀ k, k < 59 → okM k = true := lt_s om_a58 om_58
theorem om_a60 : ∀ k, k < 60 → okM k = true := lt_s om_a59 om_59
theorem om_a61 : ∀ k, k < 61 → okM k = true := lt_s om_a60 om_60
theorem om_a62 : ∀ k, k < 62 → okM k = true := lt_s om_a61 om_61
theorem om_a63 : ∀ k, k < 63 → okM k = true := lt_s om_a62 om_62
theorem om_a64 : ∀ k, k < 64 → okM k = true := lt_s om_a63 om_63
theorem om_a65 : ∀ k, k < 65 → okM k = true := lt_s om_a64 om_64
theorem om_a66 : ∀ k, k < 66 → okM k = true := lt_s om_a65 om_65
theorem om_a67 : ∀ k, k < 67 → okM k = true := lt_s om_a66 om_66
theorem om_a68 : ∀ k, k < 68 → okM k = true := lt_s om_a67 om_67
theorem om_a69 : ∀ k, k < 69 → okM k = true := lt_s om_a68 om_68
theorem om_a70 : ∀ k, k < 70 → okM k = true := lt_s om_a69 om_69
theorem om_a71 : ∀ k, k < 71 → okM k = true := lt_s om_a70 om_70
theorem om_a72 : ∀ k, k < 72 → okM k = true := lt_s om_a71 om_71
theorem om_a73 : ∀ k, k < 73 → okM k = true := lt_s om_a72 om_72
theorem om_a74 : ∀ k, k < 74 → okM k = true := lt_s om_a73 om_73
theorem om_a75 : ∀ k, k < 75 → okM k = true := lt_s om_a74 om_74
theorem om_a76 : ∀ k, k < 76 → okM k = true := lt_s om_a75 om_75
theorem om_a77 : ∀ k, k < 77 → okM k = true := lt_s om_a76 om_76
theorem om_a78 : ∀ k, k < 78 → okM k = true := lt_s om_a77 om_77
theorem om_a79 : ∀ k, k < 79 → okM k = true := lt_s om_a78 om_78
theorem om_a80 : ∀ k, k < 80 → okM k = true := lt_s om_a79 om_79
theorem om_a81 : ∀ k, k < 81 → okM k = true := lt_s om_a80 om_80
theorem om_a82 : ∀ k, k < 82 → okM k = true := lt_s om_a81 om_81
theorem om_a83 : ∀ k, k < 83 → okM k = true := lt_s om_a82 om_82
theorem om_a84 : ∀ k, k < 84 → okM k = true := lt_s om_a83 om_83
theorem om_a85 : ∀ k, k < 85 → okM k = true := lt_s om_a84 om_84
theorem om_a86 : ∀ k, k < 86 → okM k = true := lt_s om_a85 om_85
theorem om_a87 : ∀ k, k < 87 → okM k = true := lt_s om_a86 om_86
theorem om_a88 : ∀ k, k < 88 → okM k = true := lt_s om_a87 om_87
theorem om_a89 : ∀ k, k < 89 → okM k = true := lt_s om_a88 om_88
theorem om_a90 : ∀ k, k < 90 → okM k = true := lt_s om_a89 om_89
theorem om_a91 : ∀ k, k < 91 → okM k = true := lt_s om_a90 om_90
theorem om_a92 : ∀ k, k < 92 → okM k = true := lt_s om_a91 om_91
theorem om_a93 : ∀ k, k < 93 → okM k = true := lt_s om_a92 om_92
theorem om_a94 : ∀ k, k < 94 → okM k = true := lt_s om_a93 om_93
theorem om_a95 : ∀ k, k < 95 → okM k = true := lt_s om_a94 om_94
theorem om_a96 : ∀ k, k < 96 → okM k = true := lt_s om_a95 om_95
theorem om_a97 : ∀ k, k < 97 → okM k = true := lt_s om_a96 om_96
theorem om_a98 : ∀ k, k < 98 → okM k = true := lt_s om_a97 om_97
theorem om_a99 : ∀ k, k < 99 → okM k = true := lt_s om_a98 om_98
theorem om_a100 : ∀ k, k < 100 → okM k = true := lt_s om_a99 om_99
theorem om_a101 : ∀ k, k < 101 → okM k = true := lt_s om_a100 om_100
theorem om_a102 : ∀ k, k < 102 → okM k = true := lt_s om_a101 om_101
theorem om_a103 : ∀ k, k < 103 → okM k = true := lt_s om_a102 om_102
theorem om_a104 : ∀ k, k < 104 → okM k = true := lt_s om_a103 om_103
theorem om_a105 : ∀ k, k < 105 → okM k = true := lt_s om_a104 om_104
theorem om_a106 : ∀ k, k < 106 → okM k = true := lt_s om_a105 om_105
theorem om_a107 : ∀ k, k < 107 → okM k = true := lt_s om_a106 om_106
theorem om_a108 : ∀ k, k < 108 → okM k = true := lt_s om_a107 om_107
theorem om_a109 : ∀ k, k < 109 → okM k = true := lt_s om_a108 om_108
theorem om_a110 : ∀ k, k < 110 → okM k = true := lt_s om_a109 om_109
theorem om_a111 : ∀ k, k < 111 → okM k = true := lt_s om_a110 om_110
theorem om_a112 : ∀ k, k < 112 → okM k = true := lt_s om_a111 om_111
theorem om_a113 : ∀ k, k < 113 → okM k = true := lt_s om_a112 om_112
theorem om_a114 : ∀ k, k < 114 → okM k = true := lt_s om_a113 om_113
theorem om_a115 : ∀ k, k < 115 → okM k = true := lt_s om_a114 om_114
theorem om_a116 : ∀ k, k < 116 → okM k = true := lt_s om_a115 om_115
theorem om_a117 : ∀ k, k < 117 → okM k = true := lt_s om_a116 om_116
theorem om_a118 : ∀ k, k < 118 → okM k = true := lt_s om_a117 om_117
theorem om_a119 : ∀ k, k < 119 → okM k = true := lt_s om_a118 om_118
theorem om_a120 : ∀ k, k < 120 → okM k = true := lt_s om_a119 om_119
theorem om_a121 : ∀ k, k < 121 → okM k = true := lt_s om_a120 om_120
theorem om_a122 : ∀ k, k < 122 → okM k = true := lt_s om_a121 om_121
theorem om_a123 : ∀ k, k < 123 → okM k = true := lt_s om_a122 om_122
theorem om_a124 : ∀ k, k < 124 → okM k = true := lt_s om_a123 om_123
theorem om_a125 : ∀ k, k < 125 → okM k = true := lt_s om_a124 om_124
theorem om_a126 : ∀ k, k < 126 → okM k = true := lt_s om_a125 om_125
theorem om_a127 : ∀ k, k < 127 → okM k = true := lt_s om_a126 om_126
theorem om_a128 : ∀ k, k < 128 → okM k = true := lt_s om_a127 om_127
theorem om_a129 : ∀ k, k < 129 → okM k = true := lt_s om_a128 om_128
theorem om_a130 : ∀ k, k < 130 → okM k = true := lt_s om_a129 om_129
theorem om_a131 : ∀ k, k < 131 → okM k = true := lt_s om_a130 om_130
theorem om_a132 : ∀ k, k < 132 → okM k = true := lt_s om_a131 om_131
theorem om_a133 : ∀ k, k < 133 → okM k = true := lt_s om_a132 om_132
theorem om_a134 : ∀ k, k < 134 → okM k = true := lt_s om_a133 om_133
theorem om_a135 : ∀ k, k < 135 → okM k = true := lt_s om_a134 om_134
theorem om_a136 : ∀ k, k < 136 → okM k = true := lt_s om_a135 om_135
theorem om_a137 : ∀ k, k < 137 → okM k = true := lt_s om_a136 om_136
theorem om_a138 : ∀ k, k < 138 → okM k = true := lt_s om_a137 om_137
theorem om_a139 : ∀ k, k < 139 → okM k = true := lt_s om_a138 om_138
theorem om_a140 : ∀ k, k < 140 → okM k = true := lt_s om_a139 om_139
theorem om_a141 : ∀ k, k < 141 → okM k = true := lt_s om_a140 om_140
theorem om_a142 : ∀ k, k < 142 → okM k = true := lt_s om_a141 om_141
theorem om_a143 : ∀ k, k < 143 → okM k = true := lt_s om_a142 om_142
theorem om_a144 : ∀ k, k < 144 → okM k = true := lt_s om_a143 om_143
theorem om_a145 : ∀ k, k < 145 → okM k = true := lt_s om_a144 om_144
theorem om_a146 : ∀ k, k < 146 → okM k = true := lt_s om_a145 om_145
theorem om_a147 : ∀ k, k < 147 → okM k = true := lt_s om_a146 om_146
theorem om_a148 : ∀ k, k < 148 → okM k = true := lt_s om_a147 om_147
theorem om_a149 : ∀ k, k < 149 → okM k = true := lt_s om_a148 om_148
theorem om_a150 : ∀ k, k < 150 → okM k = true := lt_s om_a149 om_149
theorem om_a151 : ∀ k, k < 151 → okM k = true := lt_s om_a150 om_150
theorem om_a152 : ∀ k, k < 152 → okM k = true := lt_s om_a151 om_151
theorem om_a153 : ∀ k, k < 153 → okM k = true := lt_s om_a152 om_152
theorem om_a154 : ∀ k, k < 154 → okM k = true := lt_s om_a153 om_153
theorem om_a155 : ∀ k, k < 155 → okM k = true := lt_s om_a154 om_154
theorem om_a156 : ∀ k, k < 156 → okM k = true := lt_s om_a155 om_155
theorem om_a157 : ∀ k, k < 157 → okM k = true := lt_s om_a156 om_156
theorem om_a158 : ∀ k, k < 158 → okM k = true := lt_s om_a157 om_157
theorem om_a159 : ∀ k, k < 159 → okM k = true := lt_s om_a158 om_158
theorem om_a160 : ∀ k, k < 160 → okM k = true := lt_s om_a159 om_159
theorem om_a161 : ∀ k, k < 161 → okM k = true := lt_s om_a160 om_160
theorem om_a162 : ∀ k, k < 162 → okM k = true := lt_s om_a161 om_161
theorem om_a163 : ∀ k, k < 163 → okM k = true := lt_s om_a162 om_162
theorem om_a164 : ∀ k, k < 164 → okM k = true := lt_s om_a163 om_163
