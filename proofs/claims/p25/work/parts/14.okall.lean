theorem ok_at : ∀ m, m < 174 → fic m = false → ∃ w, okR m w 0 (mln m) = true := by
  intro m hm hf
  rcases Nat.lt_or_ge m 87 with h87 | h87
  · skip
    rcases Nat.lt_or_ge m 43 with h43 | h43
    · skip
      rcases Nat.lt_or_ge m 21 with h21 | h21
      · skip
        rcases Nat.lt_or_ge m 10 with h10 | h10
        · skip
          rcases Nat.lt_or_ge m 5 with h5 | h5
          · skip
            rcases Nat.lt_or_ge m 2 with h2 | h2
            · skip
              rcases Nat.lt_or_ge m 1 with h1 | h1
              · skip
                obtain rfl : m = 0 := by omega
                exact ⟨_, ok_0⟩
              · skip
                obtain rfl : m = 1 := by omega
                exact ⟨_, ok_1⟩
            · skip
              rcases Nat.lt_or_ge m 3 with h3 | h3
              · skip
                obtain rfl : m = 2 := by omega
                exact ⟨_, ok_2⟩
              · skip
                rcases Nat.lt_or_ge m 4 with h4 | h4
                · skip
                  obtain rfl : m = 3 := by omega
                  exact ⟨_, ok_3⟩
                · skip
                  obtain rfl : m = 4 := by omega
                  exact ⟨_, ok_4⟩
          · skip
            rcases Nat.lt_or_ge m 7 with h7 | h7
            · skip
              rcases Nat.lt_or_ge m 6 with h6 | h6
              · skip
                obtain rfl : m = 5 := by omega
                exact ⟨_, ok_5⟩
              · skip
                obtain rfl : m = 6 := by omega
                exact ⟨_, ok_6⟩
            · skip
              rcases Nat.lt_or_ge m 8 with h8 | h8
              · skip
                obtain rfl : m = 7 := by omega
                exact ⟨_, ok_7⟩
              · skip
                rcases Nat.lt_or_ge m 9 with h9 | h9
                · skip
                  obtain rfl : m = 8 := by omega
                  exact ⟨_, ok_8⟩
                · skip
                  obtain rfl : m = 9 := by omega
                  exact ⟨_, ok_9⟩
        · skip
          rcases Nat.lt_or_ge m 15 with h15 | h15
          · skip
            rcases Nat.lt_or_ge m 12 with h12 | h12
            · skip
              rcases Nat.lt_or_ge m 11 with h11 | h11
              · skip
                obtain rfl : m = 10 := by omega
                exact ⟨_, ok_10⟩
              · skip
                obtain rfl : m = 11 := by omega
                exact ⟨_, ok_11⟩
            · skip
              rcases Nat.lt_or_ge m 13 with h13 | h13
              · skip
                obtain rfl : m = 12 := by omega
                exact ⟨_, ok_12⟩
              · skip
                rcases Nat.lt_or_ge m 14 with h14 | h14
                · skip
                  obtain rfl : m = 13 := by omega
                  exact ⟨_, ok_13⟩
                · skip
                  obtain rfl : m = 14 := by omega
                  exact ⟨_, ok_14⟩
          · skip
            rcases Nat.lt_or_ge m 18 with h18 | h18
            · skip
              rcases Nat.lt_or_ge m 16 with h16 | h16
              · skip
                obtain rfl : m = 15 := by omega
                exact ⟨_, ok_15⟩
              · skip
                rcases Nat.lt_or_ge m 17 with h17 | h17
                · skip
                  obtain rfl : m = 16 := by omega
                  exact ⟨_, ok_16⟩
                · skip
                  obtain rfl : m = 17 := by omega
                  exact ⟨_, ok_17⟩
            · skip
              rcases Nat.lt_or_ge m 19 with h19 | h19
              · skip
                obtain rfl : m = 18 := by omega
                exact ⟨_, ok_18⟩
              · skip
                rcases Nat.lt_or_ge m 20 with h20 | h20
                · skip
                  obtain rfl : m = 19 := by omega
                  exact ⟨_, ok_19⟩
                · skip
                  obtain rfl : m = 20 := by omega
                  exact ⟨_, ok_20⟩
      · skip
        rcases Nat.lt_or_ge m 32 with h32 | h32
        · skip
          rcases Nat.lt_or_ge m 26 with h26 | h26
          · skip
            rcases Nat.lt_or_ge m 23 with h23 | h23
            · skip
              rcases Nat.lt_or_ge m 22 with h22 | h22
              · skip
                obtain rfl : m = 21 := by omega
                exact ⟨_, ok_21⟩
              · skip
                obtain rfl : m = 22 := by omega
                exact ⟨_, ok_22⟩
            · skip
              rcases Nat.lt_or_ge m 24 with h24 | h24
              · skip
                obtain rfl : m = 23 := by omega
                exact ⟨_, ok_23⟩
              · skip
                rcases Nat.lt_or_ge m 25 with h25 | h25
                · skip
                  obtain rfl : m = 24 := by omega
                  exact ⟨_, ok_24⟩
                · skip
                  obtain rfl : m = 25 := by omega
                  exact ⟨_, ok_25⟩
          · skip
            rcases Nat.lt_or_ge m 29 with h29 | h29
            · skip
              rcases Nat.lt_or_ge m 27 with h27 | h27
              · skip
                obtain rfl : m = 26 := by omega
                exact ⟨_, ok_26⟩
              · skip
                rcases Nat.lt_or_ge m 28 with h28 | h28
                · skip
                  obtain rfl : m = 27 := by omega
                  exact ⟨_, ok_27⟩
                · skip
                  obtain rfl : m = 28 := by omega
                  exact ⟨_, ok_28⟩
            · skip
              rcases Nat.lt_or_ge m 30 with h30 | h30
              · skip
                obtain rfl : m = 29 := by omega
                exact ⟨_, ok_29⟩
              · skip
                rcases Nat.lt_or_ge m 31 with h31 | h31
                · skip
                  obtain rfl : m = 30 := by omega
                  exact ⟨_, ok_30⟩
                · skip
                  obtain rfl : m = 31 := by omega
                  exact ⟨_, ok_31⟩
        · skip
          rcases Nat.lt_or_ge m 37 with h37 | h37
          · skip
            rcases Nat.lt_or_ge m 34 with h34 | h34
            · skip
              rcases Nat.lt_or_ge m 33 with h33 | h33
              · skip
                obtain rfl : m = 32 := by omega
                cases hf
              · skip
                obtain rfl : m = 33 := by omega
                cases hf
            · skip
              rcases Nat.lt_or_ge m 35 with h35 | h35
              · skip
                obtain rfl : m = 34 := by omega
                cases hf
              · skip
                rcases Nat.lt_or_ge m 36 with h36 | h36
                · skip
                  obtain rfl : m = 35 := by omega
                  cases hf
                · skip
                  obtain rfl : m = 36 := by omega
                  cases hf
          · skip
            rcases Nat.lt_or_ge m 40 with h40 | h40
            · skip
              rcases Nat.lt_or_ge m 38 with h38 | h38
              · skip
                obtain rfl : m = 37 := by omega
                cases hf
              · skip
                rcases Nat.lt_or_ge m 39 with h39 | h39
                · skip
                  obtain rfl : m = 38 := by omega
                  cases hf
                · skip
                  obtain rfl : m = 39 := by omega
                  cases hf
            · skip
              rcases Nat.lt_or_ge m 41 with h41 | h41
              · skip
                obtain rfl : m = 40 := by omega
                cases hf
              · skip
                rcases Nat.lt_or_ge m 42 with h42 | h42
                · skip
                  obtain rfl : m = 41 := by omega
                  cases hf
                · skip
                  obtain rfl : m = 42 := by omega
                  cases hf
    · skip
      rcases Nat.lt_or_ge m 65 with h65 | h65
      · skip
        rcases Nat.lt_or_ge m 54 with h54 | h54
        · skip
          rcases Nat.lt_or_ge m 48 with h48 | h48
          · skip
            rcases Nat.lt_or_ge m 45 with h45 | h45
            · skip
              rcases Nat.lt_or_ge m 44 with h44 | h44
              · skip
                obtain rfl : m = 43 := by omega
                cases hf
              · skip
                obtain rfl : m = 44 := by omega
                cases hf
            · skip
              rcases Nat.lt_or_ge m 46 with h46 | h46
              · skip
                obtain rfl : m = 45 := by omega
                cases hf
              · skip
                rcases Nat.lt_or_ge m 47 with h47 | h47
                · skip
                  obtain rfl : m = 46 := by omega
                  cases hf
                · skip
                  obtain rfl : m = 47 := by omega
                  cases hf
          · skip
            rcases Nat.lt_or_ge m 51 with h51 | h51
            · skip
              rcases Nat.lt_or_ge m 49 with h49 | h49
              · skip
                obtain rfl : m = 48 := by omega
                cases hf
              · skip
                rcases Nat.lt_or_ge m 50 with h50 | h50
                · skip
                  obtain rfl : m = 49 := by omega
                  cases hf
                · skip
                  obtain rfl : m = 50 := by omega
                  cases hf
            · skip
              rcases Nat.lt_or_ge m 52 with h52 | h52
              · skip
                obtain rfl : m = 51 := by omega
                cases hf
              · skip
                rcases Nat.lt_or_ge m 53 with h53 | h53
                · skip
                  obtain rfl : m = 52 := by omega
                  cases hf
                · skip
                  obtain rfl : m = 53 := by omega
                  cases hf
        · skip
          rcases Nat.lt_or_ge m 59 with h59 | h59
          · skip
            rcases Nat.lt_or_ge m 56 with h56 | h56
            · skip
              rcases Nat.lt_or_ge m 55 with h55 | h55
              · skip
                obtain rfl : m = 54 := by omega
                cases hf
              · skip
                obtain rfl : m = 55 := by omega
                cases hf
            · skip
              rcases Nat.lt_or_ge m 57 with h57 | h57
              · skip
                obtain rfl : m = 56 := by omega
                cases hf
              · skip
                rcases Nat.lt_or_ge m 58 with h58 | h58
                · skip
                  obtain rfl : m = 57 := by omega
                  cases hf
                · skip
                  obtain rfl : m = 58 := by omega
                  cases hf
          · skip
            rcases Nat.lt_or_ge m 62 with h62 | h62
            · skip
              rcases Nat.lt_or_ge m 60 with h60 | h60
              · skip
                obtain rfl : m = 59 := by omega
                cases hf
              · skip
                rcases Nat.lt_or_ge m 61 with h61 | h61
                · skip
                  obtain rfl : m = 60 := by omega
                  cases hf
                · skip
                  obtain rfl : m = 61 := by omega
                  cases hf
            · skip
              rcases Nat.lt_or_ge m 63 with h63 | h63
              · skip
                obtain rfl : m = 62 := by omega
                cases hf
              · skip
                rcases Nat.lt_or_ge m 64 with h64 | h64
                · skip
                  obtain rfl : m = 63 := by omega
                  cases hf
                · skip
                  obtain rfl : m = 64 := by omega
                  cases hf
      · skip
        rcases Nat.lt_or_ge m 76 with h76 | h76
        · skip
          rcases Nat.lt_or_ge m 70 with h70 | h70
          · skip
            rcases Nat.lt_or_ge m 67 with h67 | h67
            · skip
              rcases Nat.lt_or_ge m 66 with h66 | h66
              · skip
                obtain rfl : m = 65 := by omega
                cases hf
              · skip
                obtain rfl : m = 66 := by omega
                cases hf
            · skip
              rcases Nat.lt_or_ge m 68 with h68 | h68
              · skip
                obtain rfl : m = 67 := by omega
                cases hf
              · skip
                rcases Nat.lt_or_ge m 69 with h69 | h69
                · skip
                  obtain rfl : m = 68 := by omega
                  cases hf
                · skip
                  obtain rfl : m = 69 := by omega
                  cases hf
          · skip
            rcases Nat.lt_or_ge m 73 with h73 | h73
            · skip
              rcases Nat.lt_or_ge m 71 with h71 | h71
              · skip
                obtain rfl : m = 70 := by omega
                cases hf
              · skip
                rcases Nat.lt_or_ge m 72 with h72 | h72
                · skip
                  obtain rfl : m = 71 := by omega
                  cases hf
                · skip
                  obtain rfl : m = 72 := by omega
                  exact ⟨_, ok_72⟩
            · skip
              rcases Nat.lt_or_ge m 74 with h74 | h74
              · skip
                obtain rfl : m = 73 := by omega
                exact ⟨_, ok_73⟩
              · skip
                rcases Nat.lt_or_ge m 75 with h75 | h75
                · skip
                  obtain rfl : m = 74 := by omega
                  exact ⟨_, ok_74⟩
                · skip
                  obtain rfl : m = 75 := by omega
                  exact ⟨_, ok_75⟩
        · skip
          rcases Nat.lt_or_ge m 81 with h81 | h81
          · skip
            rcases Nat.lt_or_ge m 78 with h78 | h78
            · skip
              rcases Nat.lt_or_ge m 77 with h77 | h77
              · skip
                obtain rfl : m = 76 := by omega
                exact ⟨_, ok_76⟩
              · skip
                obtain rfl : m = 77 := by omega
                exact ⟨_, ok_77⟩
            · skip
              rcases Nat.lt_or_ge m 79 with h79 | h79
              · skip
                obtain rfl : m = 78 := by omega
                exact ⟨_, ok_78⟩
              · skip
                rcases Nat.lt_or_ge m 80 with h80 | h80
                · skip
                  obtain rfl : m = 79 := by omega
                  exact ⟨_, ok_79⟩
                · skip
                  obtain rfl : m = 80 := by omega
                  exact ⟨_, ok_80⟩
          · skip
            rcases Nat.lt_or_ge m 84 with h84 | h84
            · skip
              rcases Nat.lt_or_ge m 82 with h82 | h82
              · skip
                obtain rfl : m = 81 := by omega
                exact ⟨_, ok_81⟩
              · skip
                rcases Nat.lt_or_ge m 83 with h83 | h83
                · skip
                  obtain rfl : m = 82 := by omega
                  exact ⟨_, ok_82⟩
                · skip
                  obtain rfl : m = 83 := by omega
                  exact ⟨_, ok_83⟩
            · skip
              rcases Nat.lt_or_ge m 85 with h85 | h85
              · skip
                obtain rfl : m = 84 := by omega
                exact ⟨_, ok_84⟩
              · skip
                rcases Nat.lt_or_ge m 86 with h86 | h86
                · skip
                  obtain rfl : m = 85 := by omega
                  exact ⟨_, ok_85⟩
                · skip
                  obtain rfl : m = 86 := by omega
                  exact ⟨_, ok_86⟩
  · skip
    rcases Nat.lt_or_ge m 130 with h130 | h130
    · skip
      rcases Nat.lt_or_ge m 108 with h108 | h108
      · skip
        rcases Nat.lt_or_ge m 97 with h97 | h97
        · skip
          rcases Nat.lt_or_ge m 92 with h92 | h92
          · skip
            rcases Nat.lt_or_ge m 89 with h89 | h89
            · skip
              rcases Nat.lt_or_ge m 88 with h88 | h88
              · skip
                obtain rfl : m = 87 := by omega
                exact ⟨_, ok_87⟩
              · skip
                obtain rfl : m = 88 := by omega
                exact ⟨_, ok_88⟩
            · skip
              rcases Nat.lt_or_ge m 90 with h90 | h90
              · skip
                obtain rfl : m = 89 := by omega
                exact ⟨_, ok_89⟩
              · skip
                rcases Nat.lt_or_ge m 91 with h91 | h91
                · skip
                  obtain rfl : m = 90 := by omega
                  exact ⟨_, ok_90⟩
                · skip
                  obtain rfl : m = 91 := by omega
                  exact ⟨_, ok_91⟩
          · skip
            rcases Nat.lt_or_ge m 94 with h94 | h94
            · skip
              rcases Nat.lt_or_ge m 93 with h93 | h93
              · skip
                obtain rfl : m = 92 := by omega
                exact ⟨_, ok_92⟩
              · skip
                obtain rfl : m = 93 := by omega
                exact ⟨_, ok_93⟩
            · skip
              rcases Nat.lt_or_ge m 95 with h95 | h95
              · skip
                obtain rfl : m = 94 := by omega
                exact ⟨_, ok_94⟩
              · skip
                rcases Nat.lt_or_ge m 96 with h96 | h96
                · skip
                  obtain rfl : m = 95 := by omega
                  exact ⟨_, ok_95⟩
                · skip
                  obtain rfl : m = 96 := by omega
                  exact ⟨_, ok_96⟩
        · skip
          rcases Nat.lt_or_ge m 102 with h102 | h102
          · skip
            rcases Nat.lt_or_ge m 99 with h99 | h99
            · skip
              rcases Nat.lt_or_ge m 98 with h98 | h98
              · skip
                obtain rfl : m = 97 := by omega
                exact ⟨_, ok_97⟩
              · skip
                obtain rfl : m = 98 := by omega
                exact ⟨_, ok_98⟩
            · skip
              rcases Nat.lt_or_ge m 100 with h100 | h100
              · skip
                obtain rfl : m = 99 := by omega
                exact ⟨_, ok_99⟩
              · skip
                rcases Nat.lt_or_ge m 101 with h101 | h101
                · skip
                  obtain rfl : m = 100 := by omega
                  exact ⟨_, ok_100⟩
                · skip
                  obtain rfl : m = 101 := by omega
                  exact ⟨_, ok_101⟩
          · skip
            rcases Nat.lt_or_ge m 105 with h105 | h105
            · skip
              rcases Nat.lt_or_ge m 103 with h103 | h103
              · skip
                obtain rfl : m = 102 := by omega
                exact ⟨_, ok_102⟩
              · skip
                rcases Nat.lt_or_ge m 104 with h104 | h104
                · skip
                  obtain rfl : m = 103 := by omega
                  exact ⟨_, ok_103⟩
                · skip
                  obtain rfl : m = 104 := by omega
                  exact ⟨_, ok_104⟩
            · skip
              rcases Nat.lt_or_ge m 106 with h106 | h106
              · skip
                obtain rfl : m = 105 := by omega
                exact ⟨_, ok_105⟩
              · skip
                rcases Nat.lt_or_ge m 107 with h107 | h107
                · skip
                  obtain rfl : m = 106 := by omega
                  exact ⟨_, ok_106⟩
                · skip
                  obtain rfl : m = 107 := by omega
                  exact ⟨_, ok_107⟩
      · skip
        rcases Nat.lt_or_ge m 119 with h119 | h119
        · skip
          rcases Nat.lt_or_ge m 113 with h113 | h113
          · skip
            rcases Nat.lt_or_ge m 110 with h110 | h110
            · skip
              rcases Nat.lt_or_ge m 109 with h109 | h109
              · skip
                obtain rfl : m = 108 := by omega
                exact ⟨_, ok_108⟩
              · skip
                obtain rfl : m = 109 := by omega
                exact ⟨_, ok_109⟩
            · skip
              rcases Nat.lt_or_ge m 111 with h111 | h111
              · skip
                obtain rfl : m = 110 := by omega
                exact ⟨_, ok_110⟩
              · skip
                rcases Nat.lt_or_ge m 112 with h112 | h112
                · skip
                  obtain rfl : m = 111 := by omega
                  exact ⟨_, ok_111⟩
                · skip
                  obtain rfl : m = 112 := by omega
                  exact ⟨_, ok_112⟩
          · skip
            rcases Nat.lt_or_ge m 116 with h116 | h116
            · skip
              rcases Nat.lt_or_ge m 114 with h114 | h114
              · skip
                obtain rfl : m = 113 := by omega
                exact ⟨_, ok_113⟩
              · skip
                rcases Nat.lt_or_ge m 115 with h115 | h115
                · skip
                  obtain rfl : m = 114 := by omega
                  exact ⟨_, ok_114⟩
                · skip
                  obtain rfl : m = 115 := by omega
                  exact ⟨_, ok_115⟩
            · skip
              rcases Nat.lt_or_ge m 117 with h117 | h117
              · skip
                obtain rfl : m = 116 := by omega
                exact ⟨_, ok_116⟩
              · skip
                rcases Nat.lt_or_ge m 118 with h118 | h118
                · skip
                  obtain rfl : m = 117 := by omega
                  exact ⟨_, ok_117⟩
                · skip
                  obtain rfl : m = 118 := by omega
                  exact ⟨_, ok_118⟩
        · skip
          rcases Nat.lt_or_ge m 124 with h124 | h124
          · skip
            rcases Nat.lt_or_ge m 121 with h121 | h121
            · skip
              rcases Nat.lt_or_ge m 120 with h120 | h120
              · skip
                obtain rfl : m = 119 := by omega
                exact ⟨_, ok_119⟩
              · skip
                obtain rfl : m = 120 := by omega
                exact ⟨_, ok_120⟩
            · skip
              rcases Nat.lt_or_ge m 122 with h122 | h122
              · skip
                obtain rfl : m = 121 := by omega
                exact ⟨_, ok_121⟩
              · skip
                rcases Nat.lt_or_ge m 123 with h123 | h123
                · skip
                  obtain rfl : m = 122 := by omega
                  exact ⟨_, ok_122⟩
                · skip
                  obtain rfl : m = 123 := by omega
                  exact ⟨_, ok_123⟩
          · skip
            rcases Nat.lt_or_ge m 127 with h127 | h127
            · skip
              rcases Nat.lt_or_ge m 125 with h125 | h125
              · skip
                obtain rfl : m = 124 := by omega
                exact ⟨_, ok_124⟩
              · skip
                rcases Nat.lt_or_ge m 126 with h126 | h126
                · skip
                  obtain rfl : m = 125 := by omega
                  exact ⟨_, ok_125⟩
                · skip
                  obtain rfl : m = 126 := by omega
                  exact ⟨_, ok_126⟩
            · skip
              rcases Nat.lt_or_ge m 128 with h128 | h128
              · skip
                obtain rfl : m = 127 := by omega
                exact ⟨_, ok_127⟩
              · skip
                rcases Nat.lt_or_ge m 129 with h129 | h129
                · skip
                  obtain rfl : m = 128 := by omega
                  exact ⟨_, ok_128⟩
                · skip
                  obtain rfl : m = 129 := by omega
                  exact ⟨_, ok_129⟩
    · skip
      rcases Nat.lt_or_ge m 152 with h152 | h152
      · skip
        rcases Nat.lt_or_ge m 141 with h141 | h141
        · skip
          rcases Nat.lt_or_ge m 135 with h135 | h135
          · skip
            rcases Nat.lt_or_ge m 132 with h132 | h132
            · skip
              rcases Nat.lt_or_ge m 131 with h131 | h131
              · skip
                obtain rfl : m = 130 := by omega
                exact ⟨_, ok_130⟩
              · skip
                obtain rfl : m = 131 := by omega
                exact ⟨_, ok_131⟩
            · skip
              rcases Nat.lt_or_ge m 133 with h133 | h133
              · skip
                obtain rfl : m = 132 := by omega
                exact ⟨_, ok_132⟩
              · skip
                rcases Nat.lt_or_ge m 134 with h134 | h134
                · skip
                  obtain rfl : m = 133 := by omega
                  exact ⟨_, ok_133⟩
                · skip
                  obtain rfl : m = 134 := by omega
                  exact ⟨_, ok_134⟩
          · skip
            rcases Nat.lt_or_ge m 138 with h138 | h138
            · skip
              rcases Nat.lt_or_ge m 136 with h136 | h136
              · skip
                obtain rfl : m = 135 := by omega
                exact ⟨_, ok_135⟩
              · skip
                rcases Nat.lt_or_ge m 137 with h137 | h137
                · skip
                  obtain rfl : m = 136 := by omega
                  exact ⟨_, ok_136⟩
                · skip
                  obtain rfl : m = 137 := by omega
                  cases hf
            · skip
              rcases Nat.lt_or_ge m 139 with h139 | h139
              · skip
                obtain rfl : m = 138 := by omega
                cases hf
              · skip
                rcases Nat.lt_or_ge m 140 with h140 | h140
                · skip
                  obtain rfl : m = 139 := by omega
                  cases hf
                · skip
                  obtain rfl : m = 140 := by omega
                  cases hf
        · skip
          rcases Nat.lt_or_ge m 146 with h146 | h146
          · skip
            rcases Nat.lt_or_ge m 143 with h143 | h143
            · skip
              rcases Nat.lt_or_ge m 142 with h142 | h142
              · skip
                obtain rfl : m = 141 := by omega
                cases hf
              · skip
                obtain rfl : m = 142 := by omega
                cases hf
            · skip
              rcases Nat.lt_or_ge m 144 with h144 | h144
              · skip
                obtain rfl : m = 143 := by omega
                cases hf
              · skip
                rcases Nat.lt_or_ge m 145 with h145 | h145
                · skip
                  obtain rfl : m = 144 := by omega
                  cases hf
                · skip
                  obtain rfl : m = 145 := by omega
                  cases hf
          · skip
            rcases Nat.lt_or_ge m 149 with h149 | h149
            · skip
              rcases Nat.lt_or_ge m 147 with h147 | h147
              · skip
                obtain rfl : m = 146 := by omega
                cases hf
              · skip
                rcases Nat.lt_or_ge m 148 with h148 | h148
                · skip
                  obtain rfl : m = 147 := by omega
                  cases hf
                · skip
                  obtain rfl : m = 148 := by omega
                  cases hf
            · skip
              rcases Nat.lt_or_ge m 150 with h150 | h150
              · skip
                obtain rfl : m = 149 := by omega
                cases hf
              · skip
                rcases Nat.lt_or_ge m 151 with h151 | h151
                · skip
                  obtain rfl : m = 150 := by omega
                  cases hf
                · skip
                  obtain rfl : m = 151 := by omega
                  cases hf
      · skip
        rcases Nat.lt_or_ge m 163 with h163 | h163
        · skip
          rcases Nat.lt_or_ge m 157 with h157 | h157
          · skip
            rcases Nat.lt_or_ge m 154 with h154 | h154
            · skip
              rcases Nat.lt_or_ge m 153 with h153 | h153
              · skip
                obtain rfl : m = 152 := by omega
                cases hf
              · skip
                obtain rfl : m = 153 := by omega
                cases hf
            · skip
              rcases Nat.lt_or_ge m 155 with h155 | h155
              · skip
                obtain rfl : m = 154 := by omega
                cases hf
              · skip
                rcases Nat.lt_or_ge m 156 with h156 | h156
                · skip
                  obtain rfl : m = 155 := by omega
                  cases hf
                · skip
                  obtain rfl : m = 156 := by omega
                  cases hf
          · skip
            rcases Nat.lt_or_ge m 160 with h160 | h160
            · skip
              rcases Nat.lt_or_ge m 158 with h158 | h158
              · skip
                obtain rfl : m = 157 := by omega
                cases hf
              · skip
                rcases Nat.lt_or_ge m 159 with h159 | h159
                · skip
                  obtain rfl : m = 158 := by omega
                  cases hf
                · skip
                  obtain rfl : m = 159 := by omega
                  cases hf
            · skip
              rcases Nat.lt_or_ge m 161 with h161 | h161
              · skip
                obtain rfl : m = 160 := by omega
                exact ⟨_, ok_160⟩
              · skip
                rcases Nat.lt_or_ge m 162 with h162 | h162
                · skip
                  obtain rfl : m = 161 := by omega
                  exact ⟨_, ok_161⟩
                · skip
                  obtain rfl : m = 162 := by omega
                  exact ⟨_, ok_162⟩
        · skip
          rcases Nat.lt_or_ge m 168 with h168 | h168
          · skip
            rcases Nat.lt_or_ge m 165 with h165 | h165
            · skip
              rcases Nat.lt_or_ge m 164 with h164 | h164
              · skip
                obtain rfl : m = 163 := by omega
                exact ⟨_, ok_163⟩
              · skip
                obtain rfl : m = 164 := by omega
                exact ⟨_, ok_164⟩
            · skip
              rcases Nat.lt_or_ge m 166 with h166 | h166
              · skip
                obtain rfl : m = 165 := by omega
                exact ⟨_, ok_165⟩
              · skip
                rcases Nat.lt_or_ge m 167 with h167 | h167
                · skip
                  obtain rfl : m = 166 := by omega
                  exact ⟨_, ok_166⟩
                · skip
                  obtain rfl : m = 167 := by omega
                  exact ⟨_, ok_167⟩
          · skip
            rcases Nat.lt_or_ge m 171 with h171 | h171
            · skip
              rcases Nat.lt_or_ge m 169 with h169 | h169
              · skip
                obtain rfl : m = 168 := by omega
                exact ⟨_, ok_168⟩
              · skip
                rcases Nat.lt_or_ge m 170 with h170 | h170
                · skip
                  obtain rfl : m = 169 := by omega
                  exact ⟨_, ok_169⟩
                · skip
                  obtain rfl : m = 170 := by omega
                  exact ⟨_, ok_170⟩
            · skip
              rcases Nat.lt_or_ge m 172 with h172 | h172
              · skip
                obtain rfl : m = 171 := by omega
                exact ⟨_, ok_171⟩
              · skip
                rcases Nat.lt_or_ge m 173 with h173 | h173
                · skip
                  obtain rfl : m = 172 := by omega
                  exact ⟨_, ok_172⟩
                · skip
                  obtain rfl : m = 173 := by omega
                  exact ⟨_, ok_173⟩
theorem MTf_i {m : Nat} {q : mI} (h : MTf m = some q) : fic m = false ∧ MT[m]? = some q := by
  unfold MTf at h
  cases g : fic m
  · rw [g] at h; exact ⟨rfl, h⟩
  · rw [g] at h; cases h
theorem MT_len {m : Nat} {q : mI} (h : MTf m = some q) : m < 174 := by
  have h1 := (List.getElem?_eq_some_iff.mp (MTf_i h).2).1
  have h2 : MT.length = 174 := by decide +kernel
  omega
theorem cd_inv {m pc : Nat} {e : ent} (h : cd m pc = some e) : (m = 999 ∧ e = (.athrow, 0, pc, 0, 0)) ∨ (m < 174 ∧ pc < mln m ∧ trs m pc = some e) := by
  unfold cd at h
  cases g : Nat.beq m 999
  · rw [g] at h
    cases g2 : Nat.ble (m + 1) 174
    · rw [g2] at h; cases h
    · rw [g2] at h
      cases g3 : Nat.ble (pc + 1) (mln m)
      · rw [g3] at h; cases h
      · rw [g3] at h
        have g2 := bleN g2
        have g3 := bleN g3
        exact Or.inr ⟨by omega, by omega, h⟩
  · rw [g] at h
    have h : some (Instr.athrow, 0, pc, 0, 0) = some e := h
    exact Or.inl ⟨beqN g, (Option.some.inj h).symm⟩
theorem okAll (m : Nat) (q : mI) (pc : Nat) (e : ent) (hq : MTf m = some q) (h : cd m pc = some e) : ∃ w, okE m q pc e w = true := by
  rcases cd_inv h with ⟨h1, _⟩ | ⟨h1, h2, h3⟩
  · have := MT_len hq; omega
  · obtain ⟨w, h4⟩ := ok_at m h1 (MTf_i hq).1
    unfold okR at h4
    rw [hq] at h4
    have h5 := List.all_eq_true.mp h4 pc (List.mem_range.mpr h2)
    rw [Nat.zero_add, h3] at h5
    exact ⟨_, h5⟩
theorem cw_at : ∀ m, m < 174 → fic m = false → ¬ m = 173 → (match MT[m]? with | none => False | some q => cwd q ∈ TW) := by
  intro m hm hf hl
  rcases Nat.lt_or_ge m 87 with h87 | h87
  · skip
    rcases Nat.lt_or_ge m 43 with h43 | h43
    · skip
      rcases Nat.lt_or_ge m 21 with h21 | h21
      · skip
        rcases Nat.lt_or_ge m 10 with h10 | h10
        · skip
          rcases Nat.lt_or_ge m 5 with h5 | h5
          · skip
            rcases Nat.lt_or_ge m 2 with h2 | h2
            · skip
              rcases Nat.lt_or_ge m 1 with h1 | h1
              · skip
                obtain rfl : m = 0 := by omega
                exact cw_0
              · skip
                obtain rfl : m = 1 := by omega
                exact cw_1
            · skip
              rcases Nat.lt_or_ge m 3 with h3 | h3
              · skip
                obtain rfl : m = 2 := by omega
                exact cw_2
              · skip
                rcases Nat.lt_or_ge m 4 with h4 | h4
                · skip
                  obtain rfl : m = 3 := by omega
                  exact cw_3
                · skip
                  obtain rfl : m = 4 := by omega
                  exact cw_4
          · skip
            rcases Nat.lt_or_ge m 7 with h7 | h7
            · skip
              rcases Nat.lt_or_ge m 6 with h6 | h6
              · skip
                obtain rfl : m = 5 := by omega
                exact cw_5
              · skip
                obtain rfl : m = 6 := by omega
                exact cw_6
            · skip
              rcases Nat.lt_or_ge m 8 with h8 | h8
              · skip
                obtain rfl : m = 7 := by omega
                exact cw_7
              · skip
                rcases Nat.lt_or_ge m 9 with h9 | h9
                · skip
                  obtain rfl : m = 8 := by omega
                  exact cw_8
                · skip
                  obtain rfl : m = 9 := by omega
                  exact cw_9
        · skip
          rcases Nat.lt_or_ge m 15 with h15 | h15
          · skip
            rcases Nat.lt_or_ge m 12 with h12 | h12
            · skip
              rcases Nat.lt_or_ge m 11 with h11 | h11
              · skip
                obtain rfl : m = 10 := by omega
                exact cw_10
              · skip
                obtain rfl : m = 11 := by omega
                exact cw_11
            · skip
              rcases Nat.lt_or_ge m 13 with h13 | h13
              · skip
                obtain rfl : m = 12 := by omega
                exact cw_12
              · skip
                rcases Nat.lt_or_ge m 14 with h14 | h14
                · skip
                  obtain rfl : m = 13 := by omega
                  exact cw_13
                · skip
                  obtain rfl : m = 14 := by omega
                  exact cw_14
          · skip
            rcases Nat.lt_or_ge m 18 with h18 | h18
            · skip
              rcases Nat.lt_or_ge m 16 with h16 | h16
              · skip
                obtain rfl : m = 15 := by omega
                exact cw_15
              · skip
                rcases Nat.lt_or_ge m 17 with h17 | h17
                · skip
                  obtain rfl : m = 16 := by omega
                  exact cw_16
                · skip
                  obtain rfl : m = 17 := by omega
                  exact cw_17
            · skip
              rcases Nat.lt_or_ge m 19 with h19 | h19
              · skip
                obtain rfl : m = 18 := by omega
                exact cw_18
              · skip
                rcases Nat.lt_or_ge m 20 with h20 | h20
                · skip
                  obtain rfl : m = 19 := by omega
                  exact cw_19
                · skip
                  obtain rfl : m = 20 := by omega
                  exact cw_20
      · skip
        rcases Nat.lt_or_ge m 32 with h32 | h32
        · skip
          rcases Nat.lt_or_ge m 26 with h26 | h26
          · skip
            rcases Nat.lt_or_ge m 23 with h23 | h23
            · skip
              rcases Nat.lt_or_ge m 22 with h22 | h22
              · skip
                obtain rfl : m = 21 := by omega
                exact cw_21
              · skip
                obtain rfl : m = 22 := by omega
                exact cw_22
            · skip
              rcases Nat.lt_or_ge m 24 with h24 | h24
              · skip
                obtain rfl : m = 23 := by omega
                exact cw_23
              · skip
                rcases Nat.lt_or_ge m 25 with h25 | h25
                · skip
                  obtain rfl : m = 24 := by omega
                  exact cw_24
                · skip
                  obtain rfl : m = 25 := by omega
                  exact cw_25
          · skip
            rcases Nat.lt_or_ge m 29 with h29 | h29
            · skip
              rcases Nat.lt_or_ge m 27 with h27 | h27
              · skip
                obtain rfl : m = 26 := by omega
                exact cw_26
              · skip
                rcases Nat.lt_or_ge m 28 with h28 | h28
                · skip
                  obtain rfl : m = 27 := by omega
                  exact cw_27
                · skip
                  obtain rfl : m = 28 := by omega
                  exact cw_28
            · skip
              rcases Nat.lt_or_ge m 30 with h30 | h30
              · skip
                obtain rfl : m = 29 := by omega
                exact cw_29
              · skip
                rcases Nat.lt_or_ge m 31 with h31 | h31
                · skip
                  obtain rfl : m = 30 := by omega
                  exact cw_30
                · skip
                  obtain rfl : m = 31 := by omega
                  exact cw_31
        · skip
          rcases Nat.lt_or_ge m 37 with h37 | h37
          · skip
            rcases Nat.lt_or_ge m 34 with h34 | h34
            · skip
              rcases Nat.lt_or_ge m 33 with h33 | h33
              · skip
                obtain rfl : m = 32 := by omega
                cases hf
              · skip
                obtain rfl : m = 33 := by omega
                cases hf
            · skip
              rcases Nat.lt_or_ge m 35 with h35 | h35
              · skip
                obtain rfl : m = 34 := by omega
                cases hf
              · skip
                rcases Nat.lt_or_ge m 36 with h36 | h36
                · skip
                  obtain rfl : m = 35 := by omega
                  cases hf
                · skip
                  obtain rfl : m = 36 := by omega
                  cases hf
          · skip
            rcases Nat.lt_or_ge m 40 with h40 | h40
            · skip
              rcases Nat.lt_or_ge m 38 with h38 | h38
              · skip
                obtain rfl : m = 37 := by omega
                cases hf
              · skip
                rcases Nat.lt_or_ge m 39 with h39 | h39
                · skip
                  obtain rfl : m = 38 := by omega
                  cases hf
                · skip
                  obtain rfl : m = 39 := by omega
                  cases hf
            · skip
              rcases Nat.lt_or_ge m 41 with h41 | h41
              · skip
                obtain rfl : m = 40 := by omega
                cases hf
              · skip
                rcases Nat.lt_or_ge m 42 with h42 | h42
                · skip
                  obtain rfl : m = 41 := by omega
                  cases hf
                · skip
                  obtain rfl : m = 42 := by omega
                  cases hf
    · skip
      rcases Nat.lt_or_ge m 65 with h65 | h65
      · skip
        rcases Nat.lt_or_ge m 54 with h54 | h54
        · skip
          rcases Nat.lt_or_ge m 48 with h48 | h48
          · skip
            rcases Nat.lt_or_ge m 45 with h45 | h45
            · skip
              rcases Nat.lt_or_ge m 44 with h44 | h44
              · skip
                obtain rfl : m = 43 := by omega
                cases hf
              · skip
                obtain rfl : m = 44 := by omega
                cases hf
            · skip
              rcases Nat.lt_or_ge m 46 with h46 | h46
              · skip
                obtain rfl : m = 45 := by omega
                cases hf
              · skip
                rcases Nat.lt_or_ge m 47 with h47 | h47
                · skip
                  obtain rfl : m = 46 := by omega
                  cases hf
                · skip
                  obtain rfl : m = 47 := by omega
                  cases hf
          · skip
            rcases Nat.lt_or_ge m 51 with h51 | h51
            · skip
              rcases Nat.lt_or_ge m 49 with h49 | h49
              · skip
                obtain rfl : m = 48 := by omega
                cases hf
              · skip
                rcases Nat.lt_or_ge m 50 with h50 | h50
                · skip
                  obtain rfl : m = 49 := by omega
                  cases hf
                · skip
                  obtain rfl : m = 50 := by omega
                  cases hf
            · skip
              rcases Nat.lt_or_ge m 52 with h52 | h52
              · skip
                obtain rfl : m = 51 := by omega
                cases hf
              · skip
                rcases Nat.lt_or_ge m 53 with h53 | h53
                · skip
                  obtain rfl : m = 52 := by omega
                  cases hf
                · skip
                  obtain rfl : m = 53 := by omega
                  cases hf
        · skip
          rcases Nat.lt_or_ge m 59 with h59 | h59
          · skip
            rcases Nat.lt_or_ge m 56 with h56 | h56
            · skip
              rcases Nat.lt_or_ge m 55 with h55 | h55
              · skip
                obtain rfl : m = 54 := by omega
                cases hf
              · skip
                obtain rfl : m = 55 := by omega
                cases hf
            · skip
              rcases Nat.lt_or_ge m 57 with h57 | h57
              · skip
                obtain rfl : m = 56 := by omega
                cases hf
              · skip
                rcases Nat.lt_or_ge m 58 with h58 | h58
                · skip
                  obtain rfl : m = 57 := by omega
                  cases hf
                · skip
                  obtain rfl : m = 58 := by omega
                  cases hf
          · skip
            rcases Nat.lt_or_ge m 62 with h62 | h62
            · skip
              rcases Nat.lt_or_ge m 60 with h60 | h60
              · skip
                obtain rfl : m = 59 := by omega
                cases hf
              · skip
                rcases Nat.lt_or_ge m 61 with h61 | h61
                · skip
                  obtain rfl : m = 60 := by omega
                  cases hf
                · skip
                  obtain rfl : m = 61 := by omega
                  cases hf
            · skip
              rcases Nat.lt_or_ge m 63 with h63 | h63
              · skip
                obtain rfl : m = 62 := by omega
                cases hf
              · skip
                rcases Nat.lt_or_ge m 64 with h64 | h64
                · skip
                  obtain rfl : m = 63 := by omega
                  cases hf
                · skip
                  obtain rfl : m = 64 := by omega
                  cases hf
      · skip
        rcases Nat.lt_or_ge m 76 with h76 | h76
        · skip
          rcases Nat.lt_or_ge m 70 with h70 | h70
          · skip
            rcases Nat.lt_or_ge m 67 with h67 | h67
            · skip
              rcases Nat.lt_or_ge m 66 with h66 | h66
              · skip
                obtain rfl : m = 65 := by omega
                cases hf
              · skip
                obtain rfl : m = 66 := by omega
                cases hf
            · skip
              rcases Nat.lt_or_ge m 68 with h68 | h68
              · skip
                obtain rfl : m = 67 := by omega
                cases hf
              · skip
                rcases Nat.lt_or_ge m 69 with h69 | h69
                · skip
                  obtain rfl : m = 68 := by omega
                  cases hf
                · skip
                  obtain rfl : m = 69 := by omega
                  cases hf
          · skip
            rcases Nat.lt_or_ge m 73 with h73 | h73
            · skip
              rcases Nat.lt_or_ge m 71 with h71 | h71
              · skip
                obtain rfl : m = 70 := by omega
                cases hf
              · skip
                rcases Nat.lt_or_ge m 72 with h72 | h72
                · skip
                  obtain rfl : m = 71 := by omega
                  cases hf
                · skip
                  obtain rfl : m = 72 := by omega
                  exact cw_72
            · skip
              rcases Nat.lt_or_ge m 74 with h74 | h74
              · skip
                obtain rfl : m = 73 := by omega
                exact cw_73
              · skip
                rcases Nat.lt_or_ge m 75 with h75 | h75
                · skip
                  obtain rfl : m = 74 := by omega
                  exact cw_74
                · skip
                  obtain rfl : m = 75 := by omega
                  exact cw_75
        · skip
          rcases Nat.lt_or_ge m 81 with h81 | h81
          · skip
            rcases Nat.lt_or_ge m 78 with h78 | h78
            · skip
              rcases Nat.lt_or_ge m 77 with h77 | h77
              · skip
                obtain rfl : m = 76 := by omega
                exact cw_76
              · skip
                obtain rfl : m = 77 := by omega
                exact cw_77
            · skip
              rcases Nat.lt_or_ge m 79 with h79 | h79
              · skip
                obtain rfl : m = 78 := by omega
                exact cw_78
              · skip
                rcases Nat.lt_or_ge m 80 with h80 | h80
                · skip
                  obtain rfl : m = 79 := by omega
                  exact cw_79
                · skip
                  obtain rfl : m = 80 := by omega
                  exact cw_80
          · skip
            rcases Nat.lt_or_ge m 84 with h84 | h84
            · skip
              rcases Nat.lt_or_ge m 82 with h82 | h82
              · skip
                obtain rfl : m = 81 := by omega
                exact cw_81
              · skip
                rcases Nat.lt_or_ge m 83 with h83 | h83
                · skip
                  obtain rfl : m = 82 := by omega
                  exact cw_82
                · skip
                  obtain rfl : m = 83 := by omega
                  exact cw_83
            · skip
              rcases Nat.lt_or_ge m 85 with h85 | h85
              · skip
                obtain rfl : m = 84 := by omega
                exact cw_84
              · skip
                rcases Nat.lt_or_ge m 86 with h86 | h86
                · skip
                  obtain rfl : m = 85 := by omega
                  exact cw_85
                · skip
                  obtain rfl : m = 86 := by omega
                  exact cw_86
  · skip
    rcases Nat.lt_or_ge m 130 with h130 | h130
    · skip
      rcases Nat.lt_or_ge m 108 with h108 | h108
      · skip
        rcases Nat.lt_or_ge m 97 with h97 | h97
        · skip
          rcases Nat.lt_or_ge m 92 with h92 | h92
          · skip
            rcases Nat.lt_or_ge m 89 with h89 | h89
            · skip
              rcases Nat.lt_or_ge m 88 with h88 | h88
              · skip
                obtain rfl : m = 87 := by omega
                exact cw_87
              · skip
                obtain rfl : m = 88 := by omega
                exact cw_88
            · skip
              rcases Nat.lt_or_ge m 90 with h90 | h90
              · skip
                obtain rfl : m = 89 := by omega
                exact cw_89
              · skip
                rcases Nat.lt_or_ge m 91 with h91 | h91
                · skip
                  obtain rfl : m = 90 := by omega
                  exact cw_90
                · skip
                  obtain rfl : m = 91 := by omega
                  exact cw_91
          · skip
            rcases Nat.lt_or_ge m 94 with h94 | h94
            · skip
              rcases Nat.lt_or_ge m 93 with h93 | h93
              · skip
                obtain rfl : m = 92 := by omega
                exact cw_92
              · skip
                obtain rfl : m = 93 := by omega
                exact cw_93
            · skip
              rcases Nat.lt_or_ge m 95 with h95 | h95
              · skip
                obtain rfl : m = 94 := by omega
                exact cw_94
              · skip
                rcases Nat.lt_or_ge m 96 with h96 | h96
                · skip
                  obtain rfl : m = 95 := by omega
                  exact cw_95
                · skip
                  obtain rfl : m = 96 := by omega
                  exact cw_96
        · skip
          rcases Nat.lt_or_ge m 102 with h102 | h102
          · skip
            rcases Nat.lt_or_ge m 99 with h99 | h99
            · skip
              rcases Nat.lt_or_ge m 98 with h98 | h98
              · skip
                obtain rfl : m = 97 := by omega
                exact cw_97
              · skip
                obtain rfl : m = 98 := by omega
                exact cw_98
            · skip
              rcases Nat.lt_or_ge m 100 with h100 | h100
              · skip
                obtain rfl : m = 99 := by omega
                exact cw_99
              · skip
                rcases Nat.lt_or_ge m 101 with h101 | h101
                · skip
                  obtain rfl : m = 100 := by omega
                  exact cw_100
                · skip
                  obtain rfl : m = 101 := by omega
                  exact cw_101
          · skip
            rcases Nat.lt_or_ge m 105 with h105 | h105
            · skip
              rcases Nat.lt_or_ge m 103 with h103 | h103
              · skip
                obtain rfl : m = 102 := by omega
                exact cw_102
              · skip
                rcases Nat.lt_or_ge m 104 with h104 | h104
                · skip
                  obtain rfl : m = 103 := by omega
                  exact cw_103
                · skip
                  obtain rfl : m = 104 := by omega
                  exact cw_104
            · skip
              rcases Nat.lt_or_ge m 106 with h106 | h106
              · skip
                obtain rfl : m = 105 := by omega
                exact cw_105
              · skip
                rcases Nat.lt_or_ge m 107 with h107 | h107
                · skip
                  obtain rfl : m = 106 := by omega
                  exact cw_106
                · skip
                  obtain rfl : m = 107 := by omega
                  exact cw_107
      · skip
        rcases Nat.lt_or_ge m 119 with h119 | h119
        · skip
          rcases Nat.lt_or_ge m 113 with h113 | h113
          · skip
            rcases Nat.lt_or_ge m 110 with h110 | h110
            · skip
              rcases Nat.lt_or_ge m 109 with h109 | h109
              · skip
                obtain rfl : m = 108 := by omega
                exact cw_108
              · skip
                obtain rfl : m = 109 := by omega
                exact cw_109
            · skip
              rcases Nat.lt_or_ge m 111 with h111 | h111
              · skip
                obtain rfl : m = 110 := by omega
                exact cw_110
              · skip
                rcases Nat.lt_or_ge m 112 with h112 | h112
                · skip
                  obtain rfl : m = 111 := by omega
                  exact cw_111
                · skip
                  obtain rfl : m = 112 := by omega
                  exact cw_112
          · skip
            rcases Nat.lt_or_ge m 116 with h116 | h116
            · skip
              rcases Nat.lt_or_ge m 114 with h114 | h114
              · skip
                obtain rfl : m = 113 := by omega
                exact cw_113
              · skip
                rcases Nat.lt_or_ge m 115 with h115 | h115
                · skip
                  obtain rfl : m = 114 := by omega
                  exact cw_114
                · skip
                  obtain rfl : m = 115 := by omega
                  exact cw_115
            · skip
              rcases Nat.lt_or_ge m 117 with h117 | h117
              · skip
                obtain rfl : m = 116 := by omega
                exact cw_116
              · skip
                rcases Nat.lt_or_ge m 118 with h118 | h118
                · skip
                  obtain rfl : m = 117 := by omega
                  exact cw_117
                · skip
                  obtain rfl : m = 118 := by omega
                  exact cw_118
        · skip
          rcases Nat.lt_or_ge m 124 with h124 | h124
          · skip
            rcases Nat.lt_or_ge m 121 with h121 | h121
            · skip
              rcases Nat.lt_or_ge m 120 with h120 | h120
              · skip
                obtain rfl : m = 119 := by omega
                exact cw_119
              · skip
                obtain rfl : m = 120 := by omega
                exact cw_120
            · skip
              rcases Nat.lt_or_ge m 122 with h122 | h122
              · skip
                obtain rfl : m = 121 := by omega
                exact cw_121
              · skip
                rcases Nat.lt_or_ge m 123 with h123 | h123
                · skip
                  obtain rfl : m = 122 := by omega
                  exact cw_122
                · skip
                  obtain rfl : m = 123 := by omega
                  exact cw_123
          · skip
            rcases Nat.lt_or_ge m 127 with h127 | h127
            · skip
              rcases Nat.lt_or_ge m 125 with h125 | h125
              · skip
                obtain rfl : m = 124 := by omega
                exact cw_124
              · skip
                rcases Nat.lt_or_ge m 126 with h126 | h126
                · skip
                  obtain rfl : m = 125 := by omega
                  exact cw_125
                · skip
                  obtain rfl : m = 126 := by omega
                  exact cw_126
            · skip
              rcases Nat.lt_or_ge m 128 with h128 | h128
              · skip
                obtain rfl : m = 127 := by omega
                exact cw_127
              · skip
                rcases Nat.lt_or_ge m 129 with h129 | h129
                · skip
                  obtain rfl : m = 128 := by omega
                  exact cw_128
                · skip
                  obtain rfl : m = 129 := by omega
                  exact cw_129
    · skip
      rcases Nat.lt_or_ge m 152 with h152 | h152
      · skip
        rcases Nat.lt_or_ge m 141 with h141 | h141
        · skip
          rcases Nat.lt_or_ge m 135 with h135 | h135
          · skip
            rcases Nat.lt_or_ge m 132 with h132 | h132
            · skip
              rcases Nat.lt_or_ge m 131 with h131 | h131
              · skip
                obtain rfl : m = 130 := by omega
                exact cw_130
              · skip
                obtain rfl : m = 131 := by omega
                exact cw_131
            · skip
              rcases Nat.lt_or_ge m 133 with h133 | h133
              · skip
                obtain rfl : m = 132 := by omega
                exact cw_132
              · skip
                rcases Nat.lt_or_ge m 134 with h134 | h134
                · skip
                  obtain rfl : m = 133 := by omega
                  exact cw_133
                · skip
                  obtain rfl : m = 134 := by omega
                  exact cw_134
          · skip
            rcases Nat.lt_or_ge m 138 with h138 | h138
            · skip
              rcases Nat.lt_or_ge m 136 with h136 | h136
              · skip
                obtain rfl : m = 135 := by omega
                exact cw_135
              · skip
                rcases Nat.lt_or_ge m 137 with h137 | h137
                · skip
                  obtain rfl : m = 136 := by omega
                  exact cw_136
                · skip
                  obtain rfl : m = 137 := by omega
                  cases hf
            · skip
              rcases Nat.lt_or_ge m 139 with h139 | h139
              · skip
                obtain rfl : m = 138 := by omega
                cases hf
              · skip
                rcases Nat.lt_or_ge m 140 with h140 | h140
                · skip
                  obtain rfl : m = 139 := by omega
                  cases hf
                · skip
                  obtain rfl : m = 140 := by omega
                  cases hf
        · skip
          rcases Nat.lt_or_ge m 146 with h146 | h146
          · skip
            rcases Nat.lt_or_ge m 143 with h143 | h143
            · skip
              rcases Nat.lt_or_ge m 142 with h142 | h142
              · skip
                obtain rfl : m = 141 := by omega
                cases hf
              · skip
                obtain rfl : m = 142 := by omega
                cases hf
            · skip
              rcases Nat.lt_or_ge m 144 with h144 | h144
              · skip
                obtain rfl : m = 143 := by omega
                cases hf
              · skip
                rcases Nat.lt_or_ge m 145 with h145 | h145
                · skip
                  obtain rfl : m = 144 := by omega
                  cases hf
                · skip
                  obtain rfl : m = 145 := by omega
                  cases hf
          · skip
            rcases Nat.lt_or_ge m 149 with h149 | h149
            · skip
              rcases Nat.lt_or_ge m 147 with h147 | h147
              · skip
                obtain rfl : m = 146 := by omega
                cases hf
              · skip
                rcases Nat.lt_or_ge m 148 with h148 | h148
                · skip
                  obtain rfl : m = 147 := by omega
                  cases hf
                · skip
                  obtain rfl : m = 148 := by omega
                  cases hf
            · skip
              rcases Nat.lt_or_ge m 150 with h150 | h150
              · skip
                obtain rfl : m = 149 := by omega
                cases hf
              · skip
                rcases Nat.lt_or_ge m 151 with h151 | h151
                · skip
                  obtain rfl : m = 150 := by omega
                  cases hf
                · skip
                  obtain rfl : m = 151 := by omega
                  cases hf
      · skip
        rcases Nat.lt_or_ge m 163 with h163 | h163
        · skip
          rcases Nat.lt_or_ge m 157 with h157 | h157
          · skip
            rcases Nat.lt_or_ge m 154 with h154 | h154
            · skip
              rcases Nat.lt_or_ge m 153 with h153 | h153
              · skip
                obtain rfl : m = 152 := by omega
                cases hf
              · skip
                obtain rfl : m = 153 := by omega
                cases hf
            · skip
              rcases Nat.lt_or_ge m 155 with h155 | h155
              · skip
                obtain rfl : m = 154 := by omega
                cases hf
              · skip
                rcases Nat.lt_or_ge m 156 with h156 | h156
                · skip
                  obtain rfl : m = 155 := by omega
                  cases hf
                · skip
                  obtain rfl : m = 156 := by omega
                  cases hf
          · skip
            rcases Nat.lt_or_ge m 160 with h160 | h160
            · skip
              rcases Nat.lt_or_ge m 158 with h158 | h158
              · skip
                obtain rfl : m = 157 := by omega
                cases hf
              · skip
                rcases Nat.lt_or_ge m 159 with h159 | h159
                · skip
                  obtain rfl : m = 158 := by omega
                  cases hf
                · skip
                  obtain rfl : m = 159 := by omega
                  cases hf
            · skip
              rcases Nat.lt_or_ge m 161 with h161 | h161
              · skip
                obtain rfl : m = 160 := by omega
                exact cw_160
              · skip
                rcases Nat.lt_or_ge m 162 with h162 | h162
                · skip
                  obtain rfl : m = 161 := by omega
                  exact cw_161
                · skip
                  obtain rfl : m = 162 := by omega
                  exact cw_162
        · skip
          rcases Nat.lt_or_ge m 168 with h168 | h168
          · skip
            rcases Nat.lt_or_ge m 165 with h165 | h165
            · skip
              rcases Nat.lt_or_ge m 164 with h164 | h164
              · skip
                obtain rfl : m = 163 := by omega
                exact cw_163
              · skip
                obtain rfl : m = 164 := by omega
                exact cw_164
            · skip
              rcases Nat.lt_or_ge m 166 with h166 | h166
              · skip
                obtain rfl : m = 165 := by omega
                exact cw_165
              · skip
                rcases Nat.lt_or_ge m 167 with h167 | h167
                · skip
                  obtain rfl : m = 166 := by omega
                  exact cw_166
                · skip
                  obtain rfl : m = 167 := by omega
                  exact cw_167
          · skip
            rcases Nat.lt_or_ge m 171 with h171 | h171
            · skip
              rcases Nat.lt_or_ge m 169 with h169 | h169
              · skip
                obtain rfl : m = 168 := by omega
                exact cw_168
              · skip
                rcases Nat.lt_or_ge m 170 with h170 | h170
                · skip
                  obtain rfl : m = 169 := by omega
                  exact cw_169
                · skip
                  obtain rfl : m = 170 := by omega
                  exact cw_170
            · skip
              rcases Nat.lt_or_ge m 172 with h172 | h172
              · skip
                obtain rfl : m = 171 := by omega
                exact cw_171
              · skip
                rcases Nat.lt_or_ge m 173 with h173 | h173
                · skip
                  obtain rfl : m = 172 := by omega
                  exact cw_172
                · skip
                  obtain rfl : m = 173 := by omega
                  exact absurd rfl hl
theorem cw_all {m : Nat} {q : mI} (h : MTf m = some q) (hl : ¬ m = 173) : cwd q ∈ TW := by
  have h1 := cw_at m (MT_len h) (MTf_i h).1 hl
  rw [(MTf_i h).2] at h1
  exact h1
def okAb (e : ent) : Bool := (Nat.ble e.2.2.1 50 || (match e.1 with | .putfield _ => false | _ => true)) && (match e.1 with
  | .invokestatic _ => nm e.2.2.1 || Nat.beq e.2.2.2.2 3
  | .invokevirtual _ => nm e.2.2.1
  | .invokespecial _ => nm e.2.2.1 || Nat.beq e.2.2.2.2 2
  | _ => true)
def okAr (m lo n : Nat) : Bool := (List.range n).all (fun k => match trs m (lo + k) with | none => true | some e => okAb e)
theorem okAr_add {m lo n n2 lo2 n3 : Nat} (h : okAr m lo n = true) (h2 : okAr m lo2 n2 = true) (e1 : lo2 = lo + n) (e2 : n3 = n + n2) : okAr m lo n3 = true := by
  subst e1; subst e2
  unfold okAr at *
  refine List.all_eq_true.mpr (fun k hk => ?_)
  have hk := List.mem_range.mp hk
  by_cases hn : k < n
  · exact List.all_eq_true.mp h k (List.mem_range.mpr hn)
  · have h3 := List.all_eq_true.mp h2 (k - n) (List.mem_range.mpr (by omega))
    rw [show lo + n + (k - n) = lo + k by omega] at h3
    exact h3
theorem oa_0 : okAr 0 0 54 = true := by decide +kernel
theorem oa_1 : okAr 1 0 30 = true := by decide +kernel
theorem oa_2 : okAr 2 0 79 = true := by decide +kernel
theorem oa_3 : okAr 3 0 30 = true := by decide +kernel
theorem oa_4 : okAr 4 0 70 = true := by decide +kernel
theorem oa_5 : okAr 5 0 77 = true := by decide +kernel
theorem oa_6 : okAr 6 0 18 = true := by decide +kernel
theorem oa_7 : okAr 7 0 18 = true := by decide +kernel
theorem oa_8 : okAr 8 0 18 = true := by decide +kernel
theorem oa_9 : okAr 9 0 19 = true := by decide +kernel
theorem oa_10 : okAr 10 0 20 = true := by decide +kernel
theorem oa_11 : okAr 11 0 36 = true := by decide +kernel
theorem oa_12 : okAr 12 0 61 = true := by decide +kernel
theorem oa_13 : okAr 13 0 73 = true := by decide +kernel
theorem oa_14 : okAr 14 0 20 = true := by decide +kernel
theorem oa_15 : okAr 15 0 43 = true := by decide +kernel
theorem oa_16 : okAr 16 0 53 = true := by decide +kernel
theorem oa_17 : okAr 17 0 68 = true := by decide +kernel
theorem oa_18 : okAr 18 0 39 = true := by decide +kernel
theorem oa_19 : okAr 19 0 20 = true := by decide +kernel
theorem oa_20 : okAr 20 0 52 = true := by decide +kernel
theorem oa_21 : okAr 21 0 147 = true := by decide +kernel
theorem oa_22 : okAr 22 0 130 = true := by decide +kernel
theorem oa_23 : okAr 23 0 15 = true := by decide +kernel
theorem oa_24 : okAr 24 0 26 = true := by decide +kernel
theorem oa_25 : okAr 25 0 26 = true := by decide +kernel
theorem oa_26 : okAr 26 0 26 = true := by decide +kernel
theorem oa_27 : okAr 27 0 26 = true := by decide +kernel
theorem oa_28 : okAr 28 0 21 = true := by decide +kernel
theorem oa_29 : okAr 29 0 21 = true := by decide +kernel
theorem oa_30 : okAr 30 0 24 = true := by decide +kernel
theorem oa_31 : okAr 31 0 22 = true := by decide +kernel
theorem oa_32 : okAr 32 0 313 = true := by decide +kernel
theorem oa_33 : okAr 33 0 5 = true := by decide +kernel
theorem oa_34 : okAr 34 0 16 = true := by decide +kernel
theorem oa_35 : okAr 35 0 12 = true := by decide +kernel
theorem oa_36 : okAr 36 0 12 = true := by decide +kernel
theorem oa_37 : okAr 37 0 8 = true := by decide +kernel
theorem oa_38 : okAr 38 0 9 = true := by decide +kernel
theorem oa_39 : okAr 39 0 44 = true := by decide +kernel
theorem oa_40 : okAr 40 0 236 = true := by decide +kernel
theorem oa_41 : okAr 41 0 44 = true := by decide +kernel
theorem oa_42 : okAr 42 0 209 = true := by decide +kernel
theorem oa_43 : okAr 43 0 36 = true := by decide +kernel
theorem oa_44 : okAr 44 0 147 = true := by decide +kernel
theorem oa_45 : okAr 45 0 110 = true := by decide +kernel
theorem oa_46 : okAr 46 0 63 = true := by decide +kernel
theorem oa_47 : okAr 47 0 37 = true := by decide +kernel
theorem oa_48 : okAr 48 0 212 = true := by decide +kernel
theorem oa_49 : okAr 49 0 24 = true := by decide +kernel
theorem oa_50 : okAr 50 0 28 = true := by decide +kernel
theorem oa_51 : okAr 51 0 28 = true := by decide +kernel
theorem oa_52 : okAr 52 0 46 = true := by decide +kernel
theorem oa_53 : okAr 53 0 68 = true := by decide +kernel
theorem oa_54 : okAr 54 0 76 = true := by decide +kernel
theorem oa_55 : okAr 55 0 233 = true := by decide +kernel
theorem oa_56 : okAr 56 0 200 = true := by decide +kernel
theorem oa_57 : okAr 57 0 139 = true := by decide +kernel
theorem oa_58 : okAr 58 0 126 = true := by decide +kernel
theorem oa_59 : okAr 59 0 107 = true := by decide +kernel
theorem oa_60 : okAr 60 0 154 = true := by decide +kernel
theorem oa_61 : okAr 61 0 150 = true := by decide +kernel
theorem oa_62 : okAr 62 0 89 = true := by decide +kernel
theorem oa_63 : okAr 63 0 97 = true := by decide +kernel
theorem oa_64 : okAr 64 0 54 = true := by decide +kernel
theorem oa_65 : okAr 65 0 28 = true := by decide +kernel
theorem oa_66 : okAr 66 0 104 = true := by decide +kernel
theorem oa_67 : okAr 67 0 131 = true := by decide +kernel
theorem oa_68 : okAr 68 0 105 = true := by decide +kernel
theorem oa_69 : okAr 69 0 88 = true := by decide +kernel
theorem oa_70 : okAr 70 0 75 = true := by decide +kernel
theorem oa_71 : okAr 71 0 242 = true := by decide +kernel
theorem oa_72 : okAr 72 0 26 = true := by decide +kernel
theorem oa_73 : okAr 73 0 14 = true := by decide +kernel
theorem oa_74 : okAr 74 0 28 = true := by decide +kernel
theorem oa_75 : okAr 75 0 25 = true := by decide +kernel
theorem oa_76 : okAr 76 0 5 = true := by decide +kernel
theorem oa_77 : okAr 77 0 77 = true := by decide +kernel
theorem oa_78 : okAr 78 0 74 = true := by decide +kernel
theorem oa_79 : okAr 79 0 66 = true := by decide +kernel
theorem oa_80 : okAr 80 0 30 = true := by decide +kernel
theorem oa_81 : okAr 81 0 33 = true := by decide +kernel
theorem oa_82 : okAr 82 0 50 = true := by decide +kernel
theorem oa_83 : okAr 83 0 37 = true := by decide +kernel
theorem oa_84 : okAr 84 0 90 = true := by decide +kernel
theorem oa_85 : okAr 85 0 98 = true := by decide +kernel
theorem oa_86 : okAr 86 0 76 = true := by decide +kernel
theorem oa_87 : okAr 87 0 76 = true := by decide +kernel
theorem oa_88 : okAr 88 0 26 = true := by decide +kernel
theorem oa_89 : okAr 89 0 36 = true := by decide +kernel
theorem oa_90 : okAr 90 0 35 = true := by decide +kernel
theorem oa_91 : okAr 91 0 138 = true := by decide +kernel
theorem oa_92 : okAr 92 0 23 = true := by decide +kernel
theorem oa_93 : okAr 93 0 44 = true := by decide +kernel
theorem oa_94 : okAr 94 0 27 = true := by decide +kernel
theorem oa_95 : okAr 95 0 24 = true := by decide +kernel
theorem oa_96 : okAr 96 0 23 = true := by decide +kernel
theorem oa_97 : okAr 97 0 72 = true := by decide +kernel
theorem oa_98 : okAr 98 0 39 = true := by decide +kernel
theorem oa_99 : okAr 99 0 82 = true := by decide +kernel
theorem oa_100 : okAr 100 0 31 = true := by decide +kernel
theorem oa_101 : okAr 101 0 11 = true := by decide +kernel
theorem oa_102 : okAr 102 0 11 = true := by decide +kernel
theorem oa_103 : okAr 103 0 114 = true := by decide +kernel
theorem oa_104 : okAr 104 0 29 = true := by decide +kernel
theorem oa_105 : okAr 105 0 70 = true := by decide +kernel
theorem oa_106 : okAr 106 0 75 = true := by decide +kernel
theorem oa_107 : okAr 107 0 42 = true := by decide +kernel
theorem oa_108 : okAr 108 0 12 = true := by decide +kernel
theorem oa_109 : okAr 109 0 19 = true := by decide +kernel
theorem oa_110 : okAr 110 0 19 = true := by decide +kernel
theorem oa_111 : okAr 111 0 30 = true := by decide +kernel
theorem oa_112 : okAr 112 0 15 = true := by decide +kernel
theorem oa_113 : okAr 113 0 22 = true := by decide +kernel
theorem oa_114 : okAr 114 0 35 = true := by decide +kernel
theorem oa_115 : okAr 115 0 103 = true := by decide +kernel
theorem oa_116 : okAr 116 0 36 = true := by decide +kernel
theorem oa_117 : okAr 117 0 18 = true := by decide +kernel
theorem oa_118 : okAr 118 0 72 = true := by decide +kernel
theorem oa_119 : okAr 119 0 77 = true := by decide +kernel
theorem oa_120 : okAr 120 0 33 = true := by decide +kernel
theorem oa_121 : okAr 121 0 127 = true := by decide +kernel
theorem oa_122 : okAr 122 0 54 = true := by decide +kernel
theorem oa_123 : okAr 123 0 47 = true := by decide +kernel
theorem oa_124 : okAr 124 0 63 = true := by decide +kernel
theorem oa_125 : okAr 125 0 41 = true := by decide +kernel
theorem oa_126 : okAr 126 0 104 = true := by decide +kernel
theorem oa_127 : okAr 127 0 92 = true := by decide +kernel
theorem oa_128 : okAr 128 0 25 = true := by decide +kernel
theorem oa_129 : okAr 129 0 94 = true := by decide +kernel
theorem oa_130 : okAr 130 0 98 = true := by decide +kernel
theorem oa_131 : okAr 131 0 36 = true := by decide +kernel
theorem oa_132 : okAr 132 0 35 = true := by decide +kernel
theorem oa_133 : okAr 133 0 26 = true := by decide +kernel
theorem oa_134 : okAr 134 0 40 = true := by decide +kernel
theorem oa_135 : okAr 135 0 53 = true := by decide +kernel
theorem oa_136 : okAr 136 0 45 = true := by decide +kernel
theorem oa_137 : okAr 137 0 16 = true := by decide +kernel
theorem oa_138 : okAr 138 0 29 = true := by decide +kernel
theorem oa_139 : okAr 139 0 16 = true := by decide +kernel
theorem oa_140 : okAr 140 0 31 = true := by decide +kernel
theorem oa_141 : okAr 141 0 23 = true := by decide +kernel
theorem oa_142 : okAr 142 0 26 = true := by decide +kernel
theorem oa_143 : okAr 143 0 23 = true := by decide +kernel
theorem oa_144 : okAr 144 0 23 = true := by decide +kernel
theorem oa_145 : okAr 145 0 23 = true := by decide +kernel
theorem oa_146 : okAr 146 0 19 = true := by decide +kernel
theorem oa_147 : okAr 147 0 20 = true := by decide +kernel
theorem oa_148 : okAr 148 0 27 = true := by decide +kernel
theorem oa_149 : okAr 149 0 23 = true := by decide +kernel
theorem oa_150 : okAr 150 0 19 = true := by decide +kernel
theorem oa_151 : okAr 151 0 19 = true := by decide +kernel
theorem oa_152 : okAr 152 0 31 = true := by decide +kernel
theorem oa_153 : okAr 153 0 29 = true := by decide +kernel
theorem oa_154 : okAr 154 0 20 = true := by decide +kernel
theorem oa_155 : okAr 155 0 19 = true := by decide +kernel
theorem oa_156 : okAr 156 0 19 = true := by decide +kernel
theorem oa_157 : okAr 157 0 20 = true := by decide +kernel
theorem oa_158 : okAr 158 0 17 = true := by decide +kernel
theorem oa_159_0 : okAr 159 0 400 = true := by decide +kernel
theorem oa_159_1 : okAr 159 400 400 = true := by decide +kernel
theorem oa_159_2 : okAr 159 800 400 = true := by decide +kernel
theorem oa_159_3 : okAr 159 1200 400 = true := by decide +kernel
theorem oa_159_4 : okAr 159 1600 27 = true := by decide +kernel
theorem oa_159 : okAr 159 0 1627 = true := (okAr_add (lo := 0) (n := 1600) (n2 := 27) (lo2 := 1600) (n3 := 1627) (okAr_add (lo := 0) (n := 1200) (n2 := 400) (lo2 := 1200) (n3 := 1600) (okAr_add (lo := 0) (n := 800) (n2 := 400) (lo2 := 800) (n3 := 1200) (okAr_add (lo := 0) (n := 400) (n2 := 400) (lo2 := 400) (n3 := 800) oa_159_0 oa_159_1 (by decide) (by decide)) oa_159_2 (by decide) (by decide)) oa_159_3 (by decide) (by decide)) oa_159_4 (by decide) (by decide))
theorem oa_160 : okAr 160 0 11 = true := by decide +kernel
theorem oa_161 : okAr 161 0 21 = true := by decide +kernel
theorem oa_162 : okAr 162 0 342 = true := by decide +kernel
theorem oa_163_0 : okAr 163 0 400 = true := by decide +kernel
theorem oa_163_1 : okAr 163 400 400 = true := by decide +kernel
theorem oa_163_2 : okAr 163 800 299 = true := by decide +kernel
theorem oa_163 : okAr 163 0 1099 = true := (okAr_add (lo := 0) (n := 800) (n2 := 299) (lo2 := 800) (n3 := 1099) (okAr_add (lo := 0) (n := 400) (n2 := 400) (lo2 := 400) (n3 := 800) oa_163_0 oa_163_1 (by decide) (by decide)) oa_163_2 (by decide) (by decide))
theorem oa_164 : okAr 164 0 26 = true := by decide +kernel
theorem oa_165 : okAr 165 0 70 = true := by decide +kernel
theorem oa_166 : okAr 166 0 48 = true := by decide +kernel
theorem oa_167_0 : okAr 167 0 400 = true := by decide +kernel
theorem oa_167_1 : okAr 167 400 151 = true := by decide +kernel
theorem oa_167 : okAr 167 0 551 = true := (okAr_add (lo := 0) (n := 400) (n2 := 151) (lo2 := 400) (n3 := 551) oa_167_0 oa_167_1 (by decide) (by decide))
theorem oa_168_0 : okAr 168 0 400 = true := by decide +kernel
theorem oa_168_1 : okAr 168 400 206 = true := by decide +kernel
theorem oa_168 : okAr 168 0 606 = true := (okAr_add (lo := 0) (n := 400) (n2 := 206) (lo2 := 400) (n3 := 606) oa_168_0 oa_168_1 (by decide) (by decide))
theorem oa_169_0 : okAr 169 0 400 = true := by decide +kernel
theorem oa_169_1 : okAr 169 400 277 = true := by decide +kernel
theorem oa_169 : okAr 169 0 677 = true := (okAr_add (lo := 0) (n := 400) (n2 := 277) (lo2 := 400) (n3 := 677) oa_169_0 oa_169_1 (by decide) (by decide))
theorem oa_170_0 : okAr 170 0 400 = true := by decide +kernel
theorem oa_170_1 : okAr 170 400 289 = true := by decide +kernel
theorem oa_170 : okAr 170 0 689 = true := (okAr_add (lo := 0) (n := 400) (n2 := 289) (lo2 := 400) (n3 := 689) oa_170_0 oa_170_1 (by decide) (by decide))
theorem oa_171 : okAr 171 0 245 = true := by decide +kernel
theorem oa_172_0 : okAr 172 0 400 = true := by decide +kernel
theorem oa_172_1 : okAr 172 400 272 = true := by decide +kernel
theorem oa_172 : okAr 172 0 672 = true := (okAr_add (lo := 0) (n := 400) (n2 := 272) (lo2 := 400) (n3 := 672) oa_172_0 oa_172_1 (by decide) (by decide))
theorem oa_173_0 : okAr 173 0 400 = true := by decide +kernel
theorem oa_173_1 : okAr 173 400 400 = true := by decide +kernel
theorem oa_173_2 : okAr 173 800 400 = true := by decide +kernel
theorem oa_173_3 : okAr 173 1200 15 = true := by decide +kernel
theorem oa_173 : okAr 173 0 1215 = true := (okAr_add (lo := 0) (n := 1200) (n2 := 15) (lo2 := 1200) (n3 := 1215) (okAr_add (lo := 0) (n := 800) (n2 := 400) (lo2 := 800) (n3 := 1200) (okAr_add (lo := 0) (n := 400) (n2 := 400) (lo2 := 400) (n3 := 800) oa_173_0 oa_173_1 (by decide) (by decide)) oa_173_2 (by decide) (by decide)) oa_173_3 (by decide) (by decide))
theorem oa_at : ∀ m, m < 174 → okAr m 0 (mln m) = true := by
  intro m hm
  rcases Nat.lt_or_ge m 87 with h87 | h87
  · skip
    rcases Nat.lt_or_ge m 43 with h43 | h43
    · skip
      rcases Nat.lt_or_ge m 21 with h21 | h21
      · skip
        rcases Nat.lt_or_ge m 10 with h10 | h10
        · skip
          rcases Nat.lt_or_ge m 5 with h5 | h5
          · skip
            rcases Nat.lt_or_ge m 2 with h2 | h2
            · skip
              rcases Nat.lt_or_ge m 1 with h1 | h1
              · skip
                obtain rfl : m = 0 := by omega
                exact oa_0
              · skip
                obtain rfl : m = 1 := by omega
                exact oa_1
            · skip
              rcases Nat.lt_or_ge m 3 with h3 | h3
              · skip
                obtain rfl : m = 2 := by omega
                exact oa_2
              · skip
                rcases Nat.lt_or_ge m 4 with h4 | h4
                · skip
                  obtain rfl : m = 3 := by omega
                  exact oa_3
                · skip
                  obtain rfl : m = 4 := by omega
                  exact oa_4
          · skip
            rcases Nat.lt_or_ge m 7 with h7 | h7
            · skip
              rcases Nat.lt_or_ge m 6 with h6 | h6
              · skip
                obtain rfl : m = 5 := by omega
                exact oa_5
              · skip
                obtain rfl : m = 6 := by omega
                exact oa_6
            · skip
              rcases Nat.lt_or_ge m 8 with h8 | h8
              · skip
                obtain rfl : m = 7 := by omega
                exact oa_7
              · skip
                rcases Nat.lt_or_ge m 9 with h9 | h9
                · skip
                  obtain rfl : m = 8 := by omega
                  exact oa_8
                · skip
                  obtain rfl : m = 9 := by omega
                  exact oa_9
        · skip
          rcases Nat.lt_or_ge m 15 with h15 | h15
          · skip
            rcases Nat.lt_or_ge m 12 with h12 | h12
            · skip
              rcases Nat.lt_or_ge m 11 with h11 | h11
              · skip
                obtain rfl : m = 10 := by omega
                exact oa_10
              · skip
                obtain rfl : m = 11 := by omega
                exact oa_11
            · skip
              rcases Nat.lt_or_ge m 13 with h13 | h13
              · skip
                obtain rfl : m = 12 := by omega
                exact oa_12
              · skip
                rcases Nat.lt_or_ge m 14 with h14 | h14
                · skip
                  obtain rfl : m = 13 := by omega
                  exact oa_13
                · skip
                  obtain rfl : m = 14 := by omega
                  exact oa_14
          · skip
            rcases Nat.lt_or_ge m 18 with h18 | h18
            · skip
              rcases Nat.lt_or_ge m 16 with h16 | h16
              · skip
                obtain rfl : m = 15 := by omega
                exact oa_15
              · skip
                rcases Nat.lt_or_ge m 17 with h17 | h17
                · skip
                  obtain rfl : m = 16 := by omega
                  exact oa_16
                · skip
                  obtain rfl : m = 17 := by omega
                  exact oa_17
            · skip
              rcases Nat.lt_or_ge m 19 with h19 | h19
              · skip
                obtain rfl : m = 18 := by omega
                exact oa_18
              · skip
                rcases Nat.lt_or_ge m 20 with h20 | h20
                · skip
                  obtain rfl : m = 19 := by omega
                  exact oa_19
                · skip
                  obtain rfl : m = 20 := by omega
                  exact oa_20
      · skip
        rcases Nat.lt_or_ge m 32 with h32 | h32
        · skip
          rcases Nat.lt_or_ge m 26 with h26 | h26
          · skip
            rcases Nat.lt_or_ge m 23 with h23 | h23
            · skip
              rcases Nat.lt_or_ge m 22 with h22 | h22
              · skip
                obtain rfl : m = 21 := by omega
                exact oa_21
              · skip
                obtain rfl : m = 22 := by omega
                exact oa_22
            · skip
              rcases Nat.lt_or_ge m 24 with h24 | h24
              · skip
                obtain rfl : m = 23 := by omega
                exact oa_23
              · skip
                rcases Nat.lt_or_ge m 25 with h25 | h25
                · skip
                  obtain rfl : m = 24 := by omega
                  exact oa_24
                · skip
                  obtain rfl : m = 25 := by omega
                  exact oa_25
          · skip
            rcases Nat.lt_or_ge m 29 with h29 | h29
            · skip
              rcases Nat.lt_or_ge m 27 with h27 | h27
              · skip
                obtain rfl : m = 26 := by omega
                exact oa_26
              · skip
                rcases Nat.lt_or_ge m 28 with h28 | h28
                · skip
                  obtain rfl : m = 27 := by omega
                  exact oa_27
                · skip
                  obtain rfl : m = 28 := by omega
                  exact oa_28
            · skip
              rcases Nat.lt_or_ge m 30 with h30 | h30
              · skip
                obtain rfl : m = 29 := by omega
                exact oa_29
              · skip
                rcases Nat.lt_or_ge m 31 with h31 | h31
                · skip
                  obtain rfl : m = 30 := by omega
                  exact oa_30
                · skip
                  obtain rfl : m = 31 := by omega
                  exact oa_31
        · skip
          rcases Nat.lt_or_ge m 37 with h37 | h37
          · skip
            rcases Nat.lt_or_ge m 34 with h34 | h34
            · skip
              rcases Nat.lt_or_ge m 33 with h33 | h33
              · skip
                obtain rfl : m = 32 := by omega
                exact oa_32
              · skip
                obtain rfl : m = 33 := by omega
                exact oa_33
            · skip
              rcases Nat.lt_or_ge m 35 with h35 | h35
              · skip
                obtain rfl : m = 34 := by omega
                exact oa_34
              · skip
                rcases Nat.lt_or_ge m 36 with h36 | h36
                · skip
                  obtain rfl : m = 35 := by omega
                  exact oa_35
                · skip
                  obtain rfl : m = 36 := by omega
                  exact oa_36
          · skip
            rcases Nat.lt_or_ge m 40 with h40 | h40
            · skip
              rcases Nat.lt_or_ge m 38 with h38 | h38
              · skip
                obtain rfl : m = 37 := by omega
                exact oa_37
              · skip
                rcases Nat.lt_or_ge m 39 with h39 | h39
                · skip
                  obtain rfl : m = 38 := by omega
                  exact oa_38
                · skip
                  obtain rfl : m = 39 := by omega
                  exact oa_39
            · skip
              rcases Nat.lt_or_ge m 41 with h41 | h41
              · skip
                obtain rfl : m = 40 := by omega
                exact oa_40
              · skip
                rcases Nat.lt_or_ge m 42 with h42 | h42
                · skip
                  obtain rfl : m = 41 := by omega
                  exact oa_41
                · skip
                  obtain rfl : m = 42 := by omega
                  exact oa_42
    · skip
      rcases Nat.lt_or_ge m 65 with h65 | h65
      · skip
        rcases Nat.lt_or_ge m 54 with h54 | h54
        · skip
          rcases Nat.lt_or_ge m 48 with h48 | h48
          · skip
            rcases Nat.lt_or_ge m 45 with h45 | h45
            · skip
              rcases Nat.lt_or_ge m 44 with h44 | h44
              · skip
                obtain rfl : m = 43 := by omega
                exact oa_43
              · skip
                obtain rfl : m = 44 := by omega
                exact oa_44
            · skip
              rcases Nat.lt_or_ge m 46 with h46 | h46
              · skip
                obtain rfl : m = 45 := by omega
                exact oa_45
              · skip
                rcases Nat.lt_or_ge m 47 with h47 | h47
                · skip
                  obtain rfl : m = 46 := by omega
                  exact oa_46
                · skip
                  obtain rfl : m = 47 := by omega
                  exact oa_47
          · skip
            rcases Nat.lt_or_ge m 51 with h51 | h51
            · skip
              rcases Nat.lt_or_ge m 49 with h49 | h49
              · skip
                obtain rfl : m = 48 := by omega
                exact oa_48
              · skip
                rcases Nat.lt_or_ge m 50 with h50 | h50
                · skip
                  obtain rfl : m = 49 := by omega
                  exact oa_49
                · skip
                  obtain rfl : m = 50 := by omega
                  exact oa_50
            · skip
              rcases Nat.lt_or_ge m 52 with h52 | h52
              · skip
                obtain rfl : m = 51 := by omega
                exact oa_51
              · skip
                rcases Nat.lt_or_ge m 53 with h53 | h53
                · skip
                  obtain rfl : m = 52 := by omega
                  exact oa_52
                · skip
                  obtain rfl : m = 53 := by omega
                  exact oa_53
        · skip
          rcases Nat.lt_or_ge m 59 with h59 | h59
          · skip
            rcases Nat.lt_or_ge m 56 with h56 | h56
            · skip
              rcases Nat.lt_or_ge m 55 with h55 | h55
              · skip
                obtain rfl : m = 54 := by omega
                exact oa_54
              · skip
                obtain rfl : m = 55 := by omega
                exact oa_55
            · skip
              rcases Nat.lt_or_ge m 57 with h57 | h57
              · skip
                obtain rfl : m = 56 := by omega
                exact oa_56
              · skip
                rcases Nat.lt_or_ge m 58 with h58 | h58
                · skip
                  obtain rfl : m = 57 := by omega
                  exact oa_57
                · skip
                  obtain rfl : m = 58 := by omega
                  exact oa_58
          · skip
            rcases Nat.lt_or_ge m 62 with h62 | h62
            · skip
              rcases Nat.lt_or_ge m 60 with h60 | h60
              · skip
                obtain rfl : m = 59 := by omega
                exact oa_59
              · skip
                rcases Nat.lt_or_ge m 61 with h61 | h61
                · skip
                  obtain rfl : m = 60 := by omega
                  exact oa_60
                · skip
                  obtain rfl : m = 61 := by omega
                  exact oa_61
            · skip
              rcases Nat.lt_or_ge m 63 with h63 | h63
              · skip
                obtain rfl : m = 62 := by omega
                exact oa_62
              · skip
                rcases Nat.lt_or_ge m 64 with h64 | h64
                · skip
                  obtain rfl : m = 63 := by omega
                  exact oa_63
                · skip
                  obtain rfl : m = 64 := by omega
                  exact oa_64
      · skip
        rcases Nat.lt_or_ge m 76 with h76 | h76
        · skip
          rcases Nat.lt_or_ge m 70 with h70 | h70
          · skip
            rcases Nat.lt_or_ge m 67 with h67 | h67
            · skip
              rcases Nat.lt_or_ge m 66 with h66 | h66
              · skip
                obtain rfl : m = 65 := by omega
                exact oa_65
              · skip
                obtain rfl : m = 66 := by omega
                exact oa_66
            · skip
              rcases Nat.lt_or_ge m 68 with h68 | h68
              · skip
                obtain rfl : m = 67 := by omega
                exact oa_67
              · skip
                rcases Nat.lt_or_ge m 69 with h69 | h69
                · skip
                  obtain rfl : m = 68 := by omega
                  exact oa_68
                · skip
                  obtain rfl : m = 69 := by omega
                  exact oa_69
          · skip
            rcases Nat.lt_or_ge m 73 with h73 | h73
            · skip
              rcases Nat.lt_or_ge m 71 with h71 | h71
              · skip
                obtain rfl : m = 70 := by omega
                exact oa_70
              · skip
                rcases Nat.lt_or_ge m 72 with h72 | h72
                · skip
                  obtain rfl : m = 71 := by omega
                  exact oa_71
                · skip
                  obtain rfl : m = 72 := by omega
                  exact oa_72
            · skip
              rcases Nat.lt_or_ge m 74 with h74 | h74
              · skip
                obtain rfl : m = 73 := by omega
                exact oa_73
              · skip
                rcases Nat.lt_or_ge m 75 with h75 | h75
                · skip
                  obtain rfl : m = 74 := by omega
                  exact oa_74
                · skip
                  obtain rfl : m = 75 := by omega
                  exact oa_75
        · skip
          rcases Nat.lt_or_ge m 81 with h81 | h81
          · skip
            rcases Nat.lt_or_ge m 78 with h78 | h78
            · skip
              rcases Nat.lt_or_ge m 77 with h77 | h77
              · skip
                obtain rfl : m = 76 := by omega
                exact oa_76
              · skip
                obtain rfl : m = 77 := by omega
                exact oa_77
            · skip
              rcases Nat.lt_or_ge m 79 with h79 | h79
              · skip
                obtain rfl : m = 78 := by omega
                exact oa_78
              · skip
                rcases Nat.lt_or_ge m 80 with h80 | h80
                · skip
                  obtain rfl : m = 79 := by omega
                  exact oa_79
                · skip
                  obtain rfl : m = 80 := by omega
                  exact oa_80
          · skip
            rcases Nat.lt_or_ge m 84 with h84 | h84
            · skip
              rcases Nat.lt_or_ge m 82 with h82 | h82
              · skip
                obtain rfl : m = 81 := by omega
                exact oa_81
              · skip
                rcases Nat.lt_or_ge m 83 with h83 | h83
                · skip
                  obtain rfl : m = 82 := by omega
                  exact oa_82
                · skip
                  obtain rfl : m = 83 := by omega
                  exact oa_83
            · skip
              rcases Nat.lt_or_ge m 85 with h85 | h85
              · skip
                obtain rfl : m = 84 := by omega
                exact oa_84
              · skip
                rcases Nat.lt_or_ge m 86 with h86 | h86
                · skip
                  obtain rfl : m = 85 := by omega
                  exact oa_85
                · skip
                  obtain rfl : m = 86 := by omega
                  exact oa_86
  · skip
    rcases Nat.lt_or_ge m 130 with h130 | h130
    · skip
      rcases Nat.lt_or_ge m 108 with h108 | h108
      · skip
        rcases Nat.lt_or_ge m 97 with h97 | h97
        · skip
          rcases Nat.lt_or_ge m 92 with h92 | h92
          · skip
            rcases Nat.lt_or_ge m 89 with h89 | h89
            · skip
              rcases Nat.lt_or_ge m 88 with h88 | h88
              · skip
                obtain rfl : m = 87 := by omega
                exact oa_87
              · skip
                obtain rfl : m = 88 := by omega
                exact oa_88
            · skip
              rcases Nat.lt_or_ge m 90 with h90 | h90
              · skip
                obtain rfl : m = 89 := by omega
                exact oa_89
              · skip
                rcases Nat.lt_or_ge m 91 with h91 | h91
                · skip
                  obtain rfl : m = 90 := by omega
                  exact oa_90
                · skip
                  obtain rfl : m = 91 := by omega
                  exact oa_91
          · skip
            rcases Nat.lt_or_ge m 94 with h94 | h94
            · skip
              rcases Nat.lt_or_ge m 93 with h93 | h93
              · skip
                obtain rfl : m = 92 := by omega
                exact oa_92
              · skip
                obtain rfl : m = 93 := by omega
                exact oa_93
            · skip
              rcases Nat.lt_or_ge m 95 with h95 | h95
              · skip
                obtain rfl : m = 94 := by omega
                exact oa_94
              · skip
                rcases Nat.lt_or_ge m 96 with h96 | h96
                · skip
                  obtain rfl : m = 95 := by omega
                  exact oa_95
                · skip
                  obtain rfl : m = 96 := by omega
                  exact oa_96
        · skip
          rcases Nat.lt_or_ge m 102 with h102 | h102
          · skip
            rcases Nat.lt_or_ge m 99 with h99 | h99
            · skip
              rcases Nat.lt_or_ge m 98 with h98 | h98
              · skip
                obtain rfl : m = 97 := by omega
                exact oa_97
              · skip
                obtain rfl : m = 98 := by omega
                exact oa_98
            · skip
              rcases Nat.lt_or_ge m 100 with h100 | h100
              · skip
                obtain rfl : m = 99 := by omega
                exact oa_99
              · skip
                rcases Nat.lt_or_ge m 101 with h101 | h101
                · skip
                  obtain rfl : m = 100 := by omega
                  exact oa_100
                · skip
                  obtain rfl : m = 101 := by omega
                  exact oa_101
          · skip
            rcases Nat.lt_or_ge m 105 with h105 | h105
            · skip
              rcases Nat.lt_or_ge m 103 with h103 | h103
              · skip
                obtain rfl : m = 102 := by omega
                exact oa_102
              · skip
                rcases Nat.lt_or_ge m 104 with h104 | h104
                · skip
                  obtain rfl : m = 103 := by omega
                  exact oa_103
                · skip
                  obtain rfl : m = 104 := by omega
                  exact oa_104
            · skip
              rcases Nat.lt_or_ge m 106 with h106 | h106
              · skip
                obtain rfl : m = 105 := by omega
                exact oa_105
              · skip
                rcases Nat.lt_or_ge m 107 with h107 | h107
                · skip
                  obtain rfl : m = 106 := by omega
                  exact oa_106
                · skip
                  obtain rfl : m = 107 := by omega
                  exact oa_107
      · skip
        rcases Nat.lt_or_ge m 119 with h119 | h119
        · skip
          rcases Nat.lt_or_ge m 113 with h113 | h113
          · skip
            rcases Nat.lt_or_ge m 110 with h110 | h110
            · skip
              rcases Nat.lt_or_ge m 109 with h109 | h109
              · skip
                obtain rfl : m = 108 := by omega
                exact oa_108
              · skip
                obtain rfl : m = 109 := by omega
                exact oa_109
            · skip
              rcases Nat.lt_or_ge m 111 with h111 | h111
              · skip
                obtain rfl : m = 110 := by omega
                exact oa_110
              · skip
                rcases Nat.lt_or_ge m 112 with h112 | h112
                · skip
                  obtain rfl : m = 111 := by omega
                  exact oa_111
                · skip
                  obtain rfl : m = 112 := by omega
                  exact oa_112
          · skip
            rcases Nat.lt_or_ge m 116 with h116 | h116
            · skip
              rcases Nat.lt_or_ge m 114 with h114 | h114
              · skip
                obtain rfl : m = 113 := by omega
                exact oa_113
              · skip
                rcases Nat.lt_or_ge m 115 with h115 | h115
                · skip
                  obtain rfl : m = 114 := by omega
                  exact oa_114
                · skip
                  obtain rfl : m = 115 := by omega
                  exact oa_115
            · skip
              rcases Nat.lt_or_ge m 117 with h117 | h117
              · skip
                obtain rfl : m = 116 := by omega
                exact oa_116
              · skip
                rcases Nat.lt_or_ge m 118 with h118 | h118
                · skip
                  obtain rfl : m = 117 := by omega
                  exact oa_117
                · skip
                  obtain rfl : m = 118 := by omega
                  exact oa_118
        · skip
          rcases Nat.lt_or_ge m 124 with h124 | h124
          · skip
            rcases Nat.lt_or_ge m 121 with h121 | h121
            · skip
              rcases Nat.lt_or_ge m 120 with h120 | h120
              · skip
                obtain rfl : m = 119 := by omega
                exact oa_119
              · skip
                obtain rfl : m = 120 := by omega
                exact oa_120
            · skip
              rcases Nat.lt_or_ge m 122 with h122 | h122
              · skip
                obtain rfl : m = 121 := by omega
                exact oa_121
              · skip
                rcases Nat.lt_or_ge m 123 with h123 | h123
                · skip
                  obtain rfl : m = 122 := by omega
                  exact oa_122
                · skip
                  obtain rfl : m = 123 := by omega
                  exact oa_123
          · skip
            rcases Nat.lt_or_ge m 127 with h127 | h127
            · skip
              rcases Nat.lt_or_ge m 125 with h125 | h125
              · skip
                obtain rfl : m = 124 := by omega
                exact oa_124
              · skip
                rcases Nat.lt_or_ge m 126 with h126 | h126
                · skip
                  obtain rfl : m = 125 := by omega
                  exact oa_125
                · skip
                  obtain rfl : m = 126 := by omega
                  exact oa_126
            · skip
              rcases Nat.lt_or_ge m 128 with h128 | h128
              · skip
                obtain rfl : m = 127 := by omega
                exact oa_127
              · skip
                rcases Nat.lt_or_ge m 129 with h129 | h129
                · skip
                  obtain rfl : m = 128 := by omega
                  exact oa_128
                · skip
                  obtain rfl : m = 129 := by omega
                  exact oa_129
    · skip
      rcases Nat.lt_or_ge m 152 with h152 | h152
      · skip
        rcases Nat.lt_or_ge m 141 with h141 | h141
        · skip
          rcases Nat.lt_or_ge m 135 with h135 | h135
          · skip
            rcases Nat.lt_or_ge m 132 with h132 | h132
            · skip
              rcases Nat.lt_or_ge m 131 with h131 | h131
              · skip
                obtain rfl : m = 130 := by omega
                exact oa_130
              · skip
                obtain rfl : m = 131 := by omega
                exact oa_131
            · skip
              rcases Nat.lt_or_ge m 133 with h133 | h133
              · skip
                obtain rfl : m = 132 := by omega
                exact oa_132
              · skip
                rcases Nat.lt_or_ge m 134 with h134 | h134
                · skip
                  obtain rfl : m = 133 := by omega
                  exact oa_133
                · skip
                  obtain rfl : m = 134 := by omega
                  exact oa_134
          · skip
            rcases Nat.lt_or_ge m 138 with h138 | h138
            · skip
              rcases Nat.lt_or_ge m 136 with h136 | h136
              · skip
                obtain rfl : m = 135 := by omega
                exact oa_135
              · skip
                rcases Nat.lt_or_ge m 137 with h137 | h137
                · skip
                  obtain rfl : m = 136 := by omega
                  exact oa_136
                · skip
                  obtain rfl : m = 137 := by omega
                  exact oa_137
            · skip
              rcases Nat.lt_or_ge m 139 with h139 | h139
              · skip
                obtain rfl : m = 138 := by omega
                exact oa_138
              · skip
                rcases Nat.lt_or_ge m 140 with h140 | h140
                · skip
                  obtain rfl : m = 139 := by omega
                  exact oa_139
                · skip
                  obtain rfl : m = 140 := by omega
                  exact oa_140
        · skip
          rcases Nat.lt_or_ge m 146 with h146 | h146
          · skip
            rcases Nat.lt_or_ge m 143 with h143 | h143
            · skip
              rcases Nat.lt_or_ge m 142 with h142 | h142
              · skip
                obtain rfl : m = 141 := by omega
                exact oa_141
              · skip
                obtain rfl : m = 142 := by omega
                exact oa_142
            · skip
              rcases Nat.lt_or_ge m 144 with h144 | h144
              · skip
                obtain rfl : m = 143 := by omega
                exact oa_143
              · skip
                rcases Nat.lt_or_ge m 145 with h145 | h145
                · skip
                  obtain rfl : m = 144 := by omega
                  exact oa_144
                · skip
                  obtain rfl : m = 145 := by omega
                  exact oa_145
          · skip
            rcases Nat.lt_or_ge m 149 with h149 | h149
            · skip
              rcases Nat.lt_or_ge m 147 with h147 | h147
              · skip
                obtain rfl : m = 146 := by omega
                exact oa_146
              · skip
                rcases Nat.lt_or_ge m 148 with h148 | h148
                · skip
                  obtain rfl : m = 147 := by omega
                  exact oa_147
                · skip
                  obtain rfl : m = 148 := by omega
                  exact oa_148
            · skip
              rcases Nat.lt_or_ge m 150 with h150 | h150
              · skip
                obtain rfl : m = 149 := by omega
                exact oa_149
              · skip
                rcases Nat.lt_or_ge m 151 with h151 | h151
                · skip
                  obtain rfl : m = 150 := by omega
                  exact oa_150
                · skip
                  obtain rfl : m = 151 := by omega
                  exact oa_151
      · skip
        rcases Nat.lt_or_ge m 163 with h163 | h163
        · skip
          rcases Nat.lt_or_ge m 157 with h157 | h157
          · skip
            rcases Nat.lt_or_ge m 154 with h154 | h154
            · skip
              rcases Nat.lt_or_ge m 153 with h153 | h153
              · skip
                obtain rfl : m = 152 := by omega
                exact oa_152
              · skip
                obtain rfl : m = 153 := by omega
                exact oa_153
            · skip
              rcases Nat.lt_or_ge m 155 with h155 | h155
              · skip
                obtain rfl : m = 154 := by omega
                exact oa_154
              · skip
                rcases Nat.lt_or_ge m 156 with h156 | h156
                · skip
                  obtain rfl : m = 155 := by omega
                  exact oa_155
                · skip
                  obtain rfl : m = 156 := by omega
                  exact oa_156
          · skip
            rcases Nat.lt_or_ge m 160 with h160 | h160
            · skip
              rcases Nat.lt_or_ge m 158 with h158 | h158
              · skip
                obtain rfl : m = 157 := by omega
                exact oa_157
              · skip
                rcases Nat.lt_or_ge m 159 with h159 | h159
                · skip
                  obtain rfl : m = 158 := by omega
                  exact oa_158
                · skip
                  obtain rfl : m = 159 := by omega
                  exact oa_159
            · skip
              rcases Nat.lt_or_ge m 161 with h161 | h161
              · skip
                obtain rfl : m = 160 := by omega
                exact oa_160
              · skip
                rcases Nat.lt_or_ge m 162 with h162 | h162
                · skip
                  obtain rfl : m = 161 := by omega
                  exact oa_161
                · skip
                  obtain rfl : m = 162 := by omega
                  exact oa_162
        · skip
          rcases Nat.lt_or_ge m 168 with h168 | h168
          · skip
            rcases Nat.lt_or_ge m 165 with h165 | h165
            · skip
              rcases Nat.lt_or_ge m 164 with h164 | h164
              · skip
                obtain rfl : m = 163 := by omega
                exact oa_163
              · skip
                obtain rfl : m = 164 := by omega
                exact oa_164
            · skip
              rcases Nat.lt_or_ge m 166 with h166 | h166
              · skip
                obtain rfl : m = 165 := by omega
                exact oa_165
              · skip
                rcases Nat.lt_or_ge m 167 with h167 | h167
                · skip
                  obtain rfl : m = 166 := by omega
                  exact oa_166
                · skip
                  obtain rfl : m = 167 := by omega
                  exact oa_167
          · skip
            rcases Nat.lt_or_ge m 171 with h171 | h171
            · skip
              rcases Nat.lt_or_ge m 169 with h169 | h169
              · skip
                obtain rfl : m = 168 := by omega
                exact oa_168
              · skip
                rcases Nat.lt_or_ge m 170 with h170 | h170
                · skip
                  obtain rfl : m = 169 := by omega
                  exact oa_169
                · skip
                  obtain rfl : m = 170 := by omega
                  exact oa_170
            · skip
              rcases Nat.lt_or_ge m 172 with h172 | h172
              · skip
                obtain rfl : m = 171 := by omega
                exact oa_171
              · skip
                rcases Nat.lt_or_ge m 173 with h173 | h173
                · skip
                  obtain rfl : m = 172 := by omega
                  exact oa_172
                · skip
                  obtain rfl : m = 173 := by omega
                  exact oa_173
theorem okAall (m pc : Nat) (e : ent) (h : cd m pc = some e) : okA e := by
  rcases cd_inv h with ⟨_, h1⟩ | ⟨h1, h2, h3⟩
  · subst h1; exact ⟨Or.inr (fun j h => by cases h), (fun j h => by cases h), (fun j h => by cases h), (fun j h => by cases h)⟩
  · have h5 := List.all_eq_true.mp (oa_at m h1) pc (List.mem_range.mpr h2)
    rw [Nat.zero_add, h3] at h5
    exact okA_of h5
theorem okm_0 : (match MTf 167 with | none => false | some q => okE 167 q 527 (.invokestatic 106, 3, 170, 0, 0) [0, 811, 813, 812, 14]) = true := by decide +kernel
theorem okm_1 : (match MTf 167 with | none => false | some q => okE 167 q 533 (.invokestatic 110, 3, 171, 0, 0) [0, 814, 816, 815, 14]) = true := by decide +kernel
theorem okm_2 : (match MTf 167 with | none => false | some q => okE 167 q 539 (.invokestatic 113, 3, 172, 0, 0) [0, 817, 819, 818, 14]) = true := by decide +kernel
theorem okm_3 : (match MTf 173 with | none => false | some q => okE 173 q 0 (.invokestatic 126, 3, 167, 0, 0) [0, 793, 795, 794, 14]) = true := by decide +kernel
theorem okm_4 : (match MTf 173 with | none => false | some q => okE 173 q 8 (.new 8, 3, 10, 0, 0) [34, 35, 15]) = true := by decide +kernel
theorem mkd_inv {m pc : Nat} {e : ent} (h : mkd m pc = some e) : nm m = false ∧ ((m = 167 ∧ pc = 527 ∧ e = (.invokestatic 106, 3, 170, 0, 0)) ∨ (m = 167 ∧ pc = 533 ∧ e = (.invokestatic 110, 3, 171, 0, 0)) ∨ (m = 167 ∧ pc = 539 ∧ e = (.invokestatic 113, 3, 172, 0, 0)) ∨ (m = 173 ∧ pc = 0 ∧ e = (.invokestatic 126, 3, 167, 0, 0)) ∨ (m = 173 ∧ pc = 8 ∧ e = (.new 8, 3, 10, 0, 0))) := by
  unfold mkd at h
  cases g : nm m
  · rw [g] at h
    refine ⟨rfl, ?_⟩
    have h : (bif Nat.beq m 167 && Nat.beq pc 527 then some (.invokestatic 106, 3, 170, 0, 0) else bif Nat.beq m 167 && Nat.beq pc 533 then some (.invokestatic 110, 3, 171, 0, 0) else bif Nat.beq m 167 && Nat.beq pc 539 then some (.invokestatic 113, 3, 172, 0, 0) else bif Nat.beq m 173 && Nat.beq pc 0 then some (.invokestatic 126, 3, 167, 0, 0) else bif Nat.beq m 173 && Nat.beq pc 8 then some (.new 8, 3, 10, 0, 0) else none) = some e := h
    cases g0 : (Nat.beq m 167 && Nat.beq pc 527)
    case true =>
      rw [g0] at h
      have h : some (.invokestatic 106, 3, 170, 0, 0) = some e := h
      cases h
      obtain ⟨a1, a2⟩ := and2 g0
      exact Or.inl ⟨beqN a1, beqN a2, rfl⟩
    rw [g0] at h
    have h : (bif Nat.beq m 167 && Nat.beq pc 533 then some (.invokestatic 110, 3, 171, 0, 0) else bif Nat.beq m 167 && Nat.beq pc 539 then some (.invokestatic 113, 3, 172, 0, 0) else bif Nat.beq m 173 && Nat.beq pc 0 then some (.invokestatic 126, 3, 167, 0, 0) else bif Nat.beq m 173 && Nat.beq pc 8 then some (.new 8, 3, 10, 0, 0) else none) = some e := h
    cases g1 : (Nat.beq m 167 && Nat.beq pc 533)
    case true =>
      rw [g1] at h
      have h : some (.invokestatic 110, 3, 171, 0, 0) = some e := h
      cases h
      obtain ⟨a1, a2⟩ := and2 g1
      exact Or.inr (Or.inl ⟨beqN a1, beqN a2, rfl⟩)
    rw [g1] at h
    have h : (bif Nat.beq m 167 && Nat.beq pc 539 then some (.invokestatic 113, 3, 172, 0, 0) else bif Nat.beq m 173 && Nat.beq pc 0 then some (.invokestatic 126, 3, 167, 0, 0) else bif Nat.beq m 173 && Nat.beq pc 8 then some (.new 8, 3, 10, 0, 0) else none) = some e := h
    cases g2 : (Nat.beq m 167 && Nat.beq pc 539)
    case true =>
      rw [g2] at h
      have h : some (.invokestatic 113, 3, 172, 0, 0) = some e := h
      cases h
      obtain ⟨a1, a2⟩ := and2 g2
      exact Or.inr (Or.inr (Or.inl ⟨beqN a1, beqN a2, rfl⟩))
    rw [g2] at h
    have h : (bif Nat.beq m 173 && Nat.beq pc 0 then some (.invokestatic 126, 3, 167, 0, 0) else bif Nat.beq m 173 && Nat.beq pc 8 then some (.new 8, 3, 10, 0, 0) else none) = some e := h
    cases g3 : (Nat.beq m 173 && Nat.beq pc 0)
    case true =>
      rw [g3] at h
      have h : some (.invokestatic 126, 3, 167, 0, 0) = some e := h
      cases h
      obtain ⟨a1, a2⟩ := and2 g3
      exact Or.inr (Or.inr (Or.inr (Or.inl ⟨beqN a1, beqN a2, rfl⟩)))
    rw [g3] at h
    have h : (bif Nat.beq m 173 && Nat.beq pc 8 then some (.new 8, 3, 10, 0, 0) else none) = some e := h
    cases g4 : (Nat.beq m 173 && Nat.beq pc 8)
    case true =>
      rw [g4] at h
      have h : some (.new 8, 3, 10, 0, 0) = some e := h
      cases h
      obtain ⟨a1, a2⟩ := and2 g4
      exact Or.inr (Or.inr (Or.inr (Or.inr (⟨beqN a1, beqN a2, rfl⟩))))
    rw [g4] at h
    have h : (none) = some e := h
    cases h
  · rw [g] at h
    cases h
theorem okMk {m pc : Nat} {q : mI} {e : ent} (hq : MTf m = some q) (h : mkd m pc = some e) : ∃ w, okE m q pc e w = true := by
  rcases (mkd_inv h).2 with ⟨rfl, rfl, rfl⟩ | ⟨rfl, rfl, rfl⟩ | ⟨rfl, rfl, rfl⟩ | ⟨rfl, rfl, rfl⟩ | ⟨rfl, rfl, rfl⟩
  · have h9 := okm_0
    rw [hq] at h9
    exact ⟨_, h9⟩
  · have h9 := okm_1
    rw [hq] at h9
    exact ⟨_, h9⟩
  · have h9 := okm_2
    rw [hq] at h9
    exact ⟨_, h9⟩
  · have h9 := okm_3
    rw [hq] at h9
    exact ⟨_, h9⟩
  · have h9 := okm_4
    rw [hq] at h9
    exact ⟨_, h9⟩
