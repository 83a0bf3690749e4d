theorem ok_at : ∀ m, m < 162 → ∃ w, okR m w 0 (mln m) = true := by
  intro m hm
  rcases Nat.lt_or_ge m 81 with h81 | h81
  · skip
    rcases Nat.lt_or_ge m 40 with h40 | h40
    · skip
      rcases Nat.lt_or_ge m 20 with h20 | h20
      · skip
        rcases Nat.lt_or_ge m 10 with h10 | h10
        · skip
          rcases Nat.lt_or_ge m 5 with h5 | h5
          · skip
            rcases Nat.lt_or_ge m 2 with h2 | h2
            · skip
              rcases Nat.lt_or_ge m 1 with h1 | h1
              · skip
                obtain rfl : m = 0 := by omega
                exact ⟨_, ok_0⟩
              · skip
                obtain rfl : m = 1 := by omega
                exact ⟨_, ok_1⟩
            · skip
              rcases Nat.lt_or_ge m 3 with h3 | h3
              · skip
                obtain rfl : m = 2 := by omega
                exact ⟨_, ok_2⟩
              · skip
                rcases Nat.lt_or_ge m 4 with h4 | h4
                · skip
                  obtain rfl : m = 3 := by omega
                  exact ⟨_, ok_3⟩
                · skip
                  obtain rfl : m = 4 := by omega
                  exact ⟨_, ok_4⟩
          · skip
            rcases Nat.lt_or_ge m 7 with h7 | h7
            · skip
              rcases Nat.lt_or_ge m 6 with h6 | h6
              · skip
                obtain rfl : m = 5 := by omega
                exact ⟨_, ok_5⟩
              · skip
                obtain rfl : m = 6 := by omega
                exact ⟨_, ok_6⟩
            · skip
              rcases Nat.lt_or_ge m 8 with h8 | h8
              · skip
                obtain rfl : m = 7 := by omega
                exact ⟨_, ok_7⟩
              · skip
                rcases Nat.lt_or_ge m 9 with h9 | h9
                · skip
                  obtain rfl : m = 8 := by omega
                  exact ⟨_, ok_8⟩
                · skip
                  obtain rfl : m = 9 := by omega
                  exact ⟨_, ok_9⟩
        · skip
          rcases Nat.lt_or_ge m 15 with h15 | h15
          · skip
            rcases Nat.lt_or_ge m 12 with h12 | h12
            · skip
              rcases Nat.lt_or_ge m 11 with h11 | h11
              · skip
                obtain rfl : m = 10 := by omega
                exact ⟨_, ok_10⟩
              · skip
                obtain rfl : m = 11 := by omega
                exact ⟨_, ok_11⟩
            · skip
              rcases Nat.lt_or_ge m 13 with h13 | h13
              · skip
                obtain rfl : m = 12 := by omega
                exact ⟨_, ok_12⟩
              · skip
                rcases Nat.lt_or_ge m 14 with h14 | h14
                · skip
                  obtain rfl : m = 13 := by omega
                  exact ⟨_, ok_13⟩
                · skip
                  obtain rfl : m = 14 := by omega
                  exact ⟨_, ok_14⟩
          · skip
            rcases Nat.lt_or_ge m 17 with h17 | h17
            · skip
              rcases Nat.lt_or_ge m 16 with h16 | h16
              · skip
                obtain rfl : m = 15 := by omega
                exact ⟨_, ok_15⟩
              · skip
                obtain rfl : m = 16 := by omega
                exact ⟨_, ok_16⟩
            · skip
              rcases Nat.lt_or_ge m 18 with h18 | h18
              · skip
                obtain rfl : m = 17 := by omega
                exact ⟨_, ok_17⟩
              · skip
                rcases Nat.lt_or_ge m 19 with h19 | h19
                · skip
                  obtain rfl : m = 18 := by omega
                  exact ⟨_, ok_18⟩
                · skip
                  obtain rfl : m = 19 := by omega
                  exact ⟨_, ok_19⟩
      · skip
        rcases Nat.lt_or_ge m 30 with h30 | h30
        · skip
          rcases Nat.lt_or_ge m 25 with h25 | h25
          · skip
            rcases Nat.lt_or_ge m 22 with h22 | h22
            · skip
              rcases Nat.lt_or_ge m 21 with h21 | h21
              · skip
                obtain rfl : m = 20 := by omega
                exact ⟨_, ok_20⟩
              · skip
                obtain rfl : m = 21 := by omega
                exact ⟨_, ok_21⟩
            · skip
              rcases Nat.lt_or_ge m 23 with h23 | h23
              · skip
                obtain rfl : m = 22 := by omega
                exact ⟨_, ok_22⟩
              · skip
                rcases Nat.lt_or_ge m 24 with h24 | h24
                · skip
                  obtain rfl : m = 23 := by omega
                  exact ⟨_, ok_23⟩
                · skip
                  obtain rfl : m = 24 := by omega
                  exact ⟨_, ok_24⟩
          · skip
            rcases Nat.lt_or_ge m 27 with h27 | h27
            · skip
              rcases Nat.lt_or_ge m 26 with h26 | h26
              · skip
                obtain rfl : m = 25 := by omega
                exact ⟨_, ok_25⟩
              · skip
                obtain rfl : m = 26 := by omega
                exact ⟨_, ok_26⟩
            · skip
              rcases Nat.lt_or_ge m 28 with h28 | h28
              · skip
                obtain rfl : m = 27 := by omega
                exact ⟨_, ok_27⟩
              · skip
                rcases Nat.lt_or_ge m 29 with h29 | h29
                · skip
                  obtain rfl : m = 28 := by omega
                  exact ⟨_, ok_28⟩
                · skip
                  obtain rfl : m = 29 := by omega
                  exact ⟨_, ok_29⟩
        · skip
          rcases Nat.lt_or_ge m 35 with h35 | h35
          · skip
            rcases Nat.lt_or_ge m 32 with h32 | h32
            · skip
              rcases Nat.lt_or_ge m 31 with h31 | h31
              · skip
                obtain rfl : m = 30 := by omega
                exact ⟨_, ok_30⟩
              · skip
                obtain rfl : m = 31 := by omega
                exact ⟨_, ok_31⟩
            · skip
              rcases Nat.lt_or_ge m 33 with h33 | h33
              · skip
                obtain rfl : m = 32 := by omega
                exact ⟨_, ok_32⟩
              · skip
                rcases Nat.lt_or_ge m 34 with h34 | h34
                · skip
                  obtain rfl : m = 33 := by omega
                  exact ⟨_, ok_33⟩
                · skip
                  obtain rfl : m = 34 := by omega
                  exact ⟨_, ok_34⟩
          · skip
            rcases Nat.lt_or_ge m 37 with h37 | h37
            · skip
              rcases Nat.lt_or_ge m 36 with h36 | h36
              · skip
                obtain rfl : m = 35 := by omega
                exact ⟨_, ok_35⟩
              · skip
                obtain rfl : m = 36 := by omega
                exact ⟨_, ok_36⟩
            · skip
              rcases Nat.lt_or_ge m 38 with h38 | h38
              · skip
                obtain rfl : m = 37 := by omega
                exact ⟨_, ok_37⟩
              · skip
                rcases Nat.lt_or_ge m 39 with h39 | h39
                · skip
                  obtain rfl : m = 38 := by omega
                  exact ⟨_, ok_38⟩
                · skip
                  obtain rfl : m = 39 := by omega
                  exact ⟨_, ok_39⟩
    · skip
      rcases Nat.lt_or_ge m 60 with h60 | h60
      · skip
        rcases Nat.lt_or_ge m 50 with h50 | h50
        · skip
          rcases Nat.lt_or_ge m 45 with h45 | h45
          · skip
            rcases Nat.lt_or_ge m 42 with h42 | h42
            · skip
              rcases Nat.lt_or_ge m 41 with h41 | h41
              · skip
                obtain rfl : m = 40 := by omega
                exact ⟨_, ok_40⟩
              · skip
                obtain rfl : m = 41 := by omega
                exact ⟨_, ok_41⟩
            · skip
              rcases Nat.lt_or_ge m 43 with h43 | h43
              · skip
                obtain rfl : m = 42 := by omega
                exact ⟨_, ok_42⟩
              · skip
                rcases Nat.lt_or_ge m 44 with h44 | h44
                · skip
                  obtain rfl : m = 43 := by omega
                  exact ⟨_, ok_43⟩
                · skip
                  obtain rfl : m = 44 := by omega
                  exact ⟨_, ok_44⟩
          · skip
            rcases Nat.lt_or_ge m 47 with h47 | h47
            · skip
              rcases Nat.lt_or_ge m 46 with h46 | h46
              · skip
                obtain rfl : m = 45 := by omega
                exact ⟨_, ok_45⟩
              · skip
                obtain rfl : m = 46 := by omega
                exact ⟨_, ok_46⟩
            · skip
              rcases Nat.lt_or_ge m 48 with h48 | h48
              · skip
                obtain rfl : m = 47 := by omega
                exact ⟨_, ok_47⟩
              · skip
                rcases Nat.lt_or_ge m 49 with h49 | h49
                · skip
                  obtain rfl : m = 48 := by omega
                  exact ⟨_, ok_48⟩
                · skip
                  obtain rfl : m = 49 := by omega
                  exact ⟨_, ok_49⟩
        · skip
          rcases Nat.lt_or_ge m 55 with h55 | h55
          · skip
            rcases Nat.lt_or_ge m 52 with h52 | h52
            · skip
              rcases Nat.lt_or_ge m 51 with h51 | h51
              · skip
                obtain rfl : m = 50 := by omega
                exact ⟨_, ok_50⟩
              · skip
                obtain rfl : m = 51 := by omega
                exact ⟨_, ok_51⟩
            · skip
              rcases Nat.lt_or_ge m 53 with h53 | h53
              · skip
                obtain rfl : m = 52 := by omega
                exact ⟨_, ok_52⟩
              · skip
                rcases Nat.lt_or_ge m 54 with h54 | h54
                · skip
                  obtain rfl : m = 53 := by omega
                  exact ⟨_, ok_53⟩
                · skip
                  obtain rfl : m = 54 := by omega
                  exact ⟨_, ok_54⟩
          · skip
            rcases Nat.lt_or_ge m 57 with h57 | h57
            · skip
              rcases Nat.lt_or_ge m 56 with h56 | h56
              · skip
                obtain rfl : m = 55 := by omega
                exact ⟨_, ok_55⟩
              · skip
                obtain rfl : m = 56 := by omega
                exact ⟨_, ok_56⟩
            · skip
              rcases Nat.lt_or_ge m 58 with h58 | h58
              · skip
                obtain rfl : m = 57 := by omega
                exact ⟨_, ok_57⟩
              · skip
                rcases Nat.lt_or_ge m 59 with h59 | h59
                · skip
                  obtain rfl : m = 58 := by omega
                  exact ⟨_, ok_58⟩
                · skip
                  obtain rfl : m = 59 := by omega
                  exact ⟨_, ok_59⟩
      · skip
        rcases Nat.lt_or_ge m 70 with h70 | h70
        · skip
          rcases Nat.lt_or_ge m 65 with h65 | h65
          · skip
            rcases Nat.lt_or_ge m 62 with h62 | h62
            · skip
              rcases Nat.lt_or_ge m 61 with h61 | h61
              · skip
                obtain rfl : m = 60 := by omega
                exact ⟨_, ok_60⟩
              · skip
                obtain rfl : m = 61 := by omega
                exact ⟨_, ok_61⟩
            · skip
              rcases Nat.lt_or_ge m 63 with h63 | h63
              · skip
                obtain rfl : m = 62 := by omega
                exact ⟨_, ok_62⟩
              · skip
                rcases Nat.lt_or_ge m 64 with h64 | h64
                · skip
                  obtain rfl : m = 63 := by omega
                  exact ⟨_, ok_63⟩
                · skip
                  obtain rfl : m = 64 := by omega
                  exact ⟨_, ok_64⟩
          · skip
            rcases Nat.lt_or_ge m 67 with h67 | h67
            · skip
              rcases Nat.lt_or_ge m 66 with h66 | h66
              · skip
                obtain rfl : m = 65 := by omega
                exact ⟨_, ok_65⟩
              · skip
                obtain rfl : m = 66 := by omega
                exact ⟨_, ok_66⟩
            · skip
              rcases Nat.lt_or_ge m 68 with h68 | h68
              · skip
                obtain rfl : m = 67 := by omega
                exact ⟨_, ok_67⟩
              · skip
                rcases Nat.lt_or_ge m 69 with h69 | h69
                · skip
                  obtain rfl : m = 68 := by omega
                  exact ⟨_, ok_68⟩
                · skip
                  obtain rfl : m = 69 := by omega
                  exact ⟨_, ok_69⟩
        · skip
          rcases Nat.lt_or_ge m 75 with h75 | h75
          · skip
            rcases Nat.lt_or_ge m 72 with h72 | h72
            · skip
              rcases Nat.lt_or_ge m 71 with h71 | h71
              · skip
                obtain rfl : m = 70 := by omega
                exact ⟨_, ok_70⟩
              · skip
                obtain rfl : m = 71 := by omega
                exact ⟨_, ok_71⟩
            · skip
              rcases Nat.lt_or_ge m 73 with h73 | h73
              · skip
                obtain rfl : m = 72 := by omega
                exact ⟨_, ok_72⟩
              · skip
                rcases Nat.lt_or_ge m 74 with h74 | h74
                · skip
                  obtain rfl : m = 73 := by omega
                  exact ⟨_, ok_73⟩
                · skip
                  obtain rfl : m = 74 := by omega
                  exact ⟨_, ok_74⟩
          · skip
            rcases Nat.lt_or_ge m 78 with h78 | h78
            · skip
              rcases Nat.lt_or_ge m 76 with h76 | h76
              · skip
                obtain rfl : m = 75 := by omega
                exact ⟨_, ok_75⟩
              · skip
                rcases Nat.lt_or_ge m 77 with h77 | h77
                · skip
                  obtain rfl : m = 76 := by omega
                  exact ⟨_, ok_76⟩
                · skip
                  obtain rfl : m = 77 := by omega
                  exact ⟨_, ok_77⟩
            · skip
              rcases Nat.lt_or_ge m 79 with h79 | h79
              · skip
                obtain rfl : m = 78 := by omega
                exact ⟨_, ok_78⟩
              · skip
                rcases Nat.lt_or_ge m 80 with h80 | h80
                · skip
                  obtain rfl : m = 79 := by omega
                  exact ⟨_, ok_79⟩
                · skip
                  obtain rfl : m = 80 := by omega
                  exact ⟨_, ok_80⟩
  · skip
    rcases Nat.lt_or_ge m 121 with h121 | h121
    · skip
      rcases Nat.lt_or_ge m 101 with h101 | h101
      · skip
        rcases Nat.lt_or_ge m 91 with h91 | h91
        · skip
          rcases Nat.lt_or_ge m 86 with h86 | h86
          · skip
            rcases Nat.lt_or_ge m 83 with h83 | h83
            · skip
              rcases Nat.lt_or_ge m 82 with h82 | h82
              · skip
                obtain rfl : m = 81 := by omega
                exact ⟨_, ok_81⟩
              · skip
                obtain rfl : m = 82 := by omega
                exact ⟨_, ok_82⟩
            · skip
              rcases Nat.lt_or_ge m 84 with h84 | h84
              · skip
                obtain rfl : m = 83 := by omega
                exact ⟨_, ok_83⟩
              · skip
                rcases Nat.lt_or_ge m 85 with h85 | h85
                · skip
                  obtain rfl : m = 84 := by omega
                  exact ⟨_, ok_84⟩
                · skip
                  obtain rfl : m = 85 := by omega
                  exact ⟨_, ok_85⟩
          · skip
            rcases Nat.lt_or_ge m 88 with h88 | h88
            · skip
              rcases Nat.lt_or_ge m 87 with h87 | h87
              · skip
                obtain rfl : m = 86 := by omega
                exact ⟨_, ok_86⟩
              · skip
                obtain rfl : m = 87 := by omega
                exact ⟨_, ok_87⟩
            · skip
              rcases Nat.lt_or_ge m 89 with h89 | h89
              · skip
                obtain rfl : m = 88 := by omega
                exact ⟨_, ok_88⟩
              · skip
                rcases Nat.lt_or_ge m 90 with h90 | h90
                · skip
                  obtain rfl : m = 89 := by omega
                  exact ⟨_, ok_89⟩
                · skip
                  obtain rfl : m = 90 := by omega
                  exact ⟨_, ok_90⟩
        · skip
          rcases Nat.lt_or_ge m 96 with h96 | h96
          · skip
            rcases Nat.lt_or_ge m 93 with h93 | h93
            · skip
              rcases Nat.lt_or_ge m 92 with h92 | h92
              · skip
                obtain rfl : m = 91 := by omega
                exact ⟨_, ok_91⟩
              · skip
                obtain rfl : m = 92 := by omega
                exact ⟨_, ok_92⟩
            · skip
              rcases Nat.lt_or_ge m 94 with h94 | h94
              · skip
                obtain rfl : m = 93 := by omega
                exact ⟨_, ok_93⟩
              · skip
                rcases Nat.lt_or_ge m 95 with h95 | h95
                · skip
                  obtain rfl : m = 94 := by omega
                  exact ⟨_, ok_94⟩
                · skip
                  obtain rfl : m = 95 := by omega
                  exact ⟨_, ok_95⟩
          · skip
            rcases Nat.lt_or_ge m 98 with h98 | h98
            · skip
              rcases Nat.lt_or_ge m 97 with h97 | h97
              · skip
                obtain rfl : m = 96 := by omega
                exact ⟨_, ok_96⟩
              · skip
                obtain rfl : m = 97 := by omega
                exact ⟨_, ok_97⟩
            · skip
              rcases Nat.lt_or_ge m 99 with h99 | h99
              · skip
                obtain rfl : m = 98 := by omega
                exact ⟨_, ok_98⟩
              · skip
                rcases Nat.lt_or_ge m 100 with h100 | h100
                · skip
                  obtain rfl : m = 99 := by omega
                  exact ⟨_, ok_99⟩
                · skip
                  obtain rfl : m = 100 := by omega
                  exact ⟨_, ok_100⟩
      · skip
        rcases Nat.lt_or_ge m 111 with h111 | h111
        · skip
          rcases Nat.lt_or_ge m 106 with h106 | h106
          · skip
            rcases Nat.lt_or_ge m 103 with h103 | h103
            · skip
              rcases Nat.lt_or_ge m 102 with h102 | h102
              · skip
                obtain rfl : m = 101 := by omega
                exact ⟨_, ok_101⟩
              · skip
                obtain rfl : m = 102 := by omega
                exact ⟨_, ok_102⟩
            · skip
              rcases Nat.lt_or_ge m 104 with h104 | h104
              · skip
                obtain rfl : m = 103 := by omega
                exact ⟨_, ok_103⟩
              · skip
                rcases Nat.lt_or_ge m 105 with h105 | h105
                · skip
                  obtain rfl : m = 104 := by omega
                  exact ⟨_, ok_104⟩
                · skip
                  obtain rfl : m = 105 := by omega
                  exact ⟨_, ok_105⟩
          · skip
            rcases Nat.lt_or_ge m 108 with h108 | h108
            · skip
              rcases Nat.lt_or_ge m 107 with h107 | h107
              · skip
                obtain rfl : m = 106 := by omega
                exact ⟨_, ok_106⟩
              · skip
                obtain rfl : m = 107 := by omega
                exact ⟨_, ok_107⟩
            · skip
              rcases Nat.lt_or_ge m 109 with h109 | h109
              · skip
                obtain rfl : m = 108 := by omega
                exact ⟨_, ok_108⟩
              · skip
                rcases Nat.lt_or_ge m 110 with h110 | h110
                · skip
                  obtain rfl : m = 109 := by omega
                  exact ⟨_, ok_109⟩
                · skip
                  obtain rfl : m = 110 := by omega
                  exact ⟨_, ok_110⟩
        · skip
          rcases Nat.lt_or_ge m 116 with h116 | h116
          · skip
            rcases Nat.lt_or_ge m 113 with h113 | h113
            · skip
              rcases Nat.lt_or_ge m 112 with h112 | h112
              · skip
                obtain rfl : m = 111 := by omega
                exact ⟨_, ok_111⟩
              · skip
                obtain rfl : m = 112 := by omega
                exact ⟨_, ok_112⟩
            · skip
              rcases Nat.lt_or_ge m 114 with h114 | h114
              · skip
                obtain rfl : m = 113 := by omega
                exact ⟨_, ok_113⟩
              · skip
                rcases Nat.lt_or_ge m 115 with h115 | h115
                · skip
                  obtain rfl : m = 114 := by omega
                  exact ⟨_, ok_114⟩
                · skip
                  obtain rfl : m = 115 := by omega
                  exact ⟨_, ok_115⟩
          · skip
            rcases Nat.lt_or_ge m 118 with h118 | h118
            · skip
              rcases Nat.lt_or_ge m 117 with h117 | h117
              · skip
                obtain rfl : m = 116 := by omega
                exact ⟨_, ok_116⟩
              · skip
                obtain rfl : m = 117 := by omega
                exact ⟨_, ok_117⟩
            · skip
              rcases Nat.lt_or_ge m 119 with h119 | h119
              · skip
                obtain rfl : m = 118 := by omega
                exact ⟨_, ok_118⟩
              · skip
                rcases Nat.lt_or_ge m 120 with h120 | h120
                · skip
                  obtain rfl : m = 119 := by omega
                  exact ⟨_, ok_119⟩
                · skip
                  obtain rfl : m = 120 := by omega
                  exact ⟨_, ok_120⟩
    · skip
      rcases Nat.lt_or_ge m 141 with h141 | h141
      · skip
        rcases Nat.lt_or_ge m 131 with h131 | h131
        · skip
          rcases Nat.lt_or_ge m 126 with h126 | h126
          · skip
            rcases Nat.lt_or_ge m 123 with h123 | h123
            · skip
              rcases Nat.lt_or_ge m 122 with h122 | h122
              · skip
                obtain rfl : m = 121 := by omega
                exact ⟨_, ok_121⟩
              · skip
                obtain rfl : m = 122 := by omega
                exact ⟨_, ok_122⟩
            · skip
              rcases Nat.lt_or_ge m 124 with h124 | h124
              · skip
                obtain rfl : m = 123 := by omega
                exact ⟨_, ok_123⟩
              · skip
                rcases Nat.lt_or_ge m 125 with h125 | h125
                · skip
                  obtain rfl : m = 124 := by omega
                  exact ⟨_, ok_124⟩
                · skip
                  obtain rfl : m = 125 := by omega
                  exact ⟨_, ok_125⟩
          · skip
            rcases Nat.lt_or_ge m 128 with h128 | h128
            · skip
              rcases Nat.lt_or_ge m 127 with h127 | h127
              · skip
                obtain rfl : m = 126 := by omega
                exact ⟨_, ok_126⟩
              · skip
                obtain rfl : m = 127 := by omega
                exact ⟨_, ok_127⟩
            · skip
              rcases Nat.lt_or_ge m 129 with h129 | h129
              · skip
                obtain rfl : m = 128 := by omega
                exact ⟨_, ok_128⟩
              · skip
                rcases Nat.lt_or_ge m 130 with h130 | h130
                · skip
                  obtain rfl : m = 129 := by omega
                  exact ⟨_, ok_129⟩
                · skip
                  obtain rfl : m = 130 := by omega
                  exact ⟨_, ok_130⟩
        · skip
          rcases Nat.lt_or_ge m 136 with h136 | h136
          · skip
            rcases Nat.lt_or_ge m 133 with h133 | h133
            · skip
              rcases Nat.lt_or_ge m 132 with h132 | h132
              · skip
                obtain rfl : m = 131 := by omega
                exact ⟨_, ok_131⟩
              · skip
                obtain rfl : m = 132 := by omega
                exact ⟨_, ok_132⟩
            · skip
              rcases Nat.lt_or_ge m 134 with h134 | h134
              · skip
                obtain rfl : m = 133 := by omega
                exact ⟨_, ok_133⟩
              · skip
                rcases Nat.lt_or_ge m 135 with h135 | h135
                · skip
                  obtain rfl : m = 134 := by omega
                  exact ⟨_, ok_134⟩
                · skip
                  obtain rfl : m = 135 := by omega
                  exact ⟨_, ok_135⟩
          · skip
            rcases Nat.lt_or_ge m 138 with h138 | h138
            · skip
              rcases Nat.lt_or_ge m 137 with h137 | h137
              · skip
                obtain rfl : m = 136 := by omega
                exact ⟨_, ok_136⟩
              · skip
                obtain rfl : m = 137 := by omega
                exact ⟨_, ok_137⟩
            · skip
              rcases Nat.lt_or_ge m 139 with h139 | h139
              · skip
                obtain rfl : m = 138 := by omega
                exact ⟨_, ok_138⟩
              · skip
                rcases Nat.lt_or_ge m 140 with h140 | h140
                · skip
                  obtain rfl : m = 139 := by omega
                  exact ⟨_, ok_139⟩
                · skip
                  obtain rfl : m = 140 := by omega
                  exact ⟨_, ok_140⟩
      · skip
        rcases Nat.lt_or_ge m 151 with h151 | h151
        · skip
          rcases Nat.lt_or_ge m 146 with h146 | h146
          · skip
            rcases Nat.lt_or_ge m 143 with h143 | h143
            · skip
              rcases Nat.lt_or_ge m 142 with h142 | h142
              · skip
                obtain rfl : m = 141 := by omega
                exact ⟨_, ok_141⟩
              · skip
                obtain rfl : m = 142 := by omega
                exact ⟨_, ok_142⟩
            · skip
              rcases Nat.lt_or_ge m 144 with h144 | h144
              · skip
                obtain rfl : m = 143 := by omega
                exact ⟨_, ok_143⟩
              · skip
                rcases Nat.lt_or_ge m 145 with h145 | h145
                · skip
                  obtain rfl : m = 144 := by omega
                  exact ⟨_, ok_144⟩
                · skip
                  obtain rfl : m = 145 := by omega
                  exact ⟨_, ok_145⟩
          · skip
            rcases Nat.lt_or_ge m 148 with h148 | h148
            · skip
              rcases Nat.lt_or_ge m 147 with h147 | h147
              · skip
                obtain rfl : m = 146 := by omega
                exact ⟨_, ok_146⟩
              · skip
                obtain rfl : m = 147 := by omega
                exact ⟨_, ok_147⟩
            · skip
              rcases Nat.lt_or_ge m 149 with h149 | h149
              · skip
                obtain rfl : m = 148 := by omega
                exact ⟨_, ok_148⟩
              · skip
                rcases Nat.lt_or_ge m 150 with h150 | h150
                · skip
                  obtain rfl : m = 149 := by omega
                  exact ⟨_, ok_149⟩
                · skip
                  obtain rfl : m = 150 := by omega
                  exact ⟨_, ok_150⟩
        · skip
          rcases Nat.lt_or_ge m 156 with h156 | h156
          · skip
            rcases Nat.lt_or_ge m 153 with h153 | h153
            · skip
              rcases Nat.lt_or_ge m 152 with h152 | h152
              · skip
                obtain rfl : m = 151 := by omega
                exact ⟨_, ok_151⟩
              · skip
                obtain rfl : m = 152 := by omega
                exact ⟨_, ok_152⟩
            · skip
              rcases Nat.lt_or_ge m 154 with h154 | h154
              · skip
                obtain rfl : m = 153 := by omega
                exact ⟨_, ok_153⟩
              · skip
                rcases Nat.lt_or_ge m 155 with h155 | h155
                · skip
                  obtain rfl : m = 154 := by omega
                  exact ⟨_, ok_154⟩
                · skip
                  obtain rfl : m = 155 := by omega
                  exact ⟨_, ok_155⟩
          · skip
            rcases Nat.lt_or_ge m 159 with h159 | h159
            · skip
              rcases Nat.lt_or_ge m 157 with h157 | h157
              · skip
                obtain rfl : m = 156 := by omega
                exact ⟨_, ok_156⟩
              · skip
                rcases Nat.lt_or_ge m 158 with h158 | h158
                · skip
                  obtain rfl : m = 157 := by omega
                  exact ⟨_, ok_157⟩
                · skip
                  obtain rfl : m = 158 := by omega
                  exact ⟨_, ok_158⟩
            · skip
              rcases Nat.lt_or_ge m 160 with h160 | h160
              · skip
                obtain rfl : m = 159 := by omega
                exact ⟨_, ok_159⟩
              · skip
                rcases Nat.lt_or_ge m 161 with h161 | h161
                · skip
                  obtain rfl : m = 160 := by omega
                  exact ⟨_, ok_160⟩
                · skip
                  obtain rfl : m = 161 := by omega
                  exact ⟨_, ok_161⟩
theorem MT_len {m : Nat} {q : mI} (h : MT[m]? = some q) : m < 162 := by
  have h1 := (List.getElem?_eq_some_iff.mp h).1
  have h2 : MT.length = 162 := by decide +kernel
  omega
theorem cd_inv {m pc : Nat} {e : ent} (h : cd m pc = some e) : (m = 999 ∧ e = (.athrow, 0, pc, 0, 0)) ∨ (m < 162 ∧ pc < mln m ∧ trs m pc = some e) := by
  unfold cd at h
  cases g : Nat.beq m 999
  · rw [g] at h
    cases g2 : Nat.ble (m + 1) 162
    · rw [g2] at h; cases h
    · rw [g2] at h
      cases g3 : Nat.ble (pc + 1) (mln m)
      · rw [g3] at h; cases h
      · rw [g3] at h
        have g2 := bleN g2
        have g3 := bleN g3
        exact Or.inr ⟨by omega, by omega, h⟩
  · rw [g] at h
    have h : some (Instr.athrow, 0, pc, 0, 0) = some e := h
    exact Or.inl ⟨beqN g, (Option.some.inj h).symm⟩
theorem okAll (m : Nat) (q : mI) (pc : Nat) (e : ent) (hq : MT[m]? = some q) (h : cd m pc = some e) : ∃ w, okE m q pc e w = true := by
  rcases cd_inv h with ⟨h1, _⟩ | ⟨h1, h2, h3⟩
  · have := MT_len hq; omega
  · obtain ⟨w, h4⟩ := ok_at m h1
    unfold okR at h4
    rw [hq] at h4
    have h5 := List.all_eq_true.mp h4 pc (List.mem_range.mpr h2)
    rw [Nat.zero_add, h3] at h5
    exact ⟨_, h5⟩
theorem okAall (m pc : Nat) (e : ent) (h : cd m pc = some e) : okA e := by
  rcases cd_inv h with ⟨_, h1⟩ | ⟨h1, h2, h3⟩
  · subst h1; exact Or.inr (fun j h => by cases h)
  · have hl : MT.length = 162 := by decide +kernel
    have hq : MT[m]? = some (MT[m]'(by omega)) := List.getElem?_eq_getElem _
    obtain ⟨w, h4⟩ := okAll m _ pc e hq h
    obtain ⟨i, len, a, b, d⟩ := e
    by_cases hp : ∃ j, i = .putfield j
    · obtain ⟨j, rfl⟩ := hp
      have h5 := (and2 h4).2
      have h6 : (((Nat.beq len 3 && okF (MT[m]'(by omega)) j a b w) && (Nat.beq d 2 == frf a b)) && (bif (cT a b).2.2.2 then _ else _) && (bif Nat.beq d 2 then _ else _)) = true := h5
      have h7 := (and2 (and2 (and2 (and2 h6).1).1).1).2
      unfold okF at h7
      exact Or.inl (Nat.le_trans (bleN (and2 (and2 h7).1).1) (by omega))
    · exact Or.inr (fun j h => hp ⟨j, h⟩)
