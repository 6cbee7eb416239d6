theorem am_q_all (M : Nat) (h : M < 170) (g : 0 ≤ M) : (am_tabs.getD M []).all (fun l => l.all (am_ok M)) = true := by
  rcases Nat.lt_or_ge M 85 with q | q
  · replace h := q
    rcases Nat.lt_or_ge M 42 with q | q
    · replace h := q
      rcases Nat.lt_or_ge M 21 with q | q
      · replace h := q
        rcases Nat.lt_or_ge M 10 with q | q
        · replace h := q
          rcases Nat.lt_or_ge M 5 with q | q
          · replace h := q
            rcases Nat.lt_or_ge M 2 with q | q
            · replace h := q
              rcases Nat.lt_or_ge M 1 with q | q
              · replace h := q
                have e : M = 0 := by omega
                subst e
                exact am_q_0
              · replace g := q
                have e : M = 1 := by omega
                subst e
                exact am_q_1
            · replace g := q
              rcases Nat.lt_or_ge M 3 with q | q
              · replace h := q
                have e : M = 2 := by omega
                subst e
                exact am_q_2
              · replace g := q
                rcases Nat.lt_or_ge M 4 with q | q
                · replace h := q
                  have e : M = 3 := by omega
                  subst e
                  exact am_q_3
                · replace g := q
                  have e : M = 4 := by omega
                  subst e
                  exact am_q_4
          · replace g := q
            rcases Nat.lt_or_ge M 7 with q | q
            · replace h := q
              rcases Nat.lt_or_ge M 6 with q | q
              · replace h := q
                have e : M = 5 := by omega
                subst e
                exact am_q_5
              · replace g := q
                have e : M = 6 := by omega
                subst e
                exact am_q_6
            · replace g := q
              rcases Nat.lt_or_ge M 8 with q | q
              · replace h := q
                have e : M = 7 := by omega
                subst e
                exact am_q_7
              · replace g := q
                rcases Nat.lt_or_ge M 9 with q | q
                · replace h := q
                  have e : M = 8 := by omega
                  subst e
                  exact am_q_8
                · replace g := q
                  have e : M = 9 := by omega
                  subst e
                  exact am_q_9
        · replace g := q
          rcases Nat.lt_or_ge M 15 with q | q
          · replace h := q
            rcases Nat.lt_or_ge M 12 with q | q
            · replace h := q
              rcases Nat.lt_or_ge M 11 with q | q
              · replace h := q
                have e : M = 10 := by omega
                subst e
                exact am_q_10
              · replace g := q
                have e : M = 11 := by omega
                subst e
                exact am_q_11
            · replace g := q
              rcases Nat.lt_or_ge M 13 with q | q
              · replace h := q
                have e : M = 12 := by omega
                subst e
                exact am_q_12
              · replace g := q
                rcases Nat.lt_or_ge M 14 with q | q
                · replace h := q
                  have e : M = 13 := by omega
                  subst e
                  exact am_q_13
                · replace g := q
                  have e : M = 14 := by omega
                  subst e
                  exact am_q_14
          · replace g := q
            rcases Nat.lt_or_ge M 18 with q | q
            · replace h := q
              rcases Nat.lt_or_ge M 16 with q | q
              · replace h := q
                have e : M = 15 := by omega
                subst e
                exact am_q_15
              · replace g := q
                rcases Nat.lt_or_ge M 17 with q | q
                · replace h := q
                  have e : M = 16 := by omega
                  subst e
                  exact am_q_16
                · replace g := q
                  have e : M = 17 := by omega
                  subst e
                  exact am_q_17
            · replace g := q
              rcases Nat.lt_or_ge M 19 with q | q
              · replace h := q
                have e : M = 18 := by omega
                subst e
                exact am_q_18
              · replace g := q
                rcases Nat.lt_or_ge M 20 with q | q
                · replace h := q
                  have e : M = 19 := by omega
                  subst e
                  exact am_q_19
                · replace g := q
                  have e : M = 20 := by omega
                  subst e
                  exact am_q_20
      · replace g := q
        rcases Nat.lt_or_ge M 31 with q | q
        · replace h := q
          rcases Nat.lt_or_ge M 26 with q | q
          · replace h := q
            rcases Nat.lt_or_ge M 23 with q | q
            · replace h := q
              rcases Nat.lt_or_ge M 22 with q | q
              · replace h := q
                have e : M = 21 := by omega
                subst e
                exact am_q_21
              · replace g := q
                have e : M = 22 := by omega
                subst e
                exact am_q_22
            · replace g := q
              rcases Nat.lt_or_ge M 24 with q | q
              · replace h := q
                have e : M = 23 := by omega
                subst e
                exact am_q_23
              · replace g := q
                rcases Nat.lt_or_ge M 25 with q | q
                · replace h := q
                  have e : M = 24 := by omega
                  subst e
                  exact am_q_24
                · replace g := q
                  have e : M = 25 := by omega
                  subst e
                  exact am_q_25
          · replace g := q
            rcases Nat.lt_or_ge M 28 with q | q
            · replace h := q
              rcases Nat.lt_or_ge M 27 with q | q
              · replace h := q
                have e : M = 26 := by omega
                subst e
                exact am_q_26
              · replace g := q
                have e : M = 27 := by omega
                subst e
                exact am_q_27
            · replace g := q
              rcases Nat.lt_or_ge M 29 with q | q
              · replace h := q
                have e : M = 28 := by omega
                subst e
                exact am_q_28
              · replace g := q
                rcases Nat.lt_or_ge M 30 with q | q
                · replace h := q
                  have e : M = 29 := by omega
                  subst e
                  exact am_q_29
                · replace g := q
                  have e : M = 30 := by omega
                  subst e
                  exact am_q_30
        · replace g := q
          rcases Nat.lt_or_ge M 36 with q | q
          · replace h := q
            rcases Nat.lt_or_ge M 33 with q | q
            · replace h := q
              rcases Nat.lt_or_ge M 32 with q | q
              · replace h := q
                have e : M = 31 := by omega
                subst e
                exact am_q_31
              · replace g := q
                have e : M = 32 := by omega
                subst e
                exact am_q_32
            · replace g := q
              rcases Nat.lt_or_ge M 34 with q | q
              · replace h := q
                have e : M = 33 := by omega
                subst e
                exact am_q_33
              · replace g := q
                rcases Nat.lt_or_ge M 35 with q | q
                · replace h := q
                  have e : M = 34 := by omega
                  subst e
                  exact am_q_34
                · replace g := q
                  have e : M = 35 := by omega
                  subst e
                  exact am_q_35
          · replace g := q
            rcases Nat.lt_or_ge M 39 with q | q
            · replace h := q
              rcases Nat.lt_or_ge M 37 with q | q
              · replace h := q
                have e : M = 36 := by omega
                subst e
                exact am_q_36
              · replace g := q
                rcases Nat.lt_or_ge M 38 with q | q
                · replace h := q
                  have e : M = 37 := by omega
                  subst e
                  exact am_q_37
                · replace g := q
                  have e : M = 38 := by omega
                  subst e
                  exact am_q_38
            · replace g := q
              rcases Nat.lt_or_ge M 40 with q | q
              · replace h := q
                have e : M = 39 := by omega
                subst e
                exact am_q_39
              · replace g := q
                rcases Nat.lt_or_ge M 41 with q | q
                · replace h := q
                  have e : M = 40 := by omega
                  subst e
                  exact am_q_40
                · replace g := q
                  have e : M = 41 := by omega
                  subst e
                  exact am_q_41
    · replace g := q
      rcases Nat.lt_or_ge M 63 with q | q
      · replace h := q
        rcases Nat.lt_or_ge M 52 with q | q
        · replace h := q
          rcases Nat.lt_or_ge M 47 with q | q
          · replace h := q
            rcases Nat.lt_or_ge M 44 with q | q
            · replace h := q
              rcases Nat.lt_or_ge M 43 with q | q
              · replace h := q
                have e : M = 42 := by omega
                subst e
                exact am_q_42
              · replace g := q
                have e : M = 43 := by omega
                subst e
                exact am_q_43
            · replace g := q
              rcases Nat.lt_or_ge M 45 with q | q
              · replace h := q
                have e : M = 44 := by omega
                subst e
                exact am_q_44
              · replace g := q
                rcases Nat.lt_or_ge M 46 with q | q
                · replace h := q
                  have e : M = 45 := by omega
                  subst e
                  exact am_q_45
                · replace g := q
                  have e : M = 46 := by omega
                  subst e
                  exact am_q_46
          · replace g := q
            rcases Nat.lt_or_ge M 49 with q | q
            · replace h := q
              rcases Nat.lt_or_ge M 48 with q | q
              · replace h := q
                have e : M = 47 := by omega
                subst e
                exact am_q_47
              · replace g := q
                have e : M = 48 := by omega
                subst e
                exact am_q_48
            · replace g := q
              rcases Nat.lt_or_ge M 50 with q | q
              · replace h := q
                have e : M = 49 := by omega
                subst e
                exact am_q_49
              · replace g := q
                rcases Nat.lt_or_ge M 51 with q | q
                · replace h := q
                  have e : M = 50 := by omega
                  subst e
                  exact am_q_50
                · replace g := q
                  have e : M = 51 := by omega
                  subst e
                  exact am_q_51
        · replace g := q
          rcases Nat.lt_or_ge M 57 with q | q
          · replace h := q
            rcases Nat.lt_or_ge M 54 with q | q
            · replace h := q
              rcases Nat.lt_or_ge M 53 with q | q
              · replace h := q
                have e : M = 52 := by omega
                subst e
                exact am_q_52
              · replace g := q
                have e : M = 53 := by omega
                subst e
                exact am_q_53
            · replace g := q
              rcases Nat.lt_or_ge M 55 with q | q
              · replace h := q
                have e : M = 54 := by omega
                subst e
                exact am_q_54
              · replace g := q
                rcases Nat.lt_or_ge M 56 with q | q
                · replace h := q
                  have e : M = 55 := by omega
                  subst e
                  exact am_q_55
                · replace g := q
                  have e : M = 56 := by omega
                  subst e
                  exact am_q_56
          · replace g := q
            rcases Nat.lt_or_ge M 60 with q | q
            · replace h := q
              rcases Nat.lt_or_ge M 58 with q | q
              · replace h := q
                have e : M = 57 := by omega
                subst e
                exact am_q_57
              · replace g := q
                rcases Nat.lt_or_ge M 59 with q | q
                · replace h := q
                  have e : M = 58 := by omega
                  subst e
                  exact am_q_58
                · replace g := q
                  have e : M = 59 := by omega
                  subst e
                  exact am_q_59
            · replace g := q
              rcases Nat.lt_or_ge M 61 with q | q
              · replace h := q
                have e : M = 60 := by omega
                subst e
                exact am_q_60
              · replace g := q
                rcases Nat.lt_or_ge M 62 with q | q
                · replace h := q
                  have e : M = 61 := by omega
                  subst e
                  exact am_q_61
                · replace g := q
                  have e : M = 62 := by omega
                  subst e
                  exact am_q_62
      · replace g := q
        rcases Nat.lt_or_ge M 74 with q | q
        · replace h := q
          rcases Nat.lt_or_ge M 68 with q | q
          · replace h := q
            rcases Nat.lt_or_ge M 65 with q | q
            · replace h := q
              rcases Nat.lt_or_ge M 64 with q | q
              · replace h := q
                have e : M = 63 := by omega
                subst e
                exact am_q_63
              · replace g := q
                have e : M = 64 := by omega
                subst e
                exact am_q_64
            · replace g := q
              rcases Nat.lt_or_ge M 66 with q | q
              · replace h := q
                have e : M = 65 := by omega
                subst e
                exact am_q_65
              · replace g := q
                rcases Nat.lt_or_ge M 67 with q | q
                · replace h := q
                  have e : M = 66 := by omega
                  subst e
                  exact am_q_66
                · replace g := q
                  have e : M = 67 := by omega
                  subst e
                  exact am_q_67
          · replace g := q
            rcases Nat.lt_or_ge M 71 with q | q
            · replace h := q
              rcases Nat.lt_or_ge M 69 with q | q
              · replace h := q
                have e : M = 68 := by omega
                subst e
                exact am_q_68
              · replace g := q
                rcases Nat.lt_or_ge M 70 with q | q
                · replace h := q
                  have e : M = 69 := by omega
                  subst e
                  exact am_q_69
                · replace g := q
                  have e : M = 70 := by omega
                  subst e
                  exact am_q_70
            · replace g := q
              rcases Nat.lt_or_ge M 72 with q | q
              · replace h := q
                have e : M = 71 := by omega
                subst e
                exact am_q_71
              · replace g := q
                rcases Nat.lt_or_ge M 73 with q | q
                · replace h := q
                  have e : M = 72 := by omega
                  subst e
                  exact am_q_72
                · replace g := q
                  have e : M = 73 := by omega
                  subst e
                  exact am_q_73
        · replace g := q
          rcases Nat.lt_or_ge M 79 with q | q
          · replace h := q
            rcases Nat.lt_or_ge M 76 with q | q
            · replace h := q
              rcases Nat.lt_or_ge M 75 with q | q
              · replace h := q
                have e : M = 74 := by omega
                subst e
                exact am_q_74
              · replace g := q
                have e : M = 75 := by omega
                subst e
                exact am_q_75
            · replace g := q
              rcases Nat.lt_or_ge M 77 with q | q
              · replace h := q
                have e : M = 76 := by omega
                subst e
                exact am_q_76
              · replace g := q
                rcases Nat.lt_or_ge M 78 with q | q
                · replace h := q
                  have e : M = 77 := by omega
                  subst e
                  exact am_q_77
                · replace g := q
                  have e : M = 78 := by omega
                  subst e
                  exact am_q_78
          · replace g := q
            rcases Nat.lt_or_ge M 82 with q | q
            · replace h := q
              rcases Nat.lt_or_ge M 80 with q | q
              · replace h := q
                have e : M = 79 := by omega
                subst e
                exact am_q_79
              · replace g := q
                rcases Nat.lt_or_ge M 81 with q | q
                · replace h := q
                  have e : M = 80 := by omega
                  subst e
                  exact am_q_80
                · replace g := q
                  have e : M = 81 := by omega
                  subst e
                  exact am_q_81
            · replace g := q
              rcases Nat.lt_or_ge M 83 with q | q
              · replace h := q
                have e : M = 82 := by omega
                subst e
                exact am_q_82
              · replace g := q
                rcases Nat.lt_or_ge M 84 with q | q
                · replace h := q
                  have e : M = 83 := by omega
                  subst e
                  exact am_q_83
                · replace g := q
                  have e : M = 84 := by omega
                  subst e
                  exact am_q_84
  · replace g := q
    rcases Nat.lt_or_ge M 127 with q | q
    · replace h := q
      rcases Nat.lt_or_ge M 106 with q | q
      · replace h := q
        rcases Nat.lt_or_ge M 95 with q | q
        · replace h := q
          rcases Nat.lt_or_ge M 90 with q | q
          · replace h := q
            rcases Nat.lt_or_ge M 87 with q | q
            · replace h := q
              rcases Nat.lt_or_ge M 86 with q | q
              · replace h := q
                have e : M = 85 := by omega
                subst e
                exact am_q_85
              · replace g := q
                have e : M = 86 := by omega
                subst e
                exact am_q_86
            · replace g := q
              rcases Nat.lt_or_ge M 88 with q | q
              · replace h := q
                have e : M = 87 := by omega
                subst e
                exact am_q_87
              · replace g := q
                rcases Nat.lt_or_ge M 89 with q | q
                · replace h := q
                  have e : M = 88 := by omega
                  subst e
                  exact am_q_88
                · replace g := q
                  have e : M = 89 := by omega
                  subst e
                  exact am_q_89
          · replace g := q
            rcases Nat.lt_or_ge M 92 with q | q
            · replace h := q
              rcases Nat.lt_or_ge M 91 with q | q
              · replace h := q
                have e : M = 90 := by omega
                subst e
                exact am_q_90
              · replace g := q
                have e : M = 91 := by omega
                subst e
                exact am_q_91
            · replace g := q
              rcases Nat.lt_or_ge M 93 with q | q
              · replace h := q
                have e : M = 92 := by omega
                subst e
                exact am_q_92
              · replace g := q
                rcases Nat.lt_or_ge M 94 with q | q
                · replace h := q
                  have e : M = 93 := by omega
                  subst e
                  exact am_q_93
                · replace g := q
                  have e : M = 94 := by omega
                  subst e
                  exact am_q_94
        · replace g := q
          rcases Nat.lt_or_ge M 100 with q | q
          · replace h := q
            rcases Nat.lt_or_ge M 97 with q | q
            · replace h := q
              rcases Nat.lt_or_ge M 96 with q | q
              · replace h := q
                have e : M = 95 := by omega
                subst e
                exact am_q_95
              · replace g := q
                have e : M = 96 := by omega
                subst e
                exact am_q_96
            · replace g := q
              rcases Nat.lt_or_ge M 98 with q | q
              · replace h := q
                have e : M = 97 := by omega
                subst e
                exact am_q_97
              · replace g := q
                rcases Nat.lt_or_ge M 99 with q | q
                · replace h := q
                  have e : M = 98 := by omega
                  subst e
                  exact am_q_98
                · replace g := q
                  have e : M = 99 := by omega
                  subst e
                  exact am_q_99
          · replace g := q
            rcases Nat.lt_or_ge M 103 with q | q
            · replace h := q
              rcases Nat.lt_or_ge M 101 with q | q
              · replace h := q
                have e : M = 100 := by omega
                subst e
                exact am_q_100
              · replace g := q
                rcases Nat.lt_or_ge M 102 with q | q
                · replace h := q
                  have e : M = 101 := by omega
                  subst e
                  exact am_q_101
                · replace g := q
                  have e : M = 102 := by omega
                  subst e
                  exact am_q_102
            · replace g := q
              rcases Nat.lt_or_ge M 104 with q | q
              · replace h := q
                have e : M = 103 := by omega
                subst e
                exact am_q_103
              · replace g := q
                rcases Nat.lt_or_ge M 105 with q | q
                · replace h := q
                  have e : M = 104 := by omega
                  subst e
                  exact am_q_104
                · replace g := q
                  have e : M = 105 := by omega
                  subst e
                  exact am_q_105
      · replace g := q
        rcases Nat.lt_or_ge M 116 with q | q
        · replace h := q
          rcases Nat.lt_or_ge M 111 with q | q
          · replace h := q
            rcases Nat.lt_or_ge M 108 with q | q
            · replace h := q
              rcases Nat.lt_or_ge M 107 with q | q
              · replace h := q
                have e : M = 106 := by omega
                subst e
                exact am_q_106
              · replace g := q
                have e : M = 107 := by omega
                subst e
                exact am_q_107
            · replace g := q
              rcases Nat.lt_or_ge M 109 with q | q
              · replace h := q
                have e : M = 108 := by omega
                subst e
                exact am_q_108
              · replace g := q
                rcases Nat.lt_or_ge M 110 with q | q
                · replace h := q
                  have e : M = 109 := by omega
                  subst e
                  exact am_q_109
                · replace g := q
                  have e : M = 110 := by omega
                  subst e
                  exact am_q_110
          · replace g := q
            rcases Nat.lt_or_ge M 113 with q | q
            · replace h := q
              rcases Nat.lt_or_ge M 112 with q | q
              · replace h := q
                have e : M = 111 := by omega
                subst e
                exact am_q_111
              · replace g := q
                have e : M = 112 := by omega
                subst e
                exact am_q_112
            · replace g := q
              rcases Nat.lt_or_ge M 114 with q | q
              · replace h := q
                have e : M = 113 := by omega
                subst e
                exact am_q_113
              · replace g := q
                rcases Nat.lt_or_ge M 115 with q | q
                · replace h := q
                  have e : M = 114 := by omega
                  subst e
                  exact am_q_114
                · replace g := q
                  have e : M = 115 := by omega
                  subst e
                  exact am_q_115
        · replace g := q
          rcases Nat.lt_or_ge M 121 with q | q
          · replace h := q
            rcases Nat.lt_or_ge M 118 with q | q
            · replace h := q
              rcases Nat.lt_or_ge M 117 with q | q
              · replace h := q
                have e : M = 116 := by omega
                subst e
                exact am_q_116
              · replace g := q
                have e : M = 117 := by omega
                subst e
                exact am_q_117
            · replace g := q
              rcases Nat.lt_or_ge M 119 with q | q
              · replace h := q
                have e : M = 118 := by omega
                subst e
                exact am_q_118
              · replace g := q
                rcases Nat.lt_or_ge M 120 with q | q
                · replace h := q
                  have e : M = 119 := by omega
                  subst e
                  exact am_q_119
                · replace g := q
                  have e : M = 120 := by omega
                  subst e
                  exact am_q_120
          · replace g := q
            rcases Nat.lt_or_ge M 124 with q | q
            · replace h := q
              rcases Nat.lt_or_ge M 122 with q | q
              · replace h := q
                have e : M = 121 := by omega
                subst e
                exact am_q_121
              · replace g := q
                rcases Nat.lt_or_ge M 123 with q | q
                · replace h := q
                  have e : M = 122 := by omega
                  subst e
                  exact am_q_122
                · replace g := q
                  have e : M = 123 := by omega
                  subst e
                  exact am_q_123
            · replace g := q
              rcases Nat.lt_or_ge M 125 with q | q
              · replace h := q
                have e : M = 124 := by omega
                subst e
                exact am_q_124
              · replace g := q
                rcases Nat.lt_or_ge M 126 with q | q
                · replace h := q
                  have e : M = 125 := by omega
                  subst e
                  exact am_q_125
                · replace g := q
                  have e : M = 126 := by omega
                  subst e
                  exact am_q_126
    · replace g := q
      rcases Nat.lt_or_ge M 148 with q | q
      · replace h := q
        rcases Nat.lt_or_ge M 137 with q | q
        · replace h := q
          rcases Nat.lt_or_ge M 132 with q | q
          · replace h := q
            rcases Nat.lt_or_ge M 129 with q | q
            · replace h := q
              rcases Nat.lt_or_ge M 128 with q | q
              · replace h := q
                have e : M = 127 := by omega
                subst e
                exact am_q_127
              · replace g := q
                have e : M = 128 := by omega
                subst e
                exact am_q_128
            · replace g := q
              rcases Nat.lt_or_ge M 130 with q | q
              · replace h := q
                have e : M = 129 := by omega
                subst e
                exact am_q_129
              · replace g := q
                rcases Nat.lt_or_ge M 131 with q | q
                · replace h := q
                  have e : M = 130 := by omega
                  subst e
                  exact am_q_130
                · replace g := q
                  have e : M = 131 := by omega
                  subst e
                  exact am_q_131
          · replace g := q
            rcases Nat.lt_or_ge M 134 with q | q
            · replace h := q
              rcases Nat.lt_or_ge M 133 with q | q
              · replace h := q
                have e : M = 132 := by omega
                subst e
                exact am_q_132
              · replace g := q
                have e : M = 133 := by omega
                subst e
                exact am_q_133
            · replace g := q
              rcases Nat.lt_or_ge M 135 with q | q
              · replace h := q
                have e : M = 134 := by omega
                subst e
                exact am_q_134
              · replace g := q
                rcases Nat.lt_or_ge M 136 with q | q
                · replace h := q
                  have e : M = 135 := by omega
                  subst e
                  exact am_q_135
                · replace g := q
                  have e : M = 136 := by omega
                  subst e
                  exact am_q_136
        · replace g := q
          rcases Nat.lt_or_ge M 142 with q | q
          · replace h := q
            rcases Nat.lt_or_ge M 139 with q | q
            · replace h := q
              rcases Nat.lt_or_ge M 138 with q | q
              · replace h := q
                have e : M = 137 := by omega
                subst e
                exact am_q_137
              · replace g := q
                have e : M = 138 := by omega
                subst e
                exact am_q_138
            · replace g := q
              rcases Nat.lt_or_ge M 140 with q | q
              · replace h := q
                have e : M = 139 := by omega
                subst e
                exact am_q_139
              · replace g := q
                rcases Nat.lt_or_ge M 141 with q | q
                · replace h := q
                  have e : M = 140 := by omega
                  subst e
                  exact am_q_140
                · replace g := q
                  have e : M = 141 := by omega
                  subst e
                  exact am_q_141
          · replace g := q
            rcases Nat.lt_or_ge M 145 with q | q
            · replace h := q
              rcases Nat.lt_or_ge M 143 with q | q
              · replace h := q
                have e : M = 142 := by omega
                subst e
                exact am_q_142
              · replace g := q
                rcases Nat.lt_or_ge M 144 with q | q
                · replace h := q
                  have e : M = 143 := by omega
                  subst e
                  exact am_q_143
                · replace g := q
                  have e : M = 144 := by omega
                  subst e
                  exact am_q_144
            · replace g := q
              rcases Nat.lt_or_ge M 146 with q | q
              · replace h := q
                have e : M = 145 := by omega
                subst e
                exact am_q_145
              · replace g := q
                rcases Nat.lt_or_ge M 147 with q | q
                · replace h := q
                  have e : M = 146 := by omega
                  subst e
                  exact am_q_146
                · replace g := q
                  have e : M = 147 := by omega
                  subst e
                  exact am_q_147
      · replace g := q
        rcases Nat.lt_or_ge M 159 with q | q
        · replace h := q
          rcases Nat.lt_or_ge M 153 with q | q
          · replace h := q
            rcases Nat.lt_or_ge M 150 with q | q
            · replace h := q
              rcases Nat.lt_or_ge M 149 with q | q
              · replace h := q
                have e : M = 148 := by omega
                subst e
                exact am_q_148
              · replace g := q
                have e : M = 149 := by omega
                subst e
                exact am_q_149
            · replace g := q
              rcases Nat.lt_or_ge M 151 with q | q
              · replace h := q
                have e : M = 150 := by omega
                subst e
                exact am_q_150
              · replace g := q
                rcases Nat.lt_or_ge M 152 with q | q
                · replace h := q
                  have e : M = 151 := by omega
                  subst e
                  exact am_q_151
                · replace g := q
                  have e : M = 152 := by omega
                  subst e
                  exact am_q_152
          · replace g := q
            rcases Nat.lt_or_ge M 156 with q | q
            · replace h := q
              rcases Nat.lt_or_ge M 154 with q | q
              · replace h := q
                have e : M = 153 := by omega
                subst e
                exact am_q_153
              · replace g := q
                rcases Nat.lt_or_ge M 155 with q | q
                · replace h := q
                  have e : M = 154 := by omega
                  subst e
                  exact am_q_154
                · replace g := q
                  have e : M = 155 := by omega
                  subst e
                  exact am_q_155
            · replace g := q
              rcases Nat.lt_or_ge M 157 with q | q
              · replace h := q
                have e : M = 156 := by omega
                subst e
                exact am_q_156
              · replace g := q
                rcases Nat.lt_or_ge M 158 with q | q
                · replace h := q
                  have e : M = 157 := by omega
                  subst e
                  exact am_q_157
                · replace g := q
                  have e : M = 158 := by omega
                  subst e
                  exact am_q_158
        · replace g := q
          rcases Nat.lt_or_ge M 164 with q | q
          · replace h := q
            rcases Nat.lt_or_ge M 161 with q | q
            · replace h := q
              rcases Nat.lt_or_ge M 160 with q | q
              · replace h := q
                have e : M = 159 := by omega
                subst e
                exact am_q_159
              · replace g := q
                have e : M = 160 := by omega
                subst e
                exact am_q_160
            · replace g := q
              rcases Nat.lt_or_ge M 162 with q | q
              · replace h := q
                have e : M = 161 := by omega
                subst e
                exact am_q_161
              · replace g := q
                rcases Nat.lt_or_ge M 163 with q | q
                · replace h := q
                  have e : M = 162 := by omega
                  subst e
                  exact am_q_162
                · replace g := q
                  have e : M = 163 := by omega
                  subst e
                  exact am_q_163
          · replace g := q
            rcases Nat.lt_or_ge M 167 with q | q
            · replace h := q
              rcases Nat.lt_or_ge M 165 with q | q
              · replace h := q
                have e : M = 164 := by omega
                subst e
                exact am_q_164
              · replace g := q
                rcases Nat.lt_or_ge M 166 with q | q
                · replace h := q
                  have e : M = 165 := by omega
                  subst e
                  exact am_q_165
                · replace g := q
                  have e : M = 166 := by omega
                  subst e
                  exact am_q_166
            · replace g := q
              rcases Nat.lt_or_ge M 168 with q | q
              · replace h := q
                have e : M = 167 := by omega
                subst e
                exact am_q_167
              · replace g := q
                rcases Nat.lt_or_ge M 169 with q | q
                · replace h := q
                  have e : M = 168 := by omega
                  subst e
                  exact am_q_168
                · replace g := q
                  have e : M = 169 := by omega
                  subst e
                  exact am_q_169
theorem am_lookup_mem {α : Type} (l : List (Nat × α)) {k : Nat} {v : α} (h : l.lookup k = some v) : (k, v) ∈ l := by
  induction l with
  | nil => cases h
  | cons q t ih =>
    obtain ⟨a, b⟩ := q
    rw [List.lookup_cons] at h
    cases hk : k == a with
    | true =>
      rw [hk] at h
      have e1 : k = a := by simpa using hk
      have e2 : b = v := by simpa using h
      subst e1; subst e2
      exact List.mem_cons_self
    | false =>
      rw [hk] at h
      exact List.mem_cons_of_mem _ (ih h)
theorem am_tab_ok {M pc : Nat} {e : am_E} (h : am_tab M pc = some e) : am_ok M (pc, e) = true ∧ M < 170 := by
  unfold am_tab at h
  cases hl : (am_tabs.getD M [])[pc / 16]? with
  | none => rw [hl] at h; cases h
  | some l =>
    rw [hl] at h
    have hm := am_lookup_mem l h
    have hM : M < 170 := by
      rcases Nat.lt_or_ge M 170 with q | q
      · exact q
      · have : am_tabs.length = 170 := rfl
        rw [List.getD_eq_default _ _ (by omega)] at hl
        simp at hl
    have h1 := am_q_all M hM (Nat.zero_le _)
    have h2 := List.all_eq_true.mp h1 l (List.mem_of_getElem? hl)
    exact ⟨List.all_eq_true.mp h2 _ hm, hM⟩
theorem am_i1_some {st : List Value} {q : Nat × List Value × List Value × am_H} {k : Int32 → List Value → am_Q} (h : am_i1 st k = some q) : ∃ x r, st = .int x :: r ∧ k x r = some q := by
  unfold am_i1 at h
  split at h
  · exact ⟨_, _, rfl, h⟩
  · cases h
theorem am_i2_some {st : List Value} {q : Nat × List Value × List Value × am_H} {k : Int32 → Int32 → List Value → am_Q} (h : am_i2 st k = some q) : ∃ x y r, st = .int y :: .int x :: r ∧ k x y r = some q := by
  unfold am_i2 at h
  split at h
  · exact ⟨_, _, _, rfl, h⟩
  · cases h
theorem am_l1_some {st : List Value} {q : Nat × List Value × List Value × am_H} {k : Int64 → List Value → am_Q} (h : am_l1 st k = some q) : ∃ x r, st = .long x :: r ∧ k x r = some q := by
  unfold am_l1 at h
  split at h
  · exact ⟨_, _, rfl, h⟩
  · cases h
theorem am_l2_some {st : List Value} {q : Nat × List Value × List Value × am_H} {k : Int64 → Int64 → List Value → am_Q} (h : am_l2 st k = some q) : ∃ x y r, st = .long y :: .long x :: r ∧ k x y r = some q := by
  unfold am_l2 at h
  split at h
  · exact ⟨_, _, _, rfl, h⟩
  · cases h
theorem am_li_some {st : List Value} {q : Nat × List Value × List Value × am_H} {k : Int64 → Int32 → List Value → am_Q} (h : am_li st k = some q) : ∃ x y r, st = .int y :: .long x :: r ∧ k x y r = some q := by
  unfold am_li at h
  split at h
  · exact ⟨_, _, _, rfl, h⟩
  · cases h
theorem am_r1_some {st : List Value} {q : Nat × List Value × List Value × am_H} {k : Nat → List Value → am_Q} (h : am_r1 st k = some q) : ∃ x r, st = .ref x :: r ∧ k x r = some q := by
  unfold am_r1 at h
  split at h
  · exact ⟨_, _, rfl, h⟩
  · cases h
theorem am_ri_some {st : List Value} {q : Nat × List Value × List Value × am_H} {k : Nat → Int32 → List Value → am_Q} (h : am_ri st k = some q) : ∃ x y r, st = .int y :: .ref x :: r ∧ k x y r = some q := by
  unfold am_ri at h
  split at h
  · exact ⟨_, _, _, rfl, h⟩
  · cases h
theorem am_riv_some {st : List Value} {q : Nat × List Value × List Value × am_H} {k : Nat → Int32 → Value → List Value → am_Q} (h : am_riv st k = some q) : ∃ x y v r, st = v :: .int y :: .ref x :: r ∧ k x y v r = some q := by
  unfold am_riv at h
  split at h
  · exact ⟨_, _, _, _, rfl, h⟩
  · cases h
theorem am_rv_some {st : List Value} {q : Nat × List Value × List Value × am_H} {k : Nat → Value → List Value → am_Q} (h : am_rv st k = some q) : ∃ x v r, st = v :: .ref x :: r ∧ k x v r = some q := by
  unfold am_rv at h
  split at h
  · exact ⟨_, _, _, rfl, h⟩
  · cases h
theorem am_vi_some {v : Value} {q : Nat × List Value × List Value × am_H} {k : Int32 → am_Q} (h : am_vi v k = some q) : ∃ x, v = .int x ∧ k x = some q := by
  unfold am_vi at h
  split at h
  · exact ⟨_, rfl, h⟩
  · cases h
theorem am_vl_some {v : Value} {q : Nat × List Value × List Value × am_H} {k : Int64 → am_Q} (h : am_vl v k = some q) : ∃ x, v = .long x ∧ k x = some q := by
  unfold am_vl at h
  split at h
  · exact ⟨_, rfl, h⟩
  · cases h
theorem am_vr_some {v : Value} {q : Nat × List Value × List Value × am_H} {k : Nat → am_Q} (h : am_vr v k = some q) : ∃ x, v = .ref x ∧ k x = some q := by
  unfold am_vr at h
  split at h
  · exact ⟨_, rfl, h⟩
  · cases h
theorem am_vo_some {v : Option Value} {q : Nat × List Value × List Value × am_H} {k : Value → am_Q} (h : am_vo v k = some q) : ∃ x, v = some x ∧ k x = some q := by
  unfold am_vo at h
  split at h
  · exact ⟨_, rfl, h⟩
  · cases h
theorem am_ho_some {v : Option am_H} {q : Nat × List Value × List Value × am_H} {k : am_H → am_Q} (h : am_ho v k = some q) : ∃ x, v = some x ∧ k x = some q := by
  unfold am_ho at h
  split at h
  · exact ⟨_, rfl, h⟩
  · cases h
theorem am_if_some {c : Prop} [Decidable c] {q : Nat × List Value × List Value × am_H} {k : am_Q} (h : am_if c k = some q) : c ∧ k = some q := by
  unfold am_if at h
  split at h
  next g => exact ⟨g, h⟩
  next => cases h
theorem am_cmp_some {c : ClassFile.Cond} {x y : Int32} {q : Nat × List Value × List Value × am_H} {k1 k2 : am_Q} (h : am_cmp c x y k1 k2 = some q) : k1 = some q ∨ k2 = some q := by
  unfold am_cmp at h
  split at h <;> split at h <;> first | exact Or.inl h | exact Or.inr h
theorem am_len_p (A : am_H) (i : Nat) (c : Nat × List Value) (h : i < A.length) : (am_p A i c).length = A.length := by rw [am_p_set A i c h, List.length_set]
theorem am_sz_p (A : am_H) (i : Nat) (c : Nat × List Value) (h : A[i]? = some d) (hl : c.2.length = d.2.length) : am_sz (am_p A i c) = am_sz A := by
  induction A generalizing i with
  | nil => simp at h
  | cons x t ih =>
    cases i with
    | zero =>
      simp at h
      subst h
      simp [am_p, am_sz, hl]
    | succ i =>
      have := ih i (by simpa using h)
      simp only [am_p, am_sz, List.map_cons, List.sum_cons] at this ⊢
      omega
theorem am_pf_some {x y : Nat} {A A' : am_H} {a : Nat} {v : Value} (h : am_pf x y A a v = some A') : (am_g A a).1 = x ∧ y < (am_g A a).2.length ∧ A' = am_p A a (x, (am_g A a).2.set y v) := by
  unfold am_pf at h
  split at h
  next g => exact ⟨g.1, g.2, (Option.some.inj h).symm⟩
  next => cases h
theorem am_wr_some {t : Nat} {A A' : am_H} {a : Nat} {i : Int32} {v : Value} (h : am_wr t A a i v = some A') : (am_g A a).1 = t ∧ ¬ i < 0 ∧ i.toNatClampNeg < (am_g A a).2.length ∧ A' = am_p A a (t, (am_g A a).2.set i.toNatClampNeg v) := by
  unfold am_wr at h
  split at h
  next g => exact ⟨g.1, g.2.1, g.2.2, (Option.some.inj h).symm⟩
  next => cases h
theorem am_rd_some {t : Nat} {A : am_H} {a : Nat} {i : Int32} {v : Value} (h : am_rd t A a i = some v) : (am_g A a).1 = t ∧ ¬ i < 0 ∧ (am_g A a).2[i.toNatClampNeg]? = some v := by
  unfold am_rd at h
  split at h
  next g => exact ⟨g.1, g.2, h⟩
  next => cases h
theorem am_gf_some {x y : Nat} {A : am_H} {a : Nat} {v : Value} (h : am_gf x y A a = some v) : (am_g A a).1 = x ∧ (am_g A a).2[y]? = some v := by
  unfold am_gf at h
  split at h
  next g => exact ⟨g, h⟩
  next => cases h
theorem am_in_of {A : am_H} {a k : Nat} (h : k < (am_g A a).2.length) : A[a]? = some (am_g A a) := by
  unfold am_g at h ⊢
  cases hc : A[a]? with
  | none => simp [List.getD, hc] at h
  | some c => simp [List.getD, hc]
theorem am_grow_p {A : am_H} {a k t : Nat} {v : Value} (h : k < (am_g A a).2.length) : (am_p A a (t, (am_g A a).2.set k v)).length = A.length ∧ am_sz (am_p A a (t, (am_g A a).2.set k v)) = am_sz A :=
  ⟨am_len_p _ _ _ (List.getElem?_eq_some_iff.mp (am_in_of h)).1, am_sz_p _ _ _ (am_in_of h) (by simp)⟩
theorem am_sz_app (A : am_H) (c : Nat × List Value) : am_sz (A ++ [c]) = am_sz A + c.2.length := by simp [am_sz]
set_option maxHeartbeats 4000000 in
theorem am_op_grow {e : am_E} {pc : Nat} {ls st : List Value} {A : am_H} {q : Nat × List Value × List Value × am_H} (h : am_op e pc ls st A = some q) : A.length ≤ q.2.2.2.length ∧ am_sz A ≤ am_sz q.2.2.2 := by
  obtain ⟨ins, ln, x, y, w⟩ := e
  unfold am_op at h
  cases ins
  case putfield i =>
    obtain ⟨a, v, r, -, h⟩ := am_rv_some h
    obtain ⟨-, h⟩ := am_if_some h
    obtain ⟨A', hA, h⟩ := am_ho_some h
    obtain ⟨-, h1, rfl⟩ := am_pf_some hA
    cases h
    have := am_grow_p (t := x) (v := v) h1
    exact ⟨Nat.le_of_eq this.1.symm, Nat.le_of_eq this.2.symm⟩
  case iastore =>
    obtain ⟨a, i, v, r, -, h⟩ := am_riv_some h
    obtain ⟨z, -, h⟩ := am_vi_some h
    obtain ⟨A', hA, h⟩ := am_ho_some h
    obtain ⟨-, -, h1, rfl⟩ := am_wr_some hA
    cases h
    have := am_grow_p (t := 100) (v := .int z) h1
    exact ⟨Nat.le_of_eq this.1.symm, Nat.le_of_eq this.2.symm⟩
  case lastore =>
    obtain ⟨a, i, v, r, -, h⟩ := am_riv_some h
    obtain ⟨z, -, h⟩ := am_vl_some h
    obtain ⟨A', hA, h⟩ := am_ho_some h
    obtain ⟨-, -, h1, rfl⟩ := am_wr_some hA
    cases h
    have := am_grow_p (t := 101) (v := .long z) h1
    exact ⟨Nat.le_of_eq this.1.symm, Nat.le_of_eq this.2.symm⟩
  case bastore =>
    obtain ⟨a, i, v, r, -, h⟩ := am_riv_some h
    obtain ⟨z, -, h⟩ := am_vi_some h
    obtain ⟨-, h⟩ := am_if_some h
    obtain ⟨A', hA, h⟩ := am_ho_some h
    obtain ⟨-, -, h1, rfl⟩ := am_wr_some hA
    cases h
    have := am_grow_p (t := 102) (v := .int z) h1
    exact ⟨Nat.le_of_eq this.1.symm, Nat.le_of_eq this.2.symm⟩
  case aastore =>
    obtain ⟨a, i, v, r, -, h⟩ := am_riv_some h
    obtain ⟨z, -, h⟩ := am_vr_some h
    obtain ⟨-, h⟩ := am_if_some h
    obtain ⟨A', hA, h⟩ := am_ho_some h
    obtain ⟨-, -, h1, rfl⟩ := am_wr_some hA
    cases h
    have := am_grow_p (t := (am_g A a).1) (v := .ref z) h1
    exact ⟨Nat.le_of_eq this.1.symm, Nat.le_of_eq this.2.symm⟩
  case new i =>
    cases h
    exact ⟨by simp, by show _ ≤ am_sz (A ++ [_]); rw [am_sz_app]; omega⟩
  case newarray i =>
    obtain ⟨n, r, -, h⟩ := am_i1_some h
    obtain ⟨-, h⟩ := am_if_some h
    cases h
    exact ⟨by simp, by show _ ≤ am_sz (A ++ [_]); rw [am_sz_app]; omega⟩
  case anewarray i =>
    obtain ⟨n, r, -, h⟩ := am_i1_some h
    obtain ⟨-, h⟩ := am_if_some h
    cases h
    exact ⟨by simp, by show _ ≤ am_sz (A ++ [_]); rw [am_sz_app]; omega⟩
  case tableswitch a b c d =>
    obtain ⟨n, r, -, h⟩ := am_i1_some h
    have : q.2.2.2 = A := by
      split at h
      · cases h; rfl
      · split at h
        · cases h; rfl
        · cases h
    rw [this]; exact ⟨Nat.le_refl _, Nat.le_refl _⟩
  case dup =>
    have : q.2.2.2 = A := by
      split at h
      · obtain ⟨-, h⟩ := am_if_some h
        cases h; rfl
      · cases h
    rw [this]; exact ⟨Nat.le_refl _, Nat.le_refl _⟩
  case dup2 =>
    have : q.2.2.2 = A := by
      split at h
      · obtain ⟨-, h⟩ := am_if_some h
        cases h; rfl
      · cases h
    rw [this]; exact ⟨Nat.le_refl _, Nat.le_refl _⟩
  all_goals
    first
    | (cases h; exact ⟨Nat.le_refl _, Nat.le_refl _⟩)
    | (have : q.2.2.2 = A := by
        first
        | (obtain ⟨_, _, _, -, h⟩ := am_i2_some h; first | (cases h; rfl) | (obtain ⟨-, h⟩ := am_if_some h; cases h; rfl) | (rcases am_cmp_some h with h | h <;> (cases h; rfl)))
        | (obtain ⟨_, _, -, h⟩ := am_i1_some h; first | (cases h; rfl) | (obtain ⟨-, h⟩ := am_if_some h; cases h; rfl) | (rcases am_cmp_some h with h | h <;> (cases h; rfl)))
        | (obtain ⟨_, _, _, -, h⟩ := am_l2_some h; first | (cases h; rfl) | (obtain ⟨-, h⟩ := am_if_some h; cases h; rfl))
        | (obtain ⟨_, _, -, h⟩ := am_l1_some h; first | (cases h; rfl) | (obtain ⟨-, h⟩ := am_if_some h; cases h; rfl))
        | (obtain ⟨_, _, _, -, h⟩ := am_li_some h; cases h; rfl)
        | (obtain ⟨_, -, h⟩ := am_vo_some h; first | (obtain ⟨_, -, h⟩ := am_vi_some h; cases h; rfl) | (obtain ⟨_, -, h⟩ := am_vl_some h; cases h; rfl) | (obtain ⟨_, -, h⟩ := am_vr_some h; cases h; rfl))
        | (obtain ⟨_, _, -, h⟩ := am_r1_some h; first | (obtain ⟨-, h⟩ := am_if_some h; cases h; rfl) | (obtain ⟨_, -, h⟩ := am_vo_some h; cases h; rfl))
        | (obtain ⟨_, _, _, -, h⟩ := am_ri_some h; obtain ⟨_, -, h⟩ := am_vo_some h; first | (obtain ⟨_, -, h⟩ := am_vi_some h; cases h; rfl) | (obtain ⟨_, -, h⟩ := am_vl_some h; cases h; rfl) | (obtain ⟨_, -, h⟩ := am_vr_some h; obtain ⟨-, h⟩ := am_if_some h; cases h; rfl))
       rw [this]; exact ⟨Nat.le_refl _, Nat.le_refl _⟩)
theorem am_cl_grow {K d M pc : Nat} {ls st : List Value} {A : am_H} {q : am_C × (Option Value → am_H → am_C)} (h : am_cl K d M pc ls st A = .inr (.inr q)) : q.1.2.2.2.2.2 = A ∧ ∀ v A', (q.2 v A').2.2.2.2.2 = A' := by
  unfold am_cl at h
  split at h
  · cases h
  · split at h
    · cases h; exact ⟨rfl, fun _ _ => rfl⟩
    · cases h
theorem am_cl_not {K d M pc : Nat} {ls st : List Value} {A : am_H} {z : am_C} (h : am_cl K d M pc ls st A = .inr (.inl z)) : False := by
  unfold am_cl at h
  split at h
  · cases h
  · split at h <;> cases h
theorem am_cl_inl {K d M pc : Nat} {ls st : List Value} {A : am_H} {r : am_R} (h : am_cl K d M pc ls st A = .inl r) : r = none := by
  unfold am_cl at h
  split at h
  · cases h; rfl
  · split at h
    · cases h
    · cases h; rfl
set_option maxHeartbeats 4000000 in
theorem am_dec_go {M d pc : Nat} {ls st : List Value} {A : am_H} {e : am_E} {c : am_C} (h : am_dec M d pc ls st A e = .inr (.inl c)) : A.length ≤ c.2.2.2.2.2.length ∧ am_sz A ≤ am_sz c.2.2.2.2.2 := by
  have hop : ∀ T : am_T, (match am_op e pc ls st A with
    | none => (.inl none : am_T)
    | some q => .inr (.inl (d, M, q.1, q.2.1, q.2.2.1, q.2.2.2))) = .inr (.inl c) → A.length ≤ c.2.2.2.2.2.length ∧ am_sz A ≤ am_sz c.2.2.2.2.2 := by
    intro _ h
    cases ho : am_op e pc ls st A with
    | none => rw [ho] at h; cases h
    | some q => rw [ho] at h; cases h; exact am_op_grow ho
  unfold am_dec at h
  split at h
  · cases h
  · cases h
  · cases h
  · exact (am_cl_not h).elim
  · split at h
    · unfold am_mm at h
      split at h
      · split at h
        · cases h; exact ⟨Nat.le_refl _, Nat.le_refl _⟩
        · cases h
      · cases h
    · exact (am_cl_not h).elim
  · split at h
    · split at h
      · split at h
        · cases h; exact ⟨Nat.le_refl _, Nat.le_refl _⟩
        · cases h
      · cases h
    · exact (am_cl_not h).elim
  · exact hop (.inl none) h
theorem am_dec_call {M d pc : Nat} {ls st : List Value} {A : am_H} {e : am_E} {q : am_C × (Option Value → am_H → am_C)} (h : am_dec M d pc ls st A e = .inr (.inr q)) : am_cl e.2.2.1 d M pc ls st A = .inr (.inr q) ∧ ((∃ i, e.1 = .invokevirtual i) ∨ ((∃ i, e.1 = .invokestatic i) ∧ ¬ (e.2.2.1 = 167 ∨ e.2.2.1 = 168)) ∨ ((∃ i, e.1 = .invokespecial i) ∧ ¬ e.2.2.1 = 9999)) := by
  unfold am_dec at h
  split at h
  · cases h
  · cases h
  · cases h
  next i hi => exact ⟨h, Or.inl ⟨i, hi⟩⟩
  next i hi =>
    split at h
    · unfold am_mm at h
      split at h
      · split at h <;> cases h
      · cases h
    next g => exact ⟨h, Or.inr (Or.inl ⟨⟨i, hi⟩, g⟩)⟩
  next i hi =>
    split at h
    · split at h
      · split at h <;> cases h
      · cases h
    next g => exact ⟨h, Or.inr (Or.inr ⟨⟨i, hi⟩, g⟩)⟩
  · cases ho : am_op e pc ls st A with
    | none => rw [ho] at h; cases h
    | some q => rw [ho] at h; cases h
theorem am_dec_ret {M d pc : Nat} {ls st : List Value} {A : am_H} {e : am_E} {r : Option Value} {A' : am_H} (h : am_dec M d pc ls st A e = .inl (some (r, A'))) : A' = A := by
  unfold am_dec at h
  split at h
  · split at h
    · split at h
      · cases h; rfl
      · cases h
    · cases h
  · split at h
    · cases h; rfl
    · cases h
  · split at h
    · cases h; rfl
    · cases h
  · cases (am_cl_inl h)
  · split at h
    · unfold am_mm at h
      split at h
      · split at h <;> cases h
      · cases h
    · cases (am_cl_inl h)
  · split at h
    · split at h
      · split at h <;> cases h
      · cases h
    · cases (am_cl_inl h)
  · cases ho : am_op e pc ls st A with
    | none => rw [ho] at h; cases h
    | some q => rw [ho] at h; cases h
theorem am_grow (n : Nat) : ∀ (c : am_C) (r : Option Value) (A' : am_H), am_ex n c = some (r, A') → c.2.2.2.2.2.length ≤ A'.length ∧ am_sz c.2.2.2.2.2 ≤ am_sz A' := by
  induction n with
  | zero => intro c r A' h; cases h
  | succ n ih =>
    intro c r A' h
    obtain ⟨d, M, pc, ls, st, A⟩ := c
    have h : am_F (am_ex n) (d, M, pc, ls, st, A) = some (r, A') := h
    unfold am_F am_D at h
    dsimp only at h ⊢
    cases ht : am_tab M pc with
    | none => rw [ht] at h; cases h
    | some e =>
      rw [ht] at h
      dsimp only at h
      cases hd : am_dec M d pc ls st A e with
      | inl z =>
        rw [hd] at h
        dsimp only at h
        subst h
        rw [am_dec_ret hd]
        exact ⟨Nat.le_refl _, Nat.le_refl _⟩
      | inr z =>
        cases z with
        | inl c' =>
          rw [hd] at h
          have h1 := am_dec_go hd
          have h2 := ih c' r A' h
          exact ⟨Nat.le_trans h1.1 h2.1, Nat.le_trans h1.2 h2.2⟩
        | inr q =>
          rw [hd] at h
          obtain ⟨h1, h2⟩ := am_cl_grow (am_dec_call hd).1
          dsimp only at h
          cases hq : am_ex n q.1 with
          | none => rw [hq] at h; cases h
          | some v =>
            rw [hq] at h
            obtain ⟨v, A1⟩ := v
            have h3 := ih q.1 v A1 hq
            have h4 := ih _ r A' h
            rw [h1] at h3
            rw [h2] at h4
            exact ⟨Nat.le_trans h3.1 h4.1, Nat.le_trans h3.2 h4.2⟩
