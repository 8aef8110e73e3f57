/-! all methods -/
set_option maxRecDepth 20000 in
set_option maxHeartbeats 4000000 in
theorem all_ok {G : mG} {M : Nat} (hM : M < 282) : ∀ pc, okF G (mInf M).1.cls (mInf M).1.name (mInf M).2.1 (mInf M).2.2.1 (mInf M).2.2.2.1 (mInf M).2.2.2.2 pc (cT M pc) := by
  by_cases h141 : M < 141
  · skip
    by_cases h70 : M < 70
    · skip
      by_cases h35 : M < 35
      · skip
        by_cases h17 : M < 17
        · skip
          by_cases h8 : M < 8
          · skip
            by_cases h4 : M < 4
            · skip
              by_cases h2 : M < 2
              · skip
                by_cases h1 : M < 1
                · skip
                  obtain rfl : M = 0 := by omega
                  exact k_JM_max
                · skip
                  obtain rfl : M = 1 := by omega
                  exact k_R_init
              · skip
                by_cases h3 : M < 3
                · skip
                  obtain rfl : M = 2 := by omega
                  exact k_I_init
                · skip
                  obtain rfl : M = 3 := by omega
                  exact k_K_init
            · skip
              by_cases h6 : M < 6
              · skip
                by_cases h5 : M < 5
                · skip
                  obtain rfl : M = 4 := by omega
                  exact k_L_init
                · skip
                  obtain rfl : M = 5 := by omega
                  exact k_B_init
              · skip
                by_cases h7 : M < 7
                · skip
                  obtain rfl : M = 6 := by omega
                  exact k_P_init
                · skip
                  obtain rfl : M = 7 := by omega
                  exact k_D_init
          · skip
            by_cases h12 : M < 12
            · skip
              by_cases h10 : M < 10
              · skip
                by_cases h9 : M < 9
                · skip
                  obtain rfl : M = 8 := by omega
                  exact k_S_init
                · skip
                  obtain rfl : M = 9 := by omega
                  exact k_X_init
              · skip
                by_cases h11 : M < 11
                · skip
                  obtain rfl : M = 10 := by omega
                  exact k_M_init
                · skip
                  obtain rfl : M = 11 := by omega
                  exact k_X_within
            · skip
              by_cases h14 : M < 14
              · skip
                by_cases h13 : M < 13
                · skip
                  obtain rfl : M = 12 := by omega
                  exact k_R_isFull
                · skip
                  obtain rfl : M = 13 := by omega
                  exact k_R_put
              · skip
                by_cases h15 : M < 15
                · skip
                  obtain rfl : M = 14 := by omega
                  exact k_R_more
                · skip
                  by_cases h16 : M < 16
                  · skip
                    obtain rfl : M = 15 := by omega
                    exact k_I_beginSpan
                  · skip
                    obtain rfl : M = 16 := by omega
                    exact k_X_person
        · skip
          by_cases h26 : M < 26
          · skip
            by_cases h21 : M < 21
            · skip
              by_cases h19 : M < 19
              · skip
                by_cases h18 : M < 18
                · skip
                  obtain rfl : M = 17 := by omega
                  exact k_M_within
                · skip
                  obtain rfl : M = 18 := by omega
                  exact k_M_becomes
              · skip
                by_cases h20 : M < 20
                · skip
                  obtain rfl : M = 19 := by omega
                  exact k_M_begins
                · skip
                  obtain rfl : M = 20 := by omega
                  exact k_M_person
            · skip
              by_cases h23 : M < 23
              · skip
                by_cases h22 : M < 22
                · skip
                  obtain rfl : M = 21 := by omega
                  exact k_R_has
                · skip
                  obtain rfl : M = 22 := by omega
                  exact k_R_at
              · skip
                by_cases h24 : M < 24
                · skip
                  obtain rfl : M = 23 := by omega
                  exact k_I_totalOf
                · skip
                  by_cases h25 : M < 25
                  · skip
                    obtain rfl : M = 24 := by omega
                    exact k_JI_bitCount
                  · skip
                    obtain rfl : M = 25 := by omega
                    exact k_X_hundredths
          · skip
            by_cases h30 : M < 30
            · skip
              by_cases h28 : M < 28
              · skip
                by_cases h27 : M < 27
                · skip
                  obtain rfl : M = 26 := by omega
                  exact k_B_hundredthsFor
                · skip
                  obtain rfl : M = 27 := by omega
                  exact k_B_setHearingOf
              · skip
                by_cases h29 : M < 29
                · skip
                  obtain rfl : M = 28 := by omega
                  exact k_X_told
                · skip
                  obtain rfl : M = 29 := by omega
                  exact k_M_there
            · skip
              by_cases h32 : M < 32
              · skip
                by_cases h31 : M < 31
                · skip
                  obtain rfl : M = 30 := by omega
                  exact k_M_total
                · skip
                  obtain rfl : M = 31 := by omega
                  exact k_M_heardOf
              · skip
                by_cases h33 : M < 33
                · skip
                  obtain rfl : M = 32 := by omega
                  exact k_M_ofCase
                · skip
                  by_cases h34 : M < 34
                  · skip
                    obtain rfl : M = 33 := by omega
                    exact k_M_bits
                  · skip
                    obtain rfl : M = 34 := by omega
                    exact k_M_riskOf
      · skip
        by_cases h52 : M < 52
        · skip
          by_cases h43 : M < 43
          · skip
            by_cases h39 : M < 39
            · skip
              by_cases h37 : M < 37
              · skip
                by_cases h36 : M < 36
                · skip
                  obtain rfl : M = 35 := by omega
                  exact k_M_setOf
                · skip
                  obtain rfl : M = 36 := by omega
                  exact k_M_told
              · skip
                by_cases h38 : M < 38
                · skip
                  obtain rfl : M = 37 := by omega
                  exact k_X_mostOfCase
                · skip
                  obtain rfl : M = 38 := by omega
                  exact k_R_exchange
            · skip
              by_cases h41 : M < 41
              · skip
                by_cases h40 : M < 40
                · skip
                  obtain rfl : M = 39 := by omega
                  exact k_X_be
                · skip
                  obtain rfl : M = 40 := by omega
                  exact k_M_be
              · skip
                by_cases h42 : M < 42
                · skip
                  obtain rfl : M = 41 := by omega
                  exact k_B_stateOf
                · skip
                  obtain rfl : M = 42 := by omega
                  exact k_X_sentence
          · skip
            by_cases h47 : M < 47
            · skip
              by_cases h45 : M < 45
              · skip
                by_cases h44 : M < 44
                · skip
                  obtain rfl : M = 43 := by omega
                  exact k_M_sentence
                · skip
                  obtain rfl : M = 44 := by omega
                  exact k_X_gap
              · skip
                by_cases h46 : M < 46
                · skip
                  obtain rfl : M = 45 := by omega
                  exact k_M_gap
                · skip
                  obtain rfl : M = 46 := by omega
                  exact k_I_latestSpan
            · skip
              by_cases h49 : M < 49
              · skip
                by_cases h48 : M < 48
                · skip
                  obtain rfl : M = 47 := by omega
                  exact k_I_goesOn
                · skip
                  obtain rfl : M = 48 := by omega
                  exact k_B_hasFled
              · skip
                by_cases h50 : M < 50
                · skip
                  obtain rfl : M = 49 := by omega
                  exact k_I_endSpan
                · skip
                  by_cases h51 : M < 51
                  · skip
                    obtain rfl : M = 50 := by omega
                    exact k_X_flee
                  · skip
                    obtain rfl : M = 51 := by omega
                    exact k_M_ends
        · skip
          by_cases h61 : M < 61
          · skip
            by_cases h56 : M < 56
            · skip
              by_cases h54 : M < 54
              · skip
                by_cases h53 : M < 53
                · skip
                  obtain rfl : M = 52 := by omega
                  exact k_M_flee
                · skip
                  obtain rfl : M = 53 := by omega
                  exact k_X_caught
              · skip
                by_cases h55 : M < 55
                · skip
                  obtain rfl : M = 54 := by omega
                  exact k_M_caught
                · skip
                  obtain rfl : M = 55 := by omega
                  exact k_B_leave
            · skip
              by_cases h58 : M < 58
              · skip
                by_cases h57 : M < 57
                · skip
                  obtain rfl : M = 56 := by omega
                  exact k_X_gone
                · skip
                  obtain rfl : M = 57 := by omega
                  exact k_M_gone
              · skip
                by_cases h59 : M < 59
                · skip
                  obtain rfl : M = 58 := by omega
                  exact k_JM_min
                · skip
                  by_cases h60 : M < 60
                  · skip
                    obtain rfl : M = 59 := by omega
                    exact k_I_freeDays
                  · skip
                    obtain rfl : M = 60 := by omega
                    exact k_I_servedOf
          · skip
            by_cases h65 : M < 65
            · skip
              by_cases h63 : M < 63
              · skip
                by_cases h62 : M < 62
                · skip
                  obtain rfl : M = 61 := by omega
                  exact k_X_served
                · skip
                  obtain rfl : M = 62 := by omega
                  exact k_M_point
              · skip
                by_cases h64 : M < 64
                · skip
                  obtain rfl : M = 63 := by omega
                  exact k_M_counts
                · skip
                  obtain rfl : M = 64 := by omega
                  exact k_M_servedOn
            · skip
              by_cases h67 : M < 67
              · skip
                by_cases h66 : M < 66
                · skip
                  obtain rfl : M = 65 := by omega
                  exact k_M_served
                · skip
                  obtain rfl : M = 66 := by omega
                  exact k_X_credit
              · skip
                by_cases h68 : M < 68
                · skip
                  obtain rfl : M = 67 := by omega
                  exact k_M_credit
                · skip
                  by_cases h69 : M < 69
                  · skip
                    obtain rfl : M = 68 := by omega
                    exact k_X_back
                  · skip
                    obtain rfl : M = 69 := by omega
                    exact k_M_back
    · skip
      by_cases h105 : M < 105
      · skip
        by_cases h87 : M < 87
        · skip
          by_cases h78 : M < 78
          · skip
            by_cases h74 : M < 74
            · skip
              by_cases h72 : M < 72
              · skip
                by_cases h71 : M < 71
                · skip
                  obtain rfl : M = 70 := by omega
                  exact k_I_creditOf
                · skip
                  obtain rfl : M = 71 := by omega
                  exact k_X_credits
              · skip
                by_cases h73 : M < 73
                · skip
                  obtain rfl : M = 72 := by omega
                  exact k_M_creditOf
                · skip
                  obtain rfl : M = 73 := by omega
                  exact k_M_credits
            · skip
              by_cases h76 : M < 76
              · skip
                by_cases h75 : M < 75
                · skip
                  obtain rfl : M = 74 := by omega
                  exact k_L_textAt
                · skip
                  obtain rfl : M = 75 := by omega
                  exact k_T_counts
              · skip
                by_cases h77 : M < 77
                · skip
                  obtain rfl : M = 76 := by omega
                  exact k_L_countingText
                · skip
                  obtain rfl : M = 77 := by omega
                  exact k_L_unwritten
          · skip
            by_cases h82 : M < 82
            · skip
              by_cases h80 : M < 80
              · skip
                by_cases h79 : M < 79
                · skip
                  obtain rfl : M = 78 := by omega
                  exact k_K_clear
                · skip
                  obtain rfl : M = 79 := by omega
                  exact k_K_push
              · skip
                by_cases h81 : M < 81
                · skip
                  obtain rfl : M = 80 := by omega
                  exact k_T_named
                · skip
                  obtain rfl : M = 81 := by omega
                  exact k_K_pop
            · skip
              by_cases h84 : M < 84
              · skip
                by_cases h83 : M < 83
                · skip
                  obtain rfl : M = 82 := by omega
                  exact k_T_joined
                · skip
                  obtain rfl : M = 83 := by omega
                  exact k_T_value
              · skip
                by_cases h85 : M < 85
                · skip
                  obtain rfl : M = 84 := by omega
                  exact k_L_held
                · skip
                  by_cases h86 : M < 86
                  · skip
                    obtain rfl : M = 85 := by omega
                    exact k_L_ruleOf
                  · skip
                    obtain rfl : M = 86 := by omega
                    exact k_B_isDue
        · skip
          by_cases h96 : M < 96
          · skip
            by_cases h91 : M < 91
            · skip
              by_cases h89 : M < 89
              · skip
                by_cases h88 : M < 88
                · skip
                  obtain rfl : M = 87 := by omega
                  exact k_X_due
                · skip
                  obtain rfl : M = 88 := by omega
                  exact k_M_counting
              · skip
                by_cases h90 : M < 90
                · skip
                  obtain rfl : M = 89 := by omega
                  exact k_M_done
                · skip
                  obtain rfl : M = 90 := by omega
                  exact k_M_worked
            · skip
              by_cases h93 : M < 93
              · skip
                by_cases h92 : M < 92
                · skip
                  obtain rfl : M = 91 := by omega
                  exact k_M_ruled
                · skip
                  obtain rfl : M = 92 := by omega
                  exact k_M_firstOf
              · skip
                by_cases h94 : M < 94
                · skip
                  obtain rfl : M = 93 := by omega
                  exact k_M_isDue
                · skip
                  by_cases h95 : M < 95
                  · skip
                    obtain rfl : M = 94 := by omega
                    exact k_M_due
                  · skip
                    obtain rfl : M = 95 := by omega
                    exact k_B_dateOf
          · skip
            by_cases h100 : M < 100
            · skip
              by_cases h98 : M < 98
              · skip
                by_cases h97 : M < 97
                · skip
                  obtain rfl : M = 96 := by omega
                  exact k_X_date
                · skip
                  obtain rfl : M = 97 := by omega
                  exact k_M_date
              · skip
                by_cases h99 : M < 99
                · skip
                  obtain rfl : M = 98 := by omega
                  exact k_P_hasRoom
                · skip
                  obtain rfl : M = 99 := by omega
                  exact k_P_append
            · skip
              by_cases h102 : M < 102
              · skip
                by_cases h101 : M < 101
                · skip
                  obtain rfl : M = 100 := by omega
                  exact k_X_feed
                · skip
                  obtain rfl : M = 101 := by omega
                  exact k_M_feed
              · skip
                by_cases h103 : M < 103
                · skip
                  obtain rfl : M = 102 := by omega
                  exact k_X_trim
                · skip
                  by_cases h104 : M < 104
                  · skip
                    obtain rfl : M = 103 := by omega
                    exact k_M_trim
                  · skip
                    obtain rfl : M = 104 := by omega
                    exact k_D_isWord
      · skip
        by_cases h123 : M < 123
        · skip
          by_cases h114 : M < 114
          · skip
            by_cases h109 : M < 109
            · skip
              by_cases h107 : M < 107
              · skip
                by_cases h106 : M < 106
                · skip
                  obtain rfl : M = 105 := by omega
                  exact k_P_byteAt
                · skip
                  obtain rfl : M = 106 := by omega
                  exact k_D_sortAt
              · skip
                by_cases h108 : M < 108
                · skip
                  obtain rfl : M = 107 := by omega
                  exact k_D_advance
                · skip
                  obtain rfl : M = 108 := by omega
                  exact k_D_wordOf
            · skip
              by_cases h111 : M < 111
              · skip
                by_cases h110 : M < 110
                · skip
                  obtain rfl : M = 109 := by omega
                  exact k_JS_coder
                · skip
                  obtain rfl : M = 110 := by omega
                  exact k_JS_length
              · skip
                by_cases h112 : M < 112
                · skip
                  obtain rfl : M = 111 := by omega
                  exact k_JS_isLatin1
                · skip
                  by_cases h113 : M < 113
                  · skip
                    obtain rfl : M = 112 := by omega
                    exact k_JP_checkIndex
                  · skip
                    obtain rfl : M = 113 := by omega
                    exact k_JS_checkIndex
          · skip
            by_cases h118 : M < 118
            · skip
              by_cases h116 : M < 116
              · skip
                by_cases h115 : M < 115
                · skip
                  obtain rfl : M = 114 := by omega
                  exact k_JL_charAt
                · skip
                  obtain rfl : M = 115 := by omega
                  exact k_JS_charAt
              · skip
                by_cases h117 : M < 117
                · skip
                  obtain rfl : M = 116 := by omega
                  exact k_D_isWordHere
                · skip
                  obtain rfl : M = 117 := by omega
                  exact k_D_keyHere
            · skip
              by_cases h120 : M < 120
              · skip
                by_cases h119 : M < 119
                · skip
                  obtain rfl : M = 118 := by omega
                  exact k_D_numberHere
                · skip
                  obtain rfl : M = 119 := by omega
                  exact k_D_emit
              · skip
                by_cases h121 : M < 121
                · skip
                  obtain rfl : M = 120 := by omega
                  exact k_D_emitLeaf
                · skip
                  by_cases h122 : M < 122
                  · skip
                    obtain rfl : M = 121 := by omega
                    exact k_D_namesOf
                  · skip
                    obtain rfl : M = 122 := by omega
                    exact k_JL_canEncode
        · skip
          by_cases h132 : M < 132
          · skip
            by_cases h127 : M < 127
            · skip
              by_cases h125 : M < 125
              · skip
                by_cases h124 : M < 124
                · skip
                  obtain rfl : M = 123 := by omega
                  exact k_JL_indexOfChar
                · skip
                  obtain rfl : M = 124 := by omega
                  exact k_JL_indexOf
              · skip
                by_cases h126 : M < 126
                · skip
                  obtain rfl : M = 125 := by omega
                  exact k_JS_indexOf
                · skip
                  obtain rfl : M = 126 := by omega
                  exact k_JS_indexOf1
            · skip
              by_cases h129 : M < 129
              · skip
                by_cases h128 : M < 128
                · skip
                  obtain rfl : M = 127 := by omega
                  exact k_D_nameHere
                · skip
                  obtain rfl : M = 128 := by omega
                  exact k_D_isSign
              · skip
                by_cases h130 : M < 130
                · skip
                  obtain rfl : M = 129 := by omega
                  exact k_D_refuse
                · skip
                  by_cases h131 : M < 131
                  · skip
                    obtain rfl : M = 130 := by omega
                    exact k_D_readPart
                  · skip
                    obtain rfl : M = 131 := by omega
                    exact k_D_signsOf
          · skip
            by_cases h136 : M < 136
            · skip
              by_cases h134 : M < 134
              · skip
                by_cases h133 : M < 133
                · skip
                  obtain rfl : M = 132 := by omega
                  exact k_D_signIsOf
                · skip
                  obtain rfl : M = 133 := by omega
                  exact k_D_readLevel
              · skip
                by_cases h135 : M < 135
                · skip
                  obtain rfl : M = 134 := by omega
                  exact k_D_readTape
                · skip
                  obtain rfl : M = 135 := by omega
                  exact k_JA_copyOf
            · skip
              by_cases h138 : M < 138
              · skip
                by_cases h137 : M < 137
                · skip
                  obtain rfl : M = 136 := by omega
                  exact k_T_init
                · skip
                  obtain rfl : M = 137 := by omega
                  exact k_D_made
              · skip
                by_cases h139 : M < 139
                · skip
                  obtain rfl : M = 138 := by omega
                  exact k_L_enact
                · skip
                  by_cases h140 : M < 140
                  · skip
                    obtain rfl : M = 139 := by omega
                    exact k_X_text
                  · skip
                    obtain rfl : M = 140 := by omega
                    exact k_M_isLetter
  · skip
    by_cases h211 : M < 211
    · skip
      by_cases h176 : M < 176
      · skip
        by_cases h158 : M < 158
        · skip
          by_cases h149 : M < 149
          · skip
            by_cases h145 : M < 145
            · skip
              by_cases h143 : M < 143
              · skip
                by_cases h142 : M < 142
                · skip
                  obtain rfl : M = 141 := by omega
                  exact k_M_isDigit
                · skip
                  obtain rfl : M = 142 := by omega
                  exact k_M_next
              · skip
                by_cases h144 : M < 144
                · skip
                  obtain rfl : M = 143 := by omega
                  exact k_M_isWord
                · skip
                  obtain rfl : M = 144 := by omega
                  exact k_M_need
            · skip
              by_cases h147 : M < 147
              · skip
                by_cases h146 : M < 146
                · skip
                  obtain rfl : M = 145 := by omega
                  exact k_M_put
                · skip
                  obtain rfl : M = 146 := by omega
                  exact k_M_isSign
              · skip
                by_cases h148 : M < 148
                · skip
                  obtain rfl : M = 147 := by omega
                  exact k_M_part
                · skip
                  obtain rfl : M = 148 := by omega
                  exact k_M_signHere
          · skip
            by_cases h153 : M < 153
            · skip
              by_cases h151 : M < 151
              · skip
                by_cases h150 : M < 150
                · skip
                  obtain rfl : M = 149 := by omega
                  exact k_M_term
                · skip
                  obtain rfl : M = 150 := by omega
                  exact k_M_sum
              · skip
                by_cases h152 : M < 152
                · skip
                  obtain rfl : M = 151 := by omega
                  exact k_M_test
                · skip
                  obtain rfl : M = 152 := by omega
                  exact k_M_both
            · skip
              by_cases h155 : M < 155
              · skip
                by_cases h154 : M < 154
                · skip
                  obtain rfl : M = 153 := by omega
                  exact k_M_either
                · skip
                  obtain rfl : M = 154 := by omega
                  exact k_M_text
              · skip
                by_cases h156 : M < 156
                · skip
                  obtain rfl : M = 155 := by omega
                  exact k_X_of
                · skip
                  by_cases h157 : M < 157
                  · skip
                    obtain rfl : M = 156 := by omega
                    exact k_M_of
                  · skip
                    obtain rfl : M = 157 := by omega
                    exact k_X_why
        · skip
          by_cases h167 : M < 167
          · skip
            by_cases h162 : M < 162
            · skip
              by_cases h160 : M < 160
              · skip
                by_cases h159 : M < 159
                · skip
                  obtain rfl : M = 158 := by omega
                  exact k_M_why
                · skip
                  obtain rfl : M = 159 := by omega
                  exact k_X_rules
              · skip
                by_cases h161 : M < 161
                · skip
                  obtain rfl : M = 160 := by omega
                  exact k_M_rules
                · skip
                  obtain rfl : M = 161 := by omega
                  exact k_X_fitsKind
            · skip
              by_cases h164 : M < 164
              · skip
                by_cases h163 : M < 163
                · skip
                  obtain rfl : M = 162 := by omega
                  exact k_X_paper
                · skip
                  obtain rfl : M = 163 := by omega
                  exact k_M_paper
              · skip
                by_cases h165 : M < 165
                · skip
                  obtain rfl : M = 164 := by omega
                  exact k_X_isUnder
                · skip
                  by_cases h166 : M < 166
                  · skip
                    obtain rfl : M = 165 := by omega
                    exact k_B_lastDayHeld
                  · skip
                    obtain rfl : M = 166 := by omega
                    exact k_X_paperTold
          · skip
            by_cases h171 : M < 171
            · skip
              by_cases h169 : M < 169
              · skip
                by_cases h168 : M < 168
                · skip
                  obtain rfl : M = 167 := by omega
                  exact k_M_paperTold
                · skip
                  obtain rfl : M = 168 := by omega
                  exact k_X_as
              · skip
                by_cases h170 : M < 170
                · skip
                  obtain rfl : M = 169 := by omega
                  exact k_M_above
                · skip
                  obtain rfl : M = 170 := by omega
                  exact k_M_as
            · skip
              by_cases h173 : M < 173
              · skip
                by_cases h172 : M < 172
                · skip
                  obtain rfl : M = 171 := by omega
                  exact k_X_member
                · skip
                  obtain rfl : M = 172 := by omega
                  exact k_M_member
              · skip
                by_cases h174 : M < 174
                · skip
                  obtain rfl : M = 173 := by omega
                  exact k_X_conflict
                · skip
                  by_cases h175 : M < 175
                  · skip
                    obtain rfl : M = 174 := by omega
                    exact k_M_conflict
                  · skip
                    obtain rfl : M = 175 := by omega
                    exact k_X_is
      · skip
        by_cases h193 : M < 193
        · skip
          by_cases h184 : M < 184
          · skip
            by_cases h180 : M < 180
            · skip
              by_cases h178 : M < 178
              · skip
                by_cases h177 : M < 177
                · skip
                  obtain rfl : M = 176 := by omega
                  exact k_M_is
                · skip
                  obtain rfl : M = 177 := by omega
                  exact k_B_membersFor
              · skip
                by_cases h179 : M < 179
                · skip
                  obtain rfl : M = 178 := by omega
                  exact k_B_boardFor
                · skip
                  obtain rfl : M = 179 := by omega
                  exact k_X_board
            · skip
              by_cases h182 : M < 182
              · skip
                by_cases h181 : M < 181
                · skip
                  obtain rfl : M = 180 := by omega
                  exact k_M_turns
                · skip
                  obtain rfl : M = 181 := by omega
                  exact k_M_has
              · skip
                by_cases h183 : M < 183
                · skip
                  obtain rfl : M = 182 := by omega
                  exact k_M_mayGo
                · skip
                  obtain rfl : M = 183 := by omega
                  exact k_M_boardFor
          · skip
            by_cases h188 : M < 188
            · skip
              by_cases h186 : M < 186
              · skip
                by_cases h185 : M < 185
                · skip
                  obtain rfl : M = 184 := by omega
                  exact k_M_board
                · skip
                  obtain rfl : M = 185 := by omega
                  exact k_X_hearing
              · skip
                by_cases h187 : M < 187
                · skip
                  obtain rfl : M = 186 := by omega
                  exact k_M_ofHearing
                · skip
                  obtain rfl : M = 187 := by omega
                  exact k_M_hearing
            · skip
              by_cases h190 : M < 190
              · skip
                by_cases h189 : M < 189
                · skip
                  obtain rfl : M = 188 := by omega
                  exact k_X_heard
                · skip
                  obtain rfl : M = 189 := by omega
                  exact k_M_heard
              · skip
                by_cases h191 : M < 191
                · skip
                  obtain rfl : M = 190 := by omega
                  exact k_B_hasReport
                · skip
                  by_cases h192 : M < 192
                  · skip
                    obtain rfl : M = 191 := by omega
                    exact k_B_hasNotice
                  · skip
                    obtain rfl : M = 192 := by omega
                    exact k_B_causeToday
        · skip
          by_cases h202 : M < 202
          · skip
            by_cases h197 : M < 197
            · skip
              by_cases h195 : M < 195
              · skip
                by_cases h194 : M < 194
                · skip
                  obtain rfl : M = 193 := by omega
                  exact k_X_cause
                · skip
                  obtain rfl : M = 194 := by omega
                  exact k_M_hasReport
              · skip
                by_cases h196 : M < 196
                · skip
                  obtain rfl : M = 195 := by omega
                  exact k_M_hasNotice
                · skip
                  obtain rfl : M = 196 := by omega
                  exact k_M_causeOf
            · skip
              by_cases h199 : M < 199
              · skip
                by_cases h198 : M < 198
                · skip
                  obtain rfl : M = 197 := by omega
                  exact k_M_cause
                · skip
                  obtain rfl : M = 198 := by omega
                  exact k_B_timesPutOffBy
              · skip
                by_cases h200 : M < 200
                · skip
                  obtain rfl : M = 199 := by omega
                  exact k_X_puts
                · skip
                  by_cases h201 : M < 201
                  · skip
                    obtain rfl : M = 200 := by omega
                    exact k_M_puts
                  · skip
                    obtain rfl : M = 201 := by omega
                    exact k_X_recall
          · skip
            by_cases h206 : M < 206
            · skip
              by_cases h204 : M < 204
              · skip
                by_cases h203 : M < 203
                · skip
                  obtain rfl : M = 202 := by omega
                  exact k_M_recall
                · skip
                  obtain rfl : M = 203 := by omega
                  exact k_B_canUnwind
              · skip
                by_cases h205 : M < 205
                · skip
                  obtain rfl : M = 204 := by omega
                  exact k_B_unwindRule
                · skip
                  obtain rfl : M = 205 := by omega
                  exact k_I_reopenSpan
            · skip
              by_cases h208 : M < 208
              · skip
                by_cases h207 : M < 207
                · skip
                  obtain rfl : M = 206 := by omega
                  exact k_B_undo
                · skip
                  obtain rfl : M = 207 := by omega
                  exact k_X_unwind
              · skip
                by_cases h209 : M < 209
                · skip
                  obtain rfl : M = 208 := by omega
                  exact k_M_unwind
                · skip
                  by_cases h210 : M < 210
                  · skip
                    obtain rfl : M = 209 := by omega
                    exact k_B_hearingsToday
                  · skip
                    obtain rfl : M = 210 := by omega
                    exact k_B_putOff
    · skip
      by_cases h246 : M < 246
      · skip
        by_cases h228 : M < 228
        · skip
          by_cases h219 : M < 219
          · skip
            by_cases h215 : M < 215
            · skip
              by_cases h213 : M < 213
              · skip
                by_cases h212 : M < 212
                · skip
                  obtain rfl : M = 211 := by omega
                  exact k_B_sift
                · skip
                  obtain rfl : M = 212 := by omega
                  exact k_B_casesOn
              · skip
                by_cases h214 : M < 214
                · skip
                  obtain rfl : M = 213 := by omega
                  exact k_B_putAllOff
                · skip
                  obtain rfl : M = 214 := by omega
                  exact k_B_addTurn
            · skip
              by_cases h217 : M < 217
              · skip
                by_cases h216 : M < 216
                · skip
                  obtain rfl : M = 215 := by omega
                  exact k_B_takeTurns
                · skip
                  obtain rfl : M = 216 := by omega
                  exact k_B_hearOne
              · skip
                by_cases h218 : M < 218
                · skip
                  obtain rfl : M = 217 := by omega
                  exact k_B_hearAll
                · skip
                  obtain rfl : M = 218 := by omega
                  exact k_B_voidLeft
          · skip
            by_cases h223 : M < 223
            · skip
              by_cases h221 : M < 221
              · skip
                by_cases h220 : M < 220
                · skip
                  obtain rfl : M = 219 := by omega
                  exact k_B_passDay
                · skip
                  obtain rfl : M = 220 := by omega
                  exact k_X_run
              · skip
                by_cases h222 : M < 222
                · skip
                  obtain rfl : M = 221 := by omega
                  exact k_M_isToday
                · skip
                  obtain rfl : M = 222 := by omega
                  exact k_M_putOff
            · skip
              by_cases h225 : M < 225
              · skip
                by_cases h224 : M < 224
                · skip
                  obtain rfl : M = 223 := by omega
                  exact k_M_hear
                · skip
                  obtain rfl : M = 224 := by omega
                  exact k_M_prisonGoes
              · skip
                by_cases h226 : M < 226
                · skip
                  obtain rfl : M = 225 := by omega
                  exact k_M_dayGoes
                · skip
                  by_cases h227 : M < 227
                  · skip
                    obtain rfl : M = 226 := by omega
                    exact k_M_run
                  · skip
                    obtain rfl : M = 227 := by omega
                    exact k_X_table
        · skip
          by_cases h237 : M < 237
          · skip
            by_cases h232 : M < 232
            · skip
              by_cases h230 : M < 230
              · skip
                by_cases h229 : M < 229
                · skip
                  obtain rfl : M = 228 := by omega
                  exact k_M_table
                · skip
                  obtain rfl : M = 229 := by omega
                  exact k_B_areLike
              · skip
                by_cases h231 : M < 231
                · skip
                  obtain rfl : M = 230 := by omega
                  exact k_B_hearingsOfLike
                · skip
                  obtain rfl : M = 231 := by omega
                  exact k_X_like
            · skip
              by_cases h234 : M < 234
              · skip
                by_cases h233 : M < 233
                · skip
                  obtain rfl : M = 232 := by omega
                  exact k_M_like
                · skip
                  obtain rfl : M = 233 := by omega
                  exact k_X_twice
              · skip
                by_cases h235 : M < 235
                · skip
                  obtain rfl : M = 234 := by omega
                  exact k_M_twice
                · skip
                  by_cases h236 : M < 236
                  · skip
                    obtain rfl : M = 235 := by omega
                    exact k_X_spread
                  · skip
                    obtain rfl : M = 236 := by omega
                    exact k_M_spread
          · skip
            by_cases h241 : M < 241
            · skip
              by_cases h239 : M < 239
              · skip
                by_cases h238 : M < 238
                · skip
                  obtain rfl : M = 237 := by omega
                  exact k_X_seed
                · skip
                  obtain rfl : M = 238 := by omega
                  exact k_M_seed
              · skip
                by_cases h240 : M < 240
                · skip
                  obtain rfl : M = 239 := by omega
                  exact k_B_drawOne
                · skip
                  obtain rfl : M = 240 := by omega
                  exact k_B_drawThree
            · skip
              by_cases h243 : M < 243
              · skip
                by_cases h242 : M < 242
                · skip
                  obtain rfl : M = 241 := by omega
                  exact k_X_draw
                · skip
                  obtain rfl : M = 242 := by omega
                  exact k_M_leftAt
              · skip
                by_cases h244 : M < 244
                · skip
                  obtain rfl : M = 243 := by omega
                  exact k_M_draw
                · skip
                  by_cases h245 : M < 245
                  · skip
                    obtain rfl : M = 244 := by omega
                    exact k_X_sheetAt
                  · skip
                    obtain rfl : M = 245 := by omega
                    exact k_JA_fill
      · skip
        by_cases h264 : M < 264
        · skip
          by_cases h255 : M < 255
          · skip
            by_cases h250 : M < 250
            · skip
              by_cases h248 : M < 248
              · skip
                by_cases h247 : M < 247
                · skip
                  obtain rfl : M = 246 := by omega
                  exact k_S_become
                · skip
                  obtain rfl : M = 247 := by omega
                  exact k_X_sheet
              · skip
                by_cases h249 : M < 249
                · skip
                  obtain rfl : M = 248 := by omega
                  exact k_M_isSheet
                · skip
                  obtain rfl : M = 249 := by omega
                  exact k_M_sheet
            · skip
              by_cases h252 : M < 252
              · skip
                by_cases h251 : M < 251
                · skip
                  obtain rfl : M = 250 := by omega
                  exact k_S_has
                · skip
                  obtain rfl : M = 251 := by omega
                  exact k_S_narrowed
              · skip
                by_cases h253 : M < 253
                · skip
                  obtain rfl : M = 252 := by omega
                  exact k_S_raise
                · skip
                  by_cases h254 : M < 254
                  · skip
                    obtain rfl : M = 253 := by omega
                    exact k_X_add
                  · skip
                    obtain rfl : M = 254 := by omega
                    exact k_M_add
          · skip
            by_cases h259 : M < 259
            · skip
              by_cases h257 : M < 257
              · skip
                by_cases h256 : M < 256
                · skip
                  obtain rfl : M = 255 := by omega
                  exact k_S_hasRow
                · skip
                  obtain rfl : M = 256 := by omega
                  exact k_X_copy
              · skip
                by_cases h258 : M < 258
                · skip
                  obtain rfl : M = 257 := by omega
                  exact k_M_copy
                · skip
                  obtain rfl : M = 258 := by omega
                  exact k_S_holds
            · skip
              by_cases h261 : M < 261
              · skip
                by_cases h260 : M < 260
                · skip
                  obtain rfl : M = 259 := by omega
                  exact k_X_same
                · skip
                  obtain rfl : M = 260 := by omega
                  exact k_M_same
              · skip
                by_cases h262 : M < 262
                · skip
                  obtain rfl : M = 261 := by omega
                  exact k_X_tell
                · skip
                  by_cases h263 : M < 263
                  · skip
                    obtain rfl : M = 262 := by omega
                    exact k_M_tell
                  · skip
                    obtain rfl : M = 263 := by omega
                    exact k_R_become
        · skip
          by_cases h273 : M < 273
          · skip
            by_cases h268 : M < 268
            · skip
              by_cases h266 : M < 266
              · skip
                by_cases h265 : M < 265
                · skip
                  obtain rfl : M = 264 := by omega
                  exact k_I_become
                · skip
                  obtain rfl : M = 265 := by omega
                  exact k_L_become
              · skip
                by_cases h267 : M < 267
                · skip
                  obtain rfl : M = 266 := by omega
                  exact k_B_become
                · skip
                  obtain rfl : M = 267 := by omega
                  exact k_B_servedByAll
            · skip
              by_cases h270 : M < 270
              · skip
                by_cases h269 : M < 269
                · skip
                  obtain rfl : M = 268 := by omega
                  exact k_X_waits
                · skip
                  obtain rfl : M = 269 := by omega
                  exact k_B_casesThatAre
              · skip
                by_cases h271 : M < 271
                · skip
                  obtain rfl : M = 270 := by omega
                  exact k_X_check
                · skip
                  by_cases h272 : M < 272
                  · skip
                    obtain rfl : M = 271 := by omega
                    exact k_M_servedAll
                  · skip
                    obtain rfl : M = 272 := by omega
                    exact k_M_casesIn
          · skip
            by_cases h277 : M < 277
            · skip
              by_cases h275 : M < 275
              · skip
                by_cases h274 : M < 274
                · skip
                  obtain rfl : M = 273 := by omega
                  exact k_M_check
                · skip
                  obtain rfl : M = 274 := by omega
                  exact k_X_keep
              · skip
                by_cases h276 : M < 276
                · skip
                  obtain rfl : M = 275 := by omega
                  exact k_M_keep
                · skip
                  obtain rfl : M = 276 := by omega
                  exact k_X_restore
            · skip
              by_cases h279 : M < 279
              · skip
                by_cases h278 : M < 278
                · skip
                  obtain rfl : M = 277 := by omega
                  exact k_M_restore
                · skip
                  obtain rfl : M = 278 := by omega
                  exact k_B_hearingsSet
              · skip
                by_cases h280 : M < 280
                · skip
                  obtain rfl : M = 279 := by omega
                  exact k_X_count
                · skip
                  by_cases h281 : M < 281
                  · skip
                    obtain rfl : M = 280 := by omega
                    exact k_M_count
                  · skip
                    obtain rfl : M = 281 := by omega
                    exact k_W_law
