/-! The tables of this program, printed by wip/whole/gen/g02.py: classes and their fields, methods, pool entries, the shapes of the cells in the order in which they are made -/
def T_X : u_T := fun k => match k with
  | 0 => ("ScaffoldReasons", "site", "LScaffoldReasons$Site;", true)
  | 1 => ("ScaffoldReasons", "kept", "LScaffoldReasons$Site;", true)
  | 2 => ("ScaffoldReasons", "scripts", "[LScaffoldReasons$Script;", true)
  | 3 => ("ScaffoldReasons", "tape", "LScaffoldReasons$Tape;", true)
  | 4 => ("ScaffoldReasons", "reader", "LScaffoldReasons$Reader;", true)
  | 5 => ("ScaffoldReasons", "scale", "LScaffoldReasons$Scale;", true)
  | 6 => ("ScaffoldReasons", "disputes", "LScaffoldReasons$Disputes;", true)
  | 7 => ("ScaffoldReasons", "ahead", "LScaffoldReasons$Moment;", true)
  | _ => ("ScaffoldReasons", "hasRead", "Z", false)
def t_X : Nat → FieldType := fun k => match k with
  | 0 => (.object "ScaffoldReasons$Site")
  | 1 => (.object "ScaffoldReasons$Site")
  | 2 => (.array (.object "ScaffoldReasons$Script"))
  | 3 => (.object "ScaffoldReasons$Tape")
  | 4 => (.object "ScaffoldReasons$Reader")
  | 5 => (.object "ScaffoldReasons$Scale")
  | 6 => (.object "ScaffoldReasons$Disputes")
  | 7 => (.object "ScaffoldReasons$Moment")
  | _ => .boolean
def T_Site : u_T := fun k => match k with
  | 0 => ("ScaffoldReasons$Site", "plankCount", "I", false)
  | 1 => ("ScaffoldReasons$Site", "weights", "[I", true)
  | 2 => ("ScaffoldReasons$Site", "rests", "[I", true)
  | 3 => ("ScaffoldReasons$Site", "now", "LScaffoldReasons$Moment;", true)
  | 4 => ("ScaffoldReasons$Site", "steps", "[LScaffoldReasons$Moment;", true)
  | 5 => ("ScaffoldReasons$Site", "firstStep", "I", false)
  | 6 => ("ScaffoldReasons$Site", "stepCount", "I", false)
  | 7 => ("ScaffoldReasons$Site", "textCount", "I", false)
  | 8 => ("ScaffoldReasons$Site", "ruling", "I", false)
  | 9 => ("ScaffoldReasons$Site", "votes", "[I", true)
  | 10 => ("ScaffoldReasons$Site", "voteCount", "I", false)
  | 11 => ("ScaffoldReasons$Site", "saidPlanks", "[I", true)
  | 12 => ("ScaffoldReasons$Site", "saidFalls", "[I", true)
  | _ => ("ScaffoldReasons$Site", "saidCount", "I", false)
def t_Site : Nat → FieldType := fun k => match k with
  | 0 => .int
  | 1 => (.array .int)
  | 2 => (.array .int)
  | 3 => (.object "ScaffoldReasons$Moment")
  | 4 => (.array (.object "ScaffoldReasons$Moment"))
  | 5 => .int
  | 6 => .int
  | 7 => .int
  | 8 => .int
  | 9 => (.array .int)
  | 10 => .int
  | 11 => (.array .int)
  | 12 => (.array .int)
  | _ => .int
def T_Mom : u_T := fun k => match k with
  | 0 => ("ScaffoldReasons$Moment", "up", "I", false)
  | 1 => ("ScaffoldReasons$Moment", "conceded", "I", false)
  | 2 => ("ScaffoldReasons$Moment", "objections", "J", false)
  | 3 => ("ScaffoldReasons$Moment", "wind", "I", false)
  | 4 => ("ScaffoldReasons$Moment", "hour", "I", false)
  | 5 => ("ScaffoldReasons$Moment", "x", "I", false)
  | 6 => ("ScaffoldReasons$Moment", "lines", "[I", true)
  | _ => ("ScaffoldReasons$Moment", "lineCount", "I", false)
def t_Mom : Nat → FieldType := fun k => match k with
  | 0 => .int
  | 1 => .int
  | 2 => .long
  | 3 => .int
  | 4 => .int
  | 5 => .int
  | 6 => (.array .int)
  | _ => .int
def T_Tape : u_T := fun k => match k with
  | 0 => ("ScaffoldReasons$Tape", "bytes", "[B", true)
  | 1 => ("ScaffoldReasons$Tape", "length", "I", false)
  | 2 => ("ScaffoldReasons$Tape", "kinds", "[I", true)
  | 3 => ("ScaffoldReasons$Tape", "values", "[I", true)
  | 4 => ("ScaffoldReasons$Tape", "places", "[I", true)
  | _ => ("ScaffoldReasons$Tape", "tokenCount", "I", false)
def t_Tape : Nat → FieldType := fun k => match k with
  | 0 => (.array .byte)
  | 1 => .int
  | 2 => (.array .int)
  | 3 => (.array .int)
  | 4 => (.array .int)
  | _ => .int
def T_Rd : u_T := fun k => match k with
  | 0 => ("ScaffoldReasons$Reader", "faultKind", "I", false)
  | 1 => ("ScaffoldReasons$Reader", "faultPlace", "I", false)
  | 2 => ("ScaffoldReasons$Reader", "tape", "LScaffoldReasons$Tape;", false)
  | 3 => ("ScaffoldReasons$Reader", "script", "LScaffoldReasons$Script;", false)
  | 4 => ("ScaffoldReasons$Reader", "token", "I", false)
  | _ => ("ScaffoldReasons$Reader", "law", "I", false)
def t_Rd : Nat → FieldType := fun k => match k with
  | 0 => .int
  | 1 => .int
  | 2 => (.object "ScaffoldReasons$Tape")
  | 3 => (.object "ScaffoldReasons$Script")
  | 4 => .int
  | _ => .int
def T_Sc : u_T := fun k => match k with
  | 0 => ("ScaffoldReasons$Scale", "stack", "[I", true)
  | 1 => ("ScaffoldReasons$Scale", "stacked", "I", false)
  | 2 => ("ScaffoldReasons$Scale", "site", "LScaffoldReasons$Site;", false)
  | 3 => ("ScaffoldReasons$Scale", "moment", "LScaffoldReasons$Moment;", false)
  | _ => ("ScaffoldReasons$Scale", "plank", "I", false)
def t_Sc : Nat → FieldType := fun k => match k with
  | 0 => (.array .int)
  | 1 => .int
  | 2 => (.object "ScaffoldReasons$Site")
  | 3 => (.object "ScaffoldReasons$Moment")
  | _ => .int
def T_Dis : u_T := fun k => match k with
  | 0 => ("ScaffoldReasons$Disputes", "found", "[I", true)
  | 1 => ("ScaffoldReasons$Disputes", "foundCount", "I", false)
  | 2 => ("ScaffoldReasons$Disputes", "holding", "[Z", true)
  | _ => ("ScaffoldReasons$Disputes", "ways", "[J", true)
def t_Dis : Nat → FieldType := fun k => match k with
  | 0 => (.array .int)
  | 1 => .int
  | 2 => (.array .boolean)
  | _ => (.array .long)
def T_Scr : u_T := fun k => match k with
  | 0 => ("ScaffoldReasons$Script", "code", "[I", true)
  | 1 => ("ScaffoldReasons$Script", "codeCount", "I", false)
  | 2 => ("ScaffoldReasons$Script", "lawFrom", "[I", true)
  | 3 => ("ScaffoldReasons$Script", "lawTo", "[I", true)
  | 4 => ("ScaffoldReasons$Script", "clauses", "[I", true)
  | _ => ("ScaffoldReasons$Script", "clauseCount", "I", false)
def t_Scr : Nat → FieldType := fun k => match k with
  | 0 => (.array .int)
  | 1 => .int
  | 2 => (.array .int)
  | 3 => (.array .int)
  | 4 => (.array .int)
  | _ => .int
def T_M : u_T := fun k => match k with
  | 0 => ("ScaffoldReasonsModel", "a", "[I", true)
  | 1 => ("ScaffoldReasonsModel", "image", "[I", true)
  | 2 => ("ScaffoldReasonsModel", "texts", "[I", true)
  | 3 => ("ScaffoldReasonsModel", "tape", "[I", true)
  | 4 => ("ScaffoldReasonsModel", "taped", "I", false)
  | 5 => ("ScaffoldReasonsModel", "fault", "I", false)
  | 6 => ("ScaffoldReasonsModel", "faultPlace", "I", false)
  | 7 => ("ScaffoldReasonsModel", "at", "I", false)
  | 8 => ("ScaffoldReasonsModel", "place", "I", false)
  | 9 => ("ScaffoldReasonsModel", "token", "I", false)
  | 10 => ("ScaffoldReasonsModel", "number", "I", false)
  | 11 => ("ScaffoldReasonsModel", "word", "J", false)
  | 12 => ("ScaffoldReasonsModel", "text0", "I", false)
  | 13 => ("ScaffoldReasonsModel", "written", "I", false)
  | 14 => ("ScaffoldReasonsModel", "sort0", "I", false)
  | 15 => ("ScaffoldReasonsModel", "pile", "[I", true)
  | 16 => ("ScaffoldReasonsModel", "piled", "I", false)
  | 17 => ("ScaffoldReasonsModel", "opens", "I", false)
  | 18 => ("ScaffoldReasonsModel", "isWhole", "Z", false)
  | 19 => ("ScaffoldReasonsModel", "once", "I", false)
  | 20 => ("ScaffoldReasonsModel", "named", "[I", true)
  | 21 => ("ScaffoldReasonsModel", "values", "[J", true)
  | 22 => ("ScaffoldReasonsModel", "truth", "[Z", true)
  | 23 => ("ScaffoldReasonsModel", "rounds", "[I", true)
  | 24 => ("ScaffoldReasonsModel", "isWritten", "Z", false)
  | 25 => ("ScaffoldReasonsModel", "fell", "I", false)
  | 26 => ("ScaffoldReasonsModel", "aside", "[I", true)
  | 27 => ("ScaffoldReasonsModel", "sets", "[I", true)
  | 28 => ("ScaffoldReasonsModel", "drops", "[I", true)
  | 29 => ("ScaffoldReasonsModel", "ways", "[J", true)
  | _ => ("ScaffoldReasonsModel", "highs", "[I", true)
def t_M : Nat → FieldType := fun k => match k with
  | 0 => (.array .int)
  | 1 => (.array .int)
  | 2 => (.array .int)
  | 3 => (.array .int)
  | 4 => .int
  | 5 => .int
  | 6 => .int
  | 7 => .int
  | 8 => .int
  | 9 => .int
  | 10 => .int
  | 11 => .long
  | 12 => .int
  | 13 => .int
  | 14 => .int
  | 15 => (.array .int)
  | 16 => .int
  | 17 => .int
  | 18 => .boolean
  | 19 => .int
  | 20 => (.array .int)
  | 21 => (.array .long)
  | 22 => (.array .boolean)
  | 23 => (.array .int)
  | 24 => .boolean
  | 25 => .int
  | 26 => (.array .int)
  | 27 => (.array .int)
  | 28 => (.array .int)
  | 29 => (.array .long)
  | _ => (.array .int)
def clsl : List vw_C := [("ScaffoldReasons", T_X, 9), ("ScaffoldReasons$Site", T_Site, 14), ("ScaffoldReasons$Moment", T_Mom, 8), ("ScaffoldReasons$Tape", T_Tape, 6), ("ScaffoldReasons$Reader", T_Rd, 6), ("ScaffoldReasons$Scale", T_Sc, 5), ("ScaffoldReasons$Disputes", T_Dis, 4), ("ScaffoldReasons$Script", T_Scr, 6), ("ScaffoldReasonsModel", T_M, 31)]
def tyl : List (Nat → FieldType) := [t_X, t_Site, t_Mom, t_Tape, t_Rd, t_Sc, t_Dis, t_Scr, t_M]
def ownl : List String := ["ScaffoldReasons", "ScaffoldReasons$Site", "ScaffoldReasons$Moment", "ScaffoldReasons$Tape", "ScaffoldReasons$Reader", "ScaffoldReasons$Scale", "ScaffoldReasons$Disputes", "ScaffoldReasons$Script", "ScaffoldReasonsModel", "ScaffoldReasons$Ballots", "ScaffoldReasons$Frame", "ScaffoldReasonsLaw", "java/lang/String", "java/lang/StringLatin1", "java/lang/Math", "java/lang/Integer", "java/util/Arrays"]
/-- a class by its number -/
def oS (i : Nat) : String := ownl.getD i ""
def m_X_init : Nat := 0
def m_Site_init : Nat := 1
def m_Mom_init : Nat := 2
def m_Tape_init : Nat := 3
def m_Rd_init : Nat := 4
def m_Sc_init : Nat := 5
def m_Dis_init : Nat := 6
def m_Scr_init : Nat := 7
def m_X_plank : Nat := 8
def m_Site_tellPlank : Nat := 9
def m_Site_areBits : Nat := 10
def m_Site_told : Nat := 11
def m_X_feed : Nat := 12
def m_Tape_addFour : Nat := 13
def m_X_end : Nat := 14
def m_X_text : Nat := 15
def m_Tape_cut : Nat := 16
def m_Tape_signAt : Nat := 17
def m_Tape_isLetter : Nat := 18
def m_Tape_cutWord : Nat := 19
def m_Tape_wordKind : Nat := 20
def m_Str_length : Nat := 21
def m_Str_coder : Nat := 22
def m_Str_charAt : Nat := 23
def m_Str_isLatin1 : Nat := 24
def m_StrL_charAt : Nat := 25
def m_Tape_addToken : Nat := 26
def m_Tape_isDigit : Nat := 27
def m_Tape_cutNumber : Nat := 28
def m_Tape_cutSign : Nat := 29
def m_Str_indexOf_I : Nat := 30
def m_Str_indexOf_II : Nat := 31
def m_StrL_indexOf : Nat := 32
def m_StrL_canEncode : Nat := 33
def m_StrL_indexOfChar : Nat := 34
def m_Rd_readInto : Nat := 35
def m_Scr_clear : Nat := 36
def m_Arr_fill : Nat := 37
def m_Rd_kind : Nat := 38
def m_Tape_kindAt : Nat := 39
def m_Rd_readClause : Nat := 40
def m_Rd_refuse : Nat := 41
def m_Tape_placeAt : Nat := 42
def m_Scr_hasLaw : Nat := 43
def m_Rd_readLaw : Nat := 44
def m_Scr_codeLength : Nat := 45
def m_Rd_readSum : Nat := 46
def m_Rd_readProduct : Nat := 47
def m_Rd_readOne : Nat := 48
def m_Tape_valueAt : Nat := 49
def m_Scr_addCode : Nat := 50
def m_Rd_readNumber : Nat := 51
def m_Rd_readName : Nat := 52
def m_Rd_accept : Nat := 53
def m_Rd_emit : Nat := 54
def m_Rd_readChoice : Nat := 55
def m_Rd_readEither : Nat := 56
def m_Rd_readBoth : Nat := 57
def m_Rd_readAsk : Nat := 58
def m_Rd_compares : Nat := 59
def m_Scr_aimHere : Nat := 60
def m_Scr_setLaw : Nat := 61
def m_Scr_addClause : Nat := 62
def m_Rd_readMove : Nat := 63
def m_Rd_leastOf : Nat := 64
def m_Rd_mostOf : Nat := 65
def m_Rd_wordBetween : Nat := 66
def m_X_fault : Nat := 67
def m_X_by : Nat := 68
def m_X_scriptOf : Nat := 69
def m_X_put : Nat := 70
def m_X_puttingUp : Nat := 71
def m_Site_isPlank : Nat := 72
def m_X_isGap : Nat := 73
def m_Mom_standing : Nat := 74
def m_X_hasBit : Nat := 75
def m_X_ruling : Nat := 76
def m_Sc_putsOf : Nat := 77
def m_Sc_weigh : Nat := 78
def m_Scr_startOf : Nat := 79
def m_Scr_stopOf : Nat := 80
def m_Scr_kindAt : Nat := 81
def m_Scr_valueAt : Nat := 82
def m_Sc_push : Nat := 83
def m_Sc_named : Nat := 84
def m_Sc_weightOf : Nat := 85
def m_Int_bitCount : Nat := 86
def m_Dis_attackers : Nat := 87
def m_Frm_restingOn : Nat := 88
def m_Sc_pop : Nat := 89
def m_Sc_performOnOne : Nat := 90
def m_Sc_performOnTwo : Nat := 91
def m_Sc_reckoned : Nat := 92
def m_Sc_within : Nat := 93
def m_Sc_compared : Nat := 94
def m_Site_keepStep : Nat := 95
def m_Site_copyStep : Nat := 96
def m_Mom_copyFrom : Nat := 97
def m_Mom_write : Nat := 98
def m_X_take : Nat := 99
def m_X_takingDown : Nat := 100
def m_X_concede : Nat := 101
def m_X_conceding : Nat := 102
def m_Dis_groundedBits : Nat := 103
def m_Dis_defended : Nat := 104
def m_Dis_targets : Nat := 105
def m_X_object : Nat := 106
def m_X_objecting : Nat := 107
def m_Dis_objects : Nat := 108
def m_Dis_objection : Nat := 109
def m_X_hour : Nat := 110
def m_X_passHour : Nat := 111
def m_Mom_draw : Nat := 112
def m_Mom_turnX : Nat := 113
def m_Sc_fallsOf : Nat := 114
def m_X_letFall : Nat := 115
def m_X_played : Nat := 116
def m_Scr_kindOf : Nat := 117
def m_Scr_clauseAt : Nat := 118
def m_Scr_firstOf : Nat := 119
def m_X_playHours : Nat := 120
def m_X_playMove : Nat := 121
def m_Scr_secondOf : Nat := 122
def m_X_years : Nat := 123
def m_X_passYear : Nat := 124
def m_X_undo : Nat := 125
def m_Site_takeBack : Nat := 126
def m_X_of : Nat := 127
def m_X_howItIs : Nat := 128
def m_X_is : Nat := 129
def m_X_book : Nat := 130
def m_Mom_lineField : Nat := 131
def m_X_foretold : Nat := 132
def m_X_holds : Nat := 133
def m_Dis_isHolding : Nat := 134
def m_X_grounded : Nat := 135
def m_X_round : Nat := 136
def m_Dis_roundOf : Nat := 137
def m_X_stables : Nat := 138
def m_Dis_findStable : Nat := 139
def m_Dis_addFound : Nat := 140
def m_Dis_answer : Nat := 141
def m_X_preferred : Nat := 142
def m_Dis_findPreferred : Nat := 143
def m_Dis_isWithinHolding : Nat := 144
def m_X_naive : Nat := 145
def m_Dis_findNaive : Nat := 146
def m_Dis_isFree : Nat := 147
def m_Dis_canGrowFree : Nat := 148
def m_X_ring : Nat := 149
def m_Dis_ringOf : Nat := 150
def m_X_inSets : Nat := 151
def m_Dis_foundWith : Nat := 152
def m_X_repair : Nat := 153
def m_Dis_firstToDrop : Nat := 154
def m_X_asTens : Nat := 155
def m_X_heaviest : Nat := 156
def m_Frm_weightOf : Nat := 157
def m_X_explain : Nat := 158
def m_Dis_findExplaining : Nat := 159
def m_X_orders : Nat := 160
def m_Dis_countOrders : Nat := 161
def m_X_order : Nat := 162
def m_X_all : Nat := 163
def m_Frm_allUnder : Nat := 164
def m_Frm_directlyUnder : Nat := 165
def m_X_over : Nat := 166
def m_Frm_allOver : Nat := 167
def m_X_high : Nat := 168
def m_Frm_heightOf : Nat := 169
def m_X_least : Nat := 170
def m_X_stand : Nat := 171
def m_X_commonDivisor : Nat := 172
def m_X_vote : Nat := 173
def m_Bal_isOrder : Nat := 174
def m_Bal_optionAt : Nat := 175
def m_Bal_isOption : Nat := 176
def m_X_beats : Nat := 177
def m_Bal_margin : Nat := 178
def m_Bal_placeOf : Nat := 179
def m_X_agenda : Nat := 180
def m_Bal_leftBy : Nat := 181
def m_X_lead : Nat := 182
def m_X_winner : Nat := 183
def m_Bal_pairsWinner : Nat := 184
def m_Bal_isAhead : Nat := 185
def m_Bal_countsWinner : Nat := 186
def m_Bal_countOf : Nat := 187
def m_X_score : Nat := 188
def m_Bal_scoreOf : Nat := 189
def m_X_top : Nat := 190
def m_X_said : Nat := 191
def m_X_whose : Nat := 192
def m_X_saysAllSaid : Nat := 193
def m_X_gaps : Nat := 194
def m_X_unopposed : Nat := 195
def m_X_atOdds : Nat := 196
def m_X_loaded : Nat := 197
def m_X_ledger : Nat := 198
def m_Mom_linesOf : Nat := 199
def m_X_image : Nat := 200
def m_Site_copyFrom : Nat := 201
def m_X_back : Nat := 202
def m_X_about : Nat := 203
def m_M_init : Nat := 204
def m_M_copy : Nat := 205
def m_M_plank : Nat := 206
def m_M_isIn : Nat := 207
def m_M_arePlanks : Nat := 208
def m_M_everyone : Nat := 209
def m_M_feed : Nat := 210
def m_M_four : Nat := 211
def m_M_end : Nat := 212
def m_M_text : Nat := 213
def m_M_readText : Nat := 214
def m_M_nextToken : Nat := 215
def m_M_byteAt : Nat := 216
def m_M_isFigure : Nat := 217
def m_M_isLetterByte : Nat := 218
def m_M_isSign : Nat := 219
def m_M_clause : Nat := 220
def m_M_sortOf : Nat := 221
def m_M_w4 : Nat := 222
def m_M_w3 : Nat := 223
def m_M_w2 : Nat := 224
def m_M_isWord : Nat := 225
def m_M_w5 : Nat := 226
def m_M_isLong : Nat := 227
def m_M_w6 : Nat := 228
def m_M_has : Nat := 229
def m_M_body : Nat := 230
def m_M_pair : Nat := 231
def m_M_figure : Nat := 232
def m_M_lawClause : Nat := 233
def m_M_summed : Nat := 234
def m_M_behindOne : Nat := 235
def m_M_betweenOf : Nat := 236
def m_M_openNow : Nat := 237
def m_M_openAt : Nat := 238
def m_M_isCompared : Nat := 239
def m_M_rank : Nat := 240
def m_M_compareOf : Nat := 241
def m_M_settle : Nat := 242
def m_M_emit : Nat := 243
def m_M_partOf : Nat := 244
def m_M_endOne : Nat := 245
def m_M_beginOne : Nat := 246
def m_M_nameOf : Nat := 247
def m_M_isOf : Nat := 248
def m_M_opened : Nat := 249
def m_M_isAskAhead : Nat := 250
def m_M_fault : Nat := 251
def m_M_by : Nat := 252
def m_M_undo : Nat := 253
def m_M_put : Nat := 254
def m_M_canPut : Nat := 255
def m_M_isPlank : Nat := 256
def m_M_those : Nat := 257
def m_M_putsOf : Nat := 258
def m_M_name : Nat := 259
def m_M_bits : Nat := 260
def m_M_against : Nat := 261
def m_M_restingOn : Nat := 262
def m_M_says : Nat := 263
def m_M_summedUp : Nat := 264
def m_M_heavyOf : Nat := 265
def m_M_bitsOf : Nat := 266
def m_M_two : Nat := 267
def m_M_clip : Nat := 268
def m_M_isAsked : Nat := 269
def m_M_joined : Nat := 270
def m_M_cut : Nat := 271
def m_M_keep : Nat := 272
def m_M_become : Nat := 273
def m_M_write : Nat := 274
def m_M_take : Nat := 275
def m_M_canTake : Nat := 276
def m_M_concede : Nat := 277
def m_M_canConcede : Nat := 278
def m_M_layGrounded : Nat := 279
def m_M_objectedBy : Nat := 280
def m_M_object : Nat := 281
def m_M_hour : Nat := 282
def m_M_arePassed : Nat := 283
def m_M_pass : Nat := 284
def m_M_drawnBy : Nat := 285
def m_M_anew : Nat := 286
def m_M_fallsOf : Nat := 287
def m_M_fall : Nat := 288
def m_M_played : Nat := 289
def m_M_isPlayed : Nat := 290
def m_M_years : Nat := 291
def m_M_happens : Nat := 292
def m_M_of : Nat := 293
def m_M_is : Nat := 294
def m_M_book : Nat := 295
def m_M_entry : Nat := 296
def m_M_ledger : Nat := 297
def m_M_gaps : Nat := 298
def m_M_unopposed : Nat := 299
def m_M_atOdds : Nat := 300
def m_M_loaded : Nat := 301
def m_M_loadOf : Nat := 302
def m_M_foretold : Nat := 303
def m_M_holds : Nat := 304
def m_M_isHeld : Nat := 305
def m_M_isFree : Nat := 306
def m_M_grounded : Nat := 307
def m_M_round : Nat := 308
def m_M_stables : Nat := 309
def m_M_setOf : Nat := 310
def m_M_laySets : Nat := 311
def m_M_isSort : Nat := 312
def m_M_preferred : Nat := 313
def m_M_naive : Nat := 314
def m_M_ring : Nat := 315
def m_M_inSets : Nat := 316
def m_M_repair : Nat := 317
def m_M_isRepaired : Nat := 318
def m_M_change : Nat := 319
def m_M_isMade : Nat := 320
def m_M_heaviest : Nat := 321
def m_M_weightOf : Nat := 322
def m_M_explain : Nat := 323
def m_M_orders : Nat := 324
def m_M_isNext : Nat := 325
def m_M_order : Nat := 326
def m_M_all : Nat := 327
def m_M_underOf : Nat := 328
def m_M_over : Nat := 329
def m_M_high : Nat := 330
def m_M_least : Nat := 331
def m_M_stand : Nat := 332
def m_M_divisor : Nat := 333
def m_M_vote : Nat := 334
def m_M_isOrder : Nat := 335
def m_M_digitOf : Nat := 336
def m_M_beats : Nat := 337
def m_M_isOption : Nat := 338
def m_M_more : Nat := 339
def m_M_placeIn : Nat := 340
def m_M_agenda : Nat := 341
def m_M_leftBy : Nat := 342
def m_M_lead : Nat := 343
def m_M_winner : Nat := 344
def m_M_isWinner : Nat := 345
def m_M_pointsOf : Nat := 346
def m_M_score : Nat := 347
def m_M_top : Nat := 348
def m_M_areOver : Nat := 349
def m_M_said : Nat := 350
def m_M_whose : Nat := 351
def m_M_image : Nat := 352
def m_M_back : Nat := 353
def m_M_about : Nat := 354
def m_Law_law : Nat := 355
def mtl_0 : List (MethodName × ByteArray × Nat × Option FieldType × Nat) := [(⟨"ScaffoldReasons", "<init>", "()V"⟩, prog_1_method_1_code, 2, none, 0),
  (⟨"ScaffoldReasons$Site", "<init>", "()V"⟩, prog_9_method_1_code, 2, none, 1),
  (⟨"ScaffoldReasons$Moment", "<init>", "()V"⟩, prog_5_method_1_code, 1, none, 2),
  (⟨"ScaffoldReasons$Tape", "<init>", "()V"⟩, prog_10_method_1_code, 1, none, 3),
  (⟨"ScaffoldReasons$Reader", "<init>", "()V"⟩, prog_6_method_1_code, 1, none, 4),
  (⟨"ScaffoldReasons$Scale", "<init>", "()V"⟩, prog_7_method_1_code, 1, none, 5),
  (⟨"ScaffoldReasons$Disputes", "<init>", "()V"⟩, prog_3_method_1_code, 1, none, 6),
  (⟨"ScaffoldReasons$Script", "<init>", "()V"⟩, prog_8_method_1_code, 1, none, 7),
  (⟨"ScaffoldReasons", "plank", "(II)I"⟩, prog_1_method_2_code, 3, some .int, 0),
  (⟨"ScaffoldReasons$Site", "tellPlank", "(II)I"⟩, prog_9_method_6_code, 3, some .int, 1),
  (⟨"ScaffoldReasons$Site", "areBits", "(I)Z"⟩, prog_9_method_5_code, 2, some .boolean, 1),
  (⟨"ScaffoldReasons$Site", "told", "()I"⟩, prog_9_method_4_code, 1, some .int, 1),
  (⟨"ScaffoldReasons", "feed", "(IIIII)I"⟩, prog_1_method_3_code, 6, some .int, 0),
  (⟨"ScaffoldReasons$Tape", "addFour", "(I)V"⟩, prog_10_method_2_code, 3, none, 3),
  (⟨"ScaffoldReasons", "end", "(I)I"⟩, prog_1_method_4_code, 2, some .int, 0),
  (⟨"ScaffoldReasons", "text", "()I"⟩, prog_1_method_5_code, 3, some .int, 0),
  (⟨"ScaffoldReasons$Tape", "cut", "()V"⟩, prog_10_method_6_code, 4, none, 3),
  (⟨"ScaffoldReasons$Tape", "signAt", "(I)I"⟩, prog_10_method_12_code, 2, some .int, 3),
  (⟨"ScaffoldReasons$Tape", "isLetter", "(I)Z"⟩, prog_10_method_13_code, 1, some .boolean, 3),
  (⟨"ScaffoldReasons$Tape", "cutWord", "(I)I"⟩, prog_10_method_7_code, 4, some .int, 3),
  (⟨"ScaffoldReasons$Tape", "wordKind", "(II)I"⟩, prog_10_method_10_code, 8, some .int, 3),
  (⟨"java/lang/String", "length", "()I"⟩, prog_16_method_54_code, 1, some .int, 12),
  (⟨"java/lang/String", "coder", "()B"⟩, prog_16_method_152_code, 1, some .byte, 12),
  (⟨"java/lang/String", "charAt", "(I)C"⟩, prog_16_method_56_code, 2, some .char, 12),
  (⟨"java/lang/String", "isLatin1", "()Z"⟩, prog_16_method_154_code, 1, some .boolean, 12),
  (⟨"java/lang/StringLatin1", "charAt", "([BI)C"⟩, prog_17_method_2_code, 2, some .char, 13),
  (⟨"ScaffoldReasons$Tape", "addToken", "(III)V"⟩, prog_10_method_11_code, 4, none, 3),
  (⟨"ScaffoldReasons$Tape", "isDigit", "(I)Z"⟩, prog_10_method_14_code, 1, some .boolean, 3),
  (⟨"ScaffoldReasons$Tape", "cutNumber", "(I)I"⟩, prog_10_method_8_code, 5, some .int, 3),
  (⟨"ScaffoldReasons$Tape", "cutSign", "(II)I"⟩, prog_10_method_9_code, 5, some .int, 3),
  (⟨"java/lang/String", "indexOf", "(I)I"⟩, prog_16_method_79_code, 2, some .int, 12),
  (⟨"java/lang/String", "indexOf", "(II)I"⟩, prog_16_method_80_code, 3, some .int, 12),
  (⟨"java/lang/StringLatin1", "indexOf", "([BIII)I"⟩, prog_17_method_22_code, 4, some .int, 13),
  (⟨"java/lang/StringLatin1", "canEncode", "(I)Z"⟩, prog_17_method_4_code, 1, some .boolean, 13),
  (⟨"java/lang/StringLatin1", "indexOfChar", "([BIII)I"⟩, prog_17_method_23_code, 6, some .int, 13),
  (⟨"ScaffoldReasons$Reader", "readInto", "(LScaffoldReasons$Script;LScaffoldReasons$Tape;)Z"⟩, prog_6_method_2_code, 5, some .boolean, 4),
  (⟨"ScaffoldReasons$Script", "clear", "()V"⟩, prog_8_method_2_code, 1, none, 7),
  (⟨"java/util/Arrays", "fill", "([II)V"⟩, prog_20_method_103_code, 4, none, 16),
  (⟨"ScaffoldReasons$Reader", "kind", "()I"⟩, prog_6_method_19_code, 1, some .int, 4),
  (⟨"ScaffoldReasons$Tape", "kindAt", "(I)I"⟩, prog_10_method_3_code, 2, some .int, 3)]
def mtl_1 : List (MethodName × ByteArray × Nat × Option FieldType × Nat) := [(⟨"ScaffoldReasons$Reader", "readClause", "()Z"⟩, prog_6_method_3_code, 3, some .boolean, 4),
  (⟨"ScaffoldReasons$Reader", "refuse", "(I)Z"⟩, prog_6_method_22_code, 2, some .boolean, 4),
  (⟨"ScaffoldReasons$Tape", "placeAt", "(I)I"⟩, prog_10_method_5_code, 2, some .int, 3),
  (⟨"ScaffoldReasons$Script", "hasLaw", "(I)Z"⟩, prog_8_method_7_code, 2, some .boolean, 7),
  (⟨"ScaffoldReasons$Reader", "readLaw", "(I)Z"⟩, prog_6_method_4_code, 3, some .boolean, 4),
  (⟨"ScaffoldReasons$Script", "codeLength", "()I"⟩, prog_8_method_11_code, 1, some .int, 7),
  (⟨"ScaffoldReasons$Reader", "readSum", "(I)Z"⟩, prog_6_method_10_code, 4, some .boolean, 4),
  (⟨"ScaffoldReasons$Reader", "readProduct", "(I)Z"⟩, prog_6_method_11_code, 4, some .boolean, 4),
  (⟨"ScaffoldReasons$Reader", "readOne", "(I)Z"⟩, prog_6_method_12_code, 3, some .boolean, 4),
  (⟨"ScaffoldReasons$Tape", "valueAt", "(I)I"⟩, prog_10_method_4_code, 2, some .int, 3),
  (⟨"ScaffoldReasons$Script", "addCode", "(II)V"⟩, prog_8_method_14_code, 3, none, 7),
  (⟨"ScaffoldReasons$Reader", "readNumber", "(III)Z"⟩, prog_6_method_9_code, 5, some .boolean, 4),
  (⟨"ScaffoldReasons$Reader", "readName", "(I)Z"⟩, prog_6_method_13_code, 2, some .boolean, 4),
  (⟨"ScaffoldReasons$Reader", "accept", "(I)Z"⟩, prog_6_method_20_code, 2, some .boolean, 4),
  (⟨"ScaffoldReasons$Reader", "emit", "(I)Z"⟩, prog_6_method_21_code, 2, some .boolean, 4),
  (⟨"ScaffoldReasons$Reader", "readChoice", "(I)Z"⟩, prog_6_method_14_code, 4, some .boolean, 4),
  (⟨"ScaffoldReasons$Reader", "readEither", "(I)Z"⟩, prog_6_method_15_code, 3, some .boolean, 4),
  (⟨"ScaffoldReasons$Reader", "readBoth", "(I)Z"⟩, prog_6_method_16_code, 3, some .boolean, 4),
  (⟨"ScaffoldReasons$Reader", "readAsk", "(I)Z"⟩, prog_6_method_17_code, 3, some .boolean, 4),
  (⟨"ScaffoldReasons$Reader", "compares", "(I)Z"⟩, prog_6_method_18_code, 1, some .boolean, 4),
  (⟨"ScaffoldReasons$Script", "aimHere", "(I)V"⟩, prog_8_method_15_code, 2, none, 7),
  (⟨"ScaffoldReasons$Script", "setLaw", "(II)V"⟩, prog_8_method_10_code, 3, none, 7),
  (⟨"ScaffoldReasons$Script", "addClause", "(III)V"⟩, prog_8_method_3_code, 4, none, 7),
  (⟨"ScaffoldReasons$Reader", "readMove", "(I)Z"⟩, prog_6_method_5_code, 5, some .boolean, 4),
  (⟨"ScaffoldReasons$Reader", "leastOf", "(I)I"⟩, prog_6_method_6_code, 1, some .int, 4),
  (⟨"ScaffoldReasons$Reader", "mostOf", "(I)I"⟩, prog_6_method_7_code, 1, some .int, 4),
  (⟨"ScaffoldReasons$Reader", "wordBetween", "(I)I"⟩, prog_6_method_8_code, 1, some .int, 4),
  (⟨"ScaffoldReasons", "fault", "(I)I"⟩, prog_1_method_6_code, 2, some .int, 0),
  (⟨"ScaffoldReasons", "by", "(I)Z"⟩, prog_1_method_7_code, 2, some .boolean, 0),
  (⟨"ScaffoldReasons", "scriptOf", "(I)LScaffoldReasons$Script;"⟩, prog_1_method_55_code, 2, some (Jvm.ClassFile.FieldType.object "ScaffoldReasons$Script"), 0),
  (⟨"ScaffoldReasons", "put", "(I)Z"⟩, prog_1_method_8_code, 2, some .boolean, 0),
  (⟨"ScaffoldReasons", "puttingUp", "(IZ)Z"⟩, prog_1_method_59_code, 3, some .boolean, 0),
  (⟨"ScaffoldReasons$Site", "isPlank", "(I)Z"⟩, prog_9_method_3_code, 2, some .boolean, 1),
  (⟨"ScaffoldReasons", "isGap", "(I)Z"⟩, prog_1_method_58_code, 3, some .boolean, 0),
  (⟨"ScaffoldReasons$Moment", "standing", "()I"⟩, prog_5_method_3_code, 1, some .int, 2),
  (⟨"ScaffoldReasons", "hasBit", "(II)Z"⟩, prog_1_method_69_code, 2, some .boolean, 0),
  (⟨"ScaffoldReasons", "ruling", "()LScaffoldReasons$Script;"⟩, prog_1_method_56_code, 1, some (Jvm.ClassFile.FieldType.object "ScaffoldReasons$Script"), 0),
  (⟨"ScaffoldReasons$Scale", "putsOf", "(LScaffoldReasons$Script;LScaffoldReasons$Site;LScaffoldReasons$Moment;I)I"⟩, prog_7_method_2_code, 5, some .int, 5),
  (⟨"ScaffoldReasons$Scale", "weigh", "(LScaffoldReasons$Script;ILScaffoldReasons$Site;LScaffoldReasons$Moment;I)I"⟩, prog_7_method_4_code, 11, some .int, 5),
  (⟨"ScaffoldReasons$Script", "startOf", "(I)I"⟩, prog_8_method_8_code, 2, some .int, 7)]
def mtl_2 : List (MethodName × ByteArray × Nat × Option FieldType × Nat) := [(⟨"ScaffoldReasons$Script", "stopOf", "(I)I"⟩, prog_8_method_9_code, 2, some .int, 7),
  (⟨"ScaffoldReasons$Script", "kindAt", "(I)I"⟩, prog_8_method_12_code, 2, some .int, 7),
  (⟨"ScaffoldReasons$Script", "valueAt", "(I)I"⟩, prog_8_method_13_code, 2, some .int, 7),
  (⟨"ScaffoldReasons$Scale", "push", "(I)V"⟩, prog_7_method_12_code, 2, none, 5),
  (⟨"ScaffoldReasons$Scale", "named", "(I)I"⟩, prog_7_method_7_code, 2, some .int, 5),
  (⟨"ScaffoldReasons$Scale", "weightOf", "(LScaffoldReasons$Site;I)I"⟩, prog_7_method_11_code, 2, some .int, 5),
  (⟨"java/lang/Integer", "bitCount", "(I)I"⟩, prog_14_method_49_code, 1, some .int, 15),
  (⟨"ScaffoldReasons$Disputes", "attackers", "(JI)I"⟩, prog_3_method_5_code, 5, some .int, 6),
  (⟨"ScaffoldReasons$Frame", "restingOn", "(LScaffoldReasons$Site;I)I"⟩, prog_4_method_2_code, 4, some .int, 10),
  (⟨"ScaffoldReasons$Scale", "pop", "()I"⟩, prog_7_method_13_code, 1, some .int, 5),
  (⟨"ScaffoldReasons$Scale", "performOnOne", "(I)V"⟩, prog_7_method_5_code, 3, none, 5),
  (⟨"ScaffoldReasons$Scale", "performOnTwo", "(I)V"⟩, prog_7_method_6_code, 4, none, 5),
  (⟨"ScaffoldReasons$Scale", "reckoned", "(IJJ)J"⟩, prog_7_method_8_code, 5, some .long, 5),
  (⟨"ScaffoldReasons$Scale", "within", "(JII)I"⟩, prog_7_method_10_code, 4, some .int, 5),
  (⟨"ScaffoldReasons$Scale", "compared", "(III)Z"⟩, prog_7_method_9_code, 3, some .boolean, 5),
  (⟨"ScaffoldReasons$Site", "keepStep", "()V"⟩, prog_9_method_7_code, 1, none, 1),
  (⟨"ScaffoldReasons$Site", "copyStep", "(ILScaffoldReasons$Moment;)V"⟩, prog_9_method_9_code, 4, none, 1),
  (⟨"ScaffoldReasons$Moment", "copyFrom", "(LScaffoldReasons$Moment;)V"⟩, prog_5_method_2_code, 2, none, 2),
  (⟨"ScaffoldReasons$Moment", "write", "(II)V"⟩, prog_5_method_6_code, 3, none, 2),
  (⟨"ScaffoldReasons", "take", "(I)Z"⟩, prog_1_method_9_code, 2, some .boolean, 0),
  (⟨"ScaffoldReasons", "takingDown", "(IZ)Z"⟩, prog_1_method_60_code, 3, some .boolean, 0),
  (⟨"ScaffoldReasons", "concede", "(I)Z"⟩, prog_1_method_10_code, 2, some .boolean, 0),
  (⟨"ScaffoldReasons", "conceding", "(IZ)Z"⟩, prog_1_method_61_code, 3, some .boolean, 0),
  (⟨"ScaffoldReasons$Disputes", "groundedBits", "(JI)I"⟩, prog_3_method_9_code, 6, some .int, 6),
  (⟨"ScaffoldReasons$Disputes", "defended", "(JII)I"⟩, prog_3_method_8_code, 4, some .int, 6),
  (⟨"ScaffoldReasons$Disputes", "targets", "(JI)I"⟩, prog_3_method_4_code, 5, some .int, 6),
  (⟨"ScaffoldReasons", "object", "(IIZ)Z"⟩, prog_1_method_11_code, 4, some .boolean, 0),
  (⟨"ScaffoldReasons", "objecting", "(IIZZ)Z"⟩, prog_1_method_62_code, 5, some .boolean, 0),
  (⟨"ScaffoldReasons$Disputes", "objects", "(JII)Z"⟩, prog_3_method_3_code, 4, some .boolean, 6),
  (⟨"ScaffoldReasons$Disputes", "objection", "(II)J"⟩, prog_3_method_2_code, 2, some .long, 6),
  (⟨"ScaffoldReasons", "hour", "(I)I"⟩, prog_1_method_12_code, 4, some .int, 0),
  (⟨"ScaffoldReasons", "passHour", "(LScaffoldReasons$Moment;)I"⟩, prog_1_method_63_code, 4, some .int, 0),
  (⟨"ScaffoldReasons$Moment", "draw", "(I)I"⟩, prog_5_method_5_code, 3, some .int, 2),
  (⟨"ScaffoldReasons$Moment", "turnX", "()V"⟩, prog_5_method_4_code, 1, none, 2),
  (⟨"ScaffoldReasons$Scale", "fallsOf", "(LScaffoldReasons$Script;LScaffoldReasons$Site;LScaffoldReasons$Moment;I)I"⟩, prog_7_method_3_code, 5, some .int, 5),
  (⟨"ScaffoldReasons", "letFall", "(LScaffoldReasons$Moment;I)I"⟩, prog_1_method_64_code, 5, some .int, 0),
  (⟨"ScaffoldReasons", "played", "(I)I"⟩, prog_1_method_13_code, 5, some .int, 0),
  (⟨"ScaffoldReasons$Script", "kindOf", "(I)I"⟩, prog_8_method_4_code, 2, some .int, 7),
  (⟨"ScaffoldReasons$Script", "clauseAt", "(I)I"⟩, prog_8_method_16_code, 2, some .int, 7),
  (⟨"ScaffoldReasons$Script", "firstOf", "(I)I"⟩, prog_8_method_5_code, 2, some .int, 7)]
def mtl_3 : List (MethodName × ByteArray × Nat × Option FieldType × Nat) := [(⟨"ScaffoldReasons", "playHours", "(I)Z"⟩, prog_1_method_66_code, 3, some .boolean, 0),
  (⟨"ScaffoldReasons", "playMove", "(LScaffoldReasons$Script;I)Z"⟩, prog_1_method_65_code, 5, some .boolean, 0),
  (⟨"ScaffoldReasons$Script", "secondOf", "(I)I"⟩, prog_8_method_6_code, 2, some .int, 7),
  (⟨"ScaffoldReasons", "years", "(II)I"⟩, prog_1_method_14_code, 5, some .int, 0),
  (⟨"ScaffoldReasons", "passYear", "(I)V"⟩, prog_1_method_67_code, 6, none, 0),
  (⟨"ScaffoldReasons", "undo", "()I"⟩, prog_1_method_15_code, 1, some .int, 0),
  (⟨"ScaffoldReasons$Site", "takeBack", "()I"⟩, prog_9_method_8_code, 2, some .int, 1),
  (⟨"ScaffoldReasons", "of", "(II)I"⟩, prog_1_method_16_code, 3, some .int, 0),
  (⟨"ScaffoldReasons", "howItIs", "(I)I"⟩, prog_1_method_57_code, 2, some .int, 0),
  (⟨"ScaffoldReasons", "is", "(I)I"⟩, prog_1_method_17_code, 2, some .int, 0),
  (⟨"ScaffoldReasons", "book", "(II)I"⟩, prog_1_method_18_code, 3, some .int, 0),
  (⟨"ScaffoldReasons$Moment", "lineField", "(II)I"⟩, prog_5_method_7_code, 4, some .int, 2),
  (⟨"ScaffoldReasons", "foretold", "(I)I"⟩, prog_1_method_19_code, 3, some .int, 0),
  (⟨"ScaffoldReasons", "holds", "(I)Z"⟩, prog_1_method_20_code, 2, some .boolean, 0),
  (⟨"ScaffoldReasons$Disputes", "isHolding", "(JI)Z"⟩, prog_3_method_7_code, 4, some .boolean, 6),
  (⟨"ScaffoldReasons", "grounded", "()I"⟩, prog_1_method_21_code, 1, some .int, 0),
  (⟨"ScaffoldReasons", "round", "(I)I"⟩, prog_1_method_22_code, 2, some .int, 0),
  (⟨"ScaffoldReasons$Disputes", "roundOf", "(JII)I"⟩, prog_3_method_10_code, 6, some .int, 6),
  (⟨"ScaffoldReasons", "stables", "(I)I"⟩, prog_1_method_23_code, 2, some .int, 0),
  (⟨"ScaffoldReasons$Disputes", "findStable", "(JI)V"⟩, prog_3_method_15_code, 5, none, 6),
  (⟨"ScaffoldReasons$Disputes", "addFound", "(I)V"⟩, prog_3_method_21_code, 2, none, 6),
  (⟨"ScaffoldReasons$Disputes", "answer", "(I)I"⟩, prog_3_method_13_code, 2, some .int, 6),
  (⟨"ScaffoldReasons", "preferred", "(I)I"⟩, prog_1_method_24_code, 2, some .int, 0),
  (⟨"ScaffoldReasons$Disputes", "findPreferred", "(JI)V"⟩, prog_3_method_16_code, 5, none, 6),
  (⟨"ScaffoldReasons$Disputes", "isWithinHolding", "(II)Z"⟩, prog_3_method_17_code, 4, some .boolean, 6),
  (⟨"ScaffoldReasons", "naive", "(I)I"⟩, prog_1_method_25_code, 2, some .int, 0),
  (⟨"ScaffoldReasons$Disputes", "findNaive", "(JI)V"⟩, prog_3_method_18_code, 5, none, 6),
  (⟨"ScaffoldReasons$Disputes", "isFree", "(JI)Z"⟩, prog_3_method_6_code, 3, some .boolean, 6),
  (⟨"ScaffoldReasons$Disputes", "canGrowFree", "(JII)Z"⟩, prog_3_method_19_code, 5, some .boolean, 6),
  (⟨"ScaffoldReasons", "ring", "(I)I"⟩, prog_1_method_26_code, 2, some .int, 0),
  (⟨"ScaffoldReasons$Disputes", "ringOf", "(JI)I"⟩, prog_3_method_11_code, 5, some .int, 6),
  (⟨"ScaffoldReasons", "inSets", "(IZ)I"⟩, prog_1_method_27_code, 4, some .int, 0),
  (⟨"ScaffoldReasons$Disputes", "foundWith", "(I)I"⟩, prog_3_method_14_code, 4, some .int, 6),
  (⟨"ScaffoldReasons", "repair", "(IZ)I"⟩, prog_1_method_28_code, 5, some .int, 0),
  (⟨"ScaffoldReasons$Disputes", "firstToDrop", "(JIIII)I"⟩, prog_3_method_12_code, 9, some .int, 6),
  (⟨"ScaffoldReasons", "asTens", "(I)I"⟩, prog_1_method_70_code, 1, some .int, 0),
  (⟨"ScaffoldReasons", "heaviest", "(Z)I"⟩, prog_1_method_29_code, 6, some .int, 0),
  (⟨"ScaffoldReasons$Frame", "weightOf", "(LScaffoldReasons$Site;I)I"⟩, prog_4_method_7_code, 4, some .int, 10),
  (⟨"ScaffoldReasons", "explain", "(II)I"⟩, prog_1_method_30_code, 3, some .int, 0),
  (⟨"ScaffoldReasons$Disputes", "findExplaining", "(JII)V"⟩, prog_3_method_20_code, 7, none, 6)]
def mtl_4 : List (MethodName × ByteArray × Nat × Option FieldType × Nat) := [(⟨"ScaffoldReasons", "orders", "(I)J"⟩, prog_1_method_31_code, 2, some .long, 0),
  (⟨"ScaffoldReasons$Disputes", "countOrders", "([II)J"⟩, prog_3_method_22_code, 6, some .long, 6),
  (⟨"ScaffoldReasons", "order", "(II)I"⟩, prog_1_method_32_code, 5, some .int, 0),
  (⟨"ScaffoldReasons", "all", "(I)I"⟩, prog_1_method_33_code, 2, some .int, 0),
  (⟨"ScaffoldReasons$Frame", "allUnder", "(LScaffoldReasons$Site;I)I"⟩, prog_4_method_4_code, 5, some .int, 10),
  (⟨"ScaffoldReasons$Frame", "directlyUnder", "(LScaffoldReasons$Site;I)I"⟩, prog_4_method_3_code, 4, some .int, 10),
  (⟨"ScaffoldReasons", "over", "(I)I"⟩, prog_1_method_34_code, 2, some .int, 0),
  (⟨"ScaffoldReasons$Frame", "allOver", "(LScaffoldReasons$Site;I)I"⟩, prog_4_method_5_code, 4, some .int, 10),
  (⟨"ScaffoldReasons", "high", "(I)I"⟩, prog_1_method_35_code, 2, some .int, 0),
  (⟨"ScaffoldReasons$Frame", "heightOf", "(LScaffoldReasons$Site;I)I"⟩, prog_4_method_6_code, 5, some .int, 10),
  (⟨"ScaffoldReasons", "least", "(I)I"⟩, prog_1_method_36_code, 2, some .int, 0),
  (⟨"ScaffoldReasons", "stand", "(IZ)J"⟩, prog_1_method_37_code, 9, some .long, 0),
  (⟨"ScaffoldReasons", "commonDivisor", "(JJ)J"⟩, prog_1_method_71_code, 11, some .long, 0),
  (⟨"ScaffoldReasons", "vote", "(I)I"⟩, prog_1_method_38_code, 2, some .int, 0),
  (⟨"ScaffoldReasons$Ballots", "isOrder", "(I)Z"⟩, prog_2_method_3_code, 4, some .boolean, 9),
  (⟨"ScaffoldReasons$Ballots", "optionAt", "(II)I"⟩, prog_2_method_4_code, 2, some .int, 9),
  (⟨"ScaffoldReasons$Ballots", "isOption", "(I)Z"⟩, prog_2_method_2_code, 1, some .boolean, 9),
  (⟨"ScaffoldReasons", "beats", "(II)I"⟩, prog_1_method_39_code, 3, some .int, 0),
  (⟨"ScaffoldReasons$Ballots", "margin", "(LScaffoldReasons$Site;II)I"⟩, prog_2_method_6_code, 6, some .int, 9),
  (⟨"ScaffoldReasons$Ballots", "placeOf", "(II)I"⟩, prog_2_method_5_code, 3, some .int, 9),
  (⟨"ScaffoldReasons", "agenda", "(I)I"⟩, prog_1_method_40_code, 2, some .int, 0),
  (⟨"ScaffoldReasons$Ballots", "leftBy", "(LScaffoldReasons$Site;I)I"⟩, prog_2_method_7_code, 5, some .int, 9),
  (⟨"ScaffoldReasons", "lead", "(I)I"⟩, prog_1_method_41_code, 3, some .int, 0),
  (⟨"ScaffoldReasons", "winner", "(I)I"⟩, prog_1_method_42_code, 2, some .int, 0),
  (⟨"ScaffoldReasons$Ballots", "pairsWinner", "(LScaffoldReasons$Site;)I"⟩, prog_2_method_8_code, 2, some .int, 9),
  (⟨"ScaffoldReasons$Ballots", "isAhead", "(LScaffoldReasons$Site;I)Z"⟩, prog_2_method_12_code, 5, some .boolean, 9),
  (⟨"ScaffoldReasons$Ballots", "countsWinner", "(LScaffoldReasons$Site;Z)I"⟩, prog_2_method_9_code, 6, some .int, 9),
  (⟨"ScaffoldReasons$Ballots", "countOf", "(LScaffoldReasons$Site;IZ)I"⟩, prog_2_method_10_code, 6, some .int, 9),
  (⟨"ScaffoldReasons", "score", "(I)I"⟩, prog_1_method_43_code, 2, some .int, 0),
  (⟨"ScaffoldReasons$Ballots", "scoreOf", "(LScaffoldReasons$Site;I)I"⟩, prog_2_method_11_code, 5, some .int, 9),
  (⟨"ScaffoldReasons", "top", "()I"⟩, prog_1_method_44_code, 3, some .int, 0),
  (⟨"ScaffoldReasons", "said", "(II)I"⟩, prog_1_method_45_code, 3, some .int, 0),
  (⟨"ScaffoldReasons", "whose", "()I"⟩, prog_1_method_46_code, 3, some .int, 0),
  (⟨"ScaffoldReasons", "saysAllSaid", "(LScaffoldReasons$Script;)Z"⟩, prog_1_method_68_code, 3, some .boolean, 0),
  (⟨"ScaffoldReasons", "gaps", "()I"⟩, prog_1_method_47_code, 3, some .int, 0),
  (⟨"ScaffoldReasons", "unopposed", "()I"⟩, prog_1_method_48_code, 1, some .int, 0),
  (⟨"ScaffoldReasons", "atOdds", "()I"⟩, prog_1_method_49_code, 3, some .int, 0),
  (⟨"ScaffoldReasons", "loaded", "()I"⟩, prog_1_method_50_code, 5, some .int, 0),
  (⟨"ScaffoldReasons", "ledger", "(I)I"⟩, prog_1_method_51_code, 2, some .int, 0),
  (⟨"ScaffoldReasons$Moment", "linesOf", "(I)I"⟩, prog_5_method_8_code, 4, some .int, 2)]
def mtl_5 : List (MethodName × ByteArray × Nat × Option FieldType × Nat) := [(⟨"ScaffoldReasons", "image", "()I"⟩, prog_1_method_52_code, 1, some .int, 0),
  (⟨"ScaffoldReasons$Site", "copyFrom", "(LScaffoldReasons$Site;)V"⟩, prog_9_method_2_code, 3, none, 1),
  (⟨"ScaffoldReasons", "back", "()I"⟩, prog_1_method_53_code, 1, some .int, 0),
  (⟨"ScaffoldReasons", "about", "(I)I"⟩, prog_1_method_54_code, 2, some .int, 0),
  (⟨"ScaffoldReasonsModel", "<init>", "()V"⟩, prog_12_method_1_code, 1, none, 8),
  (⟨"ScaffoldReasonsModel", "copy", "([I[I)V"⟩, prog_12_method_2_code, 3, none, 8),
  (⟨"ScaffoldReasonsModel", "plank", "(II)I"⟩, prog_12_method_13_code, 3, some .int, 8),
  (⟨"ScaffoldReasonsModel", "isIn", "(III)Z"⟩, prog_12_method_3_code, 3, some .boolean, 8),
  (⟨"ScaffoldReasonsModel", "arePlanks", "(I)Z"⟩, prog_12_method_9_code, 2, some .boolean, 8),
  (⟨"ScaffoldReasonsModel", "everyone", "()I"⟩, prog_12_method_8_code, 1, some .int, 8),
  (⟨"ScaffoldReasonsModel", "feed", "(IIIII)I"⟩, prog_12_method_15_code, 6, some .int, 8),
  (⟨"ScaffoldReasonsModel", "four", "(I)V"⟩, prog_12_method_14_code, 3, none, 8),
  (⟨"ScaffoldReasonsModel", "end", "(I)I"⟩, prog_12_method_16_code, 2, some .int, 8),
  (⟨"ScaffoldReasonsModel", "text", "()I"⟩, prog_12_method_53_code, 1, some .int, 8),
  (⟨"ScaffoldReasonsModel", "readText", "()I"⟩, prog_12_method_52_code, 2, some .int, 8),
  (⟨"ScaffoldReasonsModel", "nextToken", "()V"⟩, prog_12_method_21_code, 2, none, 8),
  (⟨"ScaffoldReasonsModel", "byteAt", "(I)I"⟩, prog_12_method_17_code, 2, some .int, 8),
  (⟨"ScaffoldReasonsModel", "isFigure", "(I)Z"⟩, prog_12_method_19_code, 1, some .boolean, 8),
  (⟨"ScaffoldReasonsModel", "isLetterByte", "(I)Z"⟩, prog_12_method_18_code, 1, some .boolean, 8),
  (⟨"ScaffoldReasonsModel", "isSign", "(I)Z"⟩, prog_12_method_20_code, 1, some .boolean, 8),
  (⟨"ScaffoldReasonsModel", "clause", "()I"⟩, prog_12_method_51_code, 5, some .int, 8),
  (⟨"ScaffoldReasonsModel", "sortOf", "()I"⟩, prog_12_method_50_code, 1, some .int, 8),
  (⟨"ScaffoldReasonsModel", "w4", "(IIII)J"⟩, prog_12_method_24_code, 4, some .long, 8),
  (⟨"ScaffoldReasonsModel", "w3", "(III)J"⟩, prog_12_method_23_code, 3, some .long, 8),
  (⟨"ScaffoldReasonsModel", "w2", "(II)J"⟩, prog_12_method_22_code, 2, some .long, 8),
  (⟨"ScaffoldReasonsModel", "isWord", "(J)Z"⟩, prog_12_method_27_code, 3, some .boolean, 8),
  (⟨"ScaffoldReasonsModel", "w5", "(IIIII)J"⟩, prog_12_method_25_code, 5, some .long, 8),
  (⟨"ScaffoldReasonsModel", "isLong", "(JJ)Z"⟩, prog_12_method_29_code, 5, some .boolean, 8),
  (⟨"ScaffoldReasonsModel", "w6", "(IIIIII)J"⟩, prog_12_method_26_code, 6, some .long, 8),
  (⟨"ScaffoldReasonsModel", "has", "(II)Z"⟩, prog_12_method_5_code, 2, some .boolean, 8),
  (⟨"ScaffoldReasonsModel", "body", "(II)I"⟩, prog_12_method_49_code, 3, some .int, 8),
  (⟨"ScaffoldReasonsModel", "pair", "(IIIJI)I"⟩, prog_12_method_48_code, 8, some .int, 8),
  (⟨"ScaffoldReasonsModel", "figure", "(III)I"⟩, prog_12_method_46_code, 4, some .int, 8),
  (⟨"ScaffoldReasonsModel", "lawClause", "(I)I"⟩, prog_12_method_47_code, 3, some .int, 8),
  (⟨"ScaffoldReasonsModel", "summed", "()I"⟩, prog_12_method_45_code, 2, some .int, 8),
  (⟨"ScaffoldReasonsModel", "behindOne", "()I"⟩, prog_12_method_44_code, 4, some .int, 8),
  (⟨"ScaffoldReasonsModel", "betweenOf", "()I"⟩, prog_12_method_42_code, 1, some .int, 8),
  (⟨"ScaffoldReasonsModel", "openNow", "()I"⟩, prog_12_method_35_code, 1, some .int, 8),
  (⟨"ScaffoldReasonsModel", "openAt", "()I"⟩, prog_12_method_34_code, 2, some .int, 8),
  (⟨"ScaffoldReasonsModel", "isCompared", "()Z"⟩, prog_12_method_36_code, 2, some .boolean, 8)]
def mtl_6 : List (MethodName × ByteArray × Nat × Option FieldType × Nat) := [(⟨"ScaffoldReasonsModel", "rank", "(I)I"⟩, prog_12_method_32_code, 1, some .int, 8),
  (⟨"ScaffoldReasonsModel", "compareOf", "()I"⟩, prog_12_method_41_code, 1, some .int, 8),
  (⟨"ScaffoldReasonsModel", "settle", "(I)V"⟩, prog_12_method_33_code, 2, none, 8),
  (⟨"ScaffoldReasonsModel", "emit", "(II)V"⟩, prog_12_method_28_code, 3, none, 8),
  (⟨"ScaffoldReasonsModel", "partOf", "(I)I"⟩, prog_12_method_43_code, 2, some .int, 8),
  (⟨"ScaffoldReasonsModel", "endOne", "()I"⟩, prog_12_method_40_code, 1, some .int, 8),
  (⟨"ScaffoldReasonsModel", "beginOne", "()I"⟩, prog_12_method_39_code, 2, some .int, 8),
  (⟨"ScaffoldReasonsModel", "nameOf", "()I"⟩, prog_12_method_30_code, 1, some .int, 8),
  (⟨"ScaffoldReasonsModel", "isOf", "(I)Z"⟩, prog_12_method_31_code, 2, some .boolean, 8),
  (⟨"ScaffoldReasonsModel", "opened", "(I)I"⟩, prog_12_method_38_code, 2, some .int, 8),
  (⟨"ScaffoldReasonsModel", "isAskAhead", "()Z"⟩, prog_12_method_37_code, 1, some .boolean, 8),
  (⟨"ScaffoldReasonsModel", "fault", "(I)I"⟩, prog_12_method_54_code, 2, some .int, 8),
  (⟨"ScaffoldReasonsModel", "by", "(I)Z"⟩, prog_12_method_55_code, 2, some .boolean, 8),
  (⟨"ScaffoldReasonsModel", "undo", "()I"⟩, prog_12_method_81_code, 3, some .int, 8),
  (⟨"ScaffoldReasonsModel", "put", "(I)Z"⟩, prog_12_method_82_code, 2, some .boolean, 8),
  (⟨"ScaffoldReasonsModel", "canPut", "(I)Z"⟩, prog_12_method_74_code, 2, some .boolean, 8),
  (⟨"ScaffoldReasonsModel", "isPlank", "(I)Z"⟩, prog_12_method_7_code, 2, some .boolean, 8),
  (⟨"ScaffoldReasonsModel", "those", "(I)I"⟩, prog_12_method_10_code, 4, some .int, 8),
  (⟨"ScaffoldReasonsModel", "putsOf", "(I)I"⟩, prog_12_method_65_code, 2, some .int, 8),
  (⟨"ScaffoldReasonsModel", "name", "(I)V"⟩, prog_12_method_64_code, 2, none, 8),
  (⟨"ScaffoldReasonsModel", "bits", "(I)I"⟩, prog_12_method_6_code, 3, some .int, 8),
  (⟨"ScaffoldReasonsModel", "against", "(I)I"⟩, prog_12_method_11_code, 4, some .int, 8),
  (⟨"ScaffoldReasonsModel", "restingOn", "(I)I"⟩, prog_12_method_12_code, 4, some .int, 8),
  (⟨"ScaffoldReasonsModel", "says", "(IIIII)I"⟩, prog_12_method_63_code, 7, some .int, 8),
  (⟨"ScaffoldReasonsModel", "summedUp", "(II)J"⟩, prog_12_method_62_code, 10, some .long, 8),
  (⟨"ScaffoldReasonsModel", "heavyOf", "(J)J"⟩, prog_12_method_59_code, 3, some .long, 8),
  (⟨"ScaffoldReasonsModel", "bitsOf", "(JJ)J"⟩, prog_12_method_60_code, 4, some .long, 8),
  (⟨"ScaffoldReasonsModel", "two", "(IJJ)J"⟩, prog_12_method_57_code, 5, some .long, 8),
  (⟨"ScaffoldReasonsModel", "clip", "(J)J"⟩, prog_12_method_56_code, 2, some .long, 8),
  (⟨"ScaffoldReasonsModel", "isAsked", "(IJJ)Z"⟩, prog_12_method_58_code, 5, some .boolean, 8),
  (⟨"ScaffoldReasonsModel", "joined", "(IZZ)Z"⟩, prog_12_method_61_code, 3, some .boolean, 8),
  (⟨"ScaffoldReasonsModel", "cut", "(JII)I"⟩, prog_12_method_4_code, 4, some .int, 8),
  (⟨"ScaffoldReasonsModel", "keep", "()V"⟩, prog_12_method_80_code, 3, none, 8),
  (⟨"ScaffoldReasonsModel", "become", "(III)V"⟩, prog_12_method_77_code, 4, none, 8),
  (⟨"ScaffoldReasonsModel", "write", "(II)V"⟩, prog_12_method_71_code, 4, none, 8),
  (⟨"ScaffoldReasonsModel", "take", "(I)Z"⟩, prog_12_method_83_code, 2, some .boolean, 8),
  (⟨"ScaffoldReasonsModel", "canTake", "(I)Z"⟩, prog_12_method_75_code, 2, some .boolean, 8),
  (⟨"ScaffoldReasonsModel", "concede", "(I)Z"⟩, prog_12_method_84_code, 2, some .boolean, 8),
  (⟨"ScaffoldReasonsModel", "canConcede", "(I)Z"⟩, prog_12_method_76_code, 2, some .boolean, 8),
  (⟨"ScaffoldReasonsModel", "layGrounded", "()I"⟩, prog_12_method_70_code, 5, some .int, 8)]
def mtl_7 : List (MethodName × ByteArray × Nat × Option FieldType × Nat) := [(⟨"ScaffoldReasonsModel", "objectedBy", "(I)I"⟩, prog_12_method_67_code, 4, some .int, 8),
  (⟨"ScaffoldReasonsModel", "object", "(IIZ)Z"⟩, prog_12_method_85_code, 4, some .boolean, 8),
  (⟨"ScaffoldReasonsModel", "hour", "(I)I"⟩, prog_12_method_87_code, 2, some .int, 8),
  (⟨"ScaffoldReasonsModel", "arePassed", "(I)Z"⟩, prog_12_method_86_code, 3, some .boolean, 8),
  (⟨"ScaffoldReasonsModel", "pass", "()V"⟩, prog_12_method_79_code, 3, none, 8),
  (⟨"ScaffoldReasonsModel", "drawnBy", "(I)I"⟩, prog_12_method_72_code, 3, some .int, 8),
  (⟨"ScaffoldReasonsModel", "anew", "()V"⟩, prog_12_method_73_code, 1, none, 8),
  (⟨"ScaffoldReasonsModel", "fallsOf", "(II)I"⟩, prog_12_method_66_code, 3, some .int, 8),
  (⟨"ScaffoldReasonsModel", "fall", "(I)V"⟩, prog_12_method_78_code, 4, none, 8),
  (⟨"ScaffoldReasonsModel", "played", "(I)I"⟩, prog_12_method_89_code, 3, some .int, 8),
  (⟨"ScaffoldReasonsModel", "isPlayed", "(I)Z"⟩, prog_12_method_88_code, 4, some .boolean, 8),
  (⟨"ScaffoldReasonsModel", "years", "(II)I"⟩, prog_12_method_91_code, 5, some .int, 8),
  (⟨"ScaffoldReasonsModel", "happens", "(I)V"⟩, prog_12_method_90_code, 3, none, 8),
  (⟨"ScaffoldReasonsModel", "of", "(II)I"⟩, prog_12_method_92_code, 3, some .int, 8),
  (⟨"ScaffoldReasonsModel", "is", "(I)I"⟩, prog_12_method_93_code, 2, some .int, 8),
  (⟨"ScaffoldReasonsModel", "book", "(II)I"⟩, prog_12_method_95_code, 3, some .int, 8),
  (⟨"ScaffoldReasonsModel", "entry", "(II)I"⟩, prog_12_method_94_code, 4, some .int, 8),
  (⟨"ScaffoldReasonsModel", "ledger", "(I)I"⟩, prog_12_method_96_code, 4, some .int, 8),
  (⟨"ScaffoldReasonsModel", "gaps", "()I"⟩, prog_12_method_97_code, 3, some .int, 8),
  (⟨"ScaffoldReasonsModel", "unopposed", "()I"⟩, prog_12_method_98_code, 3, some .int, 8),
  (⟨"ScaffoldReasonsModel", "atOdds", "()I"⟩, prog_12_method_99_code, 3, some .int, 8),
  (⟨"ScaffoldReasonsModel", "loaded", "()I"⟩, prog_12_method_101_code, 3, some .int, 8),
  (⟨"ScaffoldReasonsModel", "loadOf", "(I)I"⟩, prog_12_method_100_code, 2, some .int, 8),
  (⟨"ScaffoldReasonsModel", "foretold", "(I)I"⟩, prog_12_method_102_code, 4, some .int, 8),
  (⟨"ScaffoldReasonsModel", "holds", "(I)Z"⟩, prog_12_method_103_code, 2, some .boolean, 8),
  (⟨"ScaffoldReasonsModel", "isHeld", "(I)Z"⟩, prog_12_method_69_code, 3, some .boolean, 8),
  (⟨"ScaffoldReasonsModel", "isFree", "(I)Z"⟩, prog_12_method_68_code, 2, some .boolean, 8),
  (⟨"ScaffoldReasonsModel", "grounded", "()I"⟩, prog_12_method_104_code, 1, some .int, 8),
  (⟨"ScaffoldReasonsModel", "round", "(I)I"⟩, prog_12_method_105_code, 3, some .int, 8),
  (⟨"ScaffoldReasonsModel", "stables", "(I)I"⟩, prog_12_method_109_code, 2, some .int, 8),
  (⟨"ScaffoldReasonsModel", "setOf", "(II)I"⟩, prog_12_method_108_code, 4, some .int, 8),
  (⟨"ScaffoldReasonsModel", "laySets", "(I)I"⟩, prog_12_method_107_code, 7, some .int, 8),
  (⟨"ScaffoldReasonsModel", "isSort", "(II)Z"⟩, prog_12_method_106_code, 3, some .boolean, 8),
  (⟨"ScaffoldReasonsModel", "preferred", "(I)I"⟩, prog_12_method_110_code, 2, some .int, 8),
  (⟨"ScaffoldReasonsModel", "naive", "(I)I"⟩, prog_12_method_111_code, 2, some .int, 8),
  (⟨"ScaffoldReasonsModel", "ring", "(I)I"⟩, prog_12_method_112_code, 4, some .int, 8),
  (⟨"ScaffoldReasonsModel", "inSets", "(IZ)I"⟩, prog_12_method_113_code, 6, some .int, 8),
  (⟨"ScaffoldReasonsModel", "repair", "(IZ)I"⟩, prog_12_method_117_code, 4, some .int, 8),
  (⟨"ScaffoldReasonsModel", "isRepaired", "(II)Z"⟩, prog_12_method_116_code, 5, some .boolean, 8),
  (⟨"ScaffoldReasonsModel", "change", "(I)V"⟩, prog_12_method_115_code, 2, none, 8)]
def mtl_8 : List (MethodName × ByteArray × Nat × Option FieldType × Nat) := [(⟨"ScaffoldReasonsModel", "isMade", "(I)Z"⟩, prog_12_method_114_code, 2, some .boolean, 8),
  (⟨"ScaffoldReasonsModel", "heaviest", "(Z)I"⟩, prog_12_method_119_code, 4, some .int, 8),
  (⟨"ScaffoldReasonsModel", "weightOf", "(I)I"⟩, prog_12_method_118_code, 4, some .int, 8),
  (⟨"ScaffoldReasonsModel", "explain", "(II)I"⟩, prog_12_method_120_code, 8, some .int, 8),
  (⟨"ScaffoldReasonsModel", "orders", "(I)J"⟩, prog_12_method_122_code, 4, some .long, 8),
  (⟨"ScaffoldReasonsModel", "isNext", "(III)Z"⟩, prog_12_method_121_code, 4, some .boolean, 8),
  (⟨"ScaffoldReasonsModel", "order", "(II)I"⟩, prog_12_method_123_code, 6, some .int, 8),
  (⟨"ScaffoldReasonsModel", "all", "(I)I"⟩, prog_12_method_125_code, 2, some .int, 8),
  (⟨"ScaffoldReasonsModel", "underOf", "(I)I"⟩, prog_12_method_124_code, 4, some .int, 8),
  (⟨"ScaffoldReasonsModel", "over", "(I)I"⟩, prog_12_method_126_code, 4, some .int, 8),
  (⟨"ScaffoldReasonsModel", "high", "(I)I"⟩, prog_12_method_127_code, 4, some .int, 8),
  (⟨"ScaffoldReasonsModel", "least", "(I)I"⟩, prog_12_method_128_code, 2, some .int, 8),
  (⟨"ScaffoldReasonsModel", "stand", "(IZ)J"⟩, prog_12_method_130_code, 8, some .long, 8),
  (⟨"ScaffoldReasonsModel", "divisor", "(JJ)J"⟩, prog_12_method_129_code, 10, some .long, 8),
  (⟨"ScaffoldReasonsModel", "vote", "(I)I"⟩, prog_12_method_134_code, 2, some .int, 8),
  (⟨"ScaffoldReasonsModel", "isOrder", "(I)Z"⟩, prog_12_method_132_code, 3, some .boolean, 8),
  (⟨"ScaffoldReasonsModel", "digitOf", "(II)I"⟩, prog_12_method_131_code, 2, some .int, 8),
  (⟨"ScaffoldReasonsModel", "beats", "(II)I"⟩, prog_12_method_137_code, 3, some .int, 8),
  (⟨"ScaffoldReasonsModel", "isOption", "(I)Z"⟩, prog_12_method_133_code, 1, some .boolean, 8),
  (⟨"ScaffoldReasonsModel", "more", "(II)I"⟩, prog_12_method_136_code, 5, some .int, 8),
  (⟨"ScaffoldReasonsModel", "placeIn", "(II)I"⟩, prog_12_method_135_code, 3, some .int, 8),
  (⟨"ScaffoldReasonsModel", "agenda", "(I)I"⟩, prog_12_method_139_code, 2, some .int, 8),
  (⟨"ScaffoldReasonsModel", "leftBy", "(I)I"⟩, prog_12_method_138_code, 4, some .int, 8),
  (⟨"ScaffoldReasonsModel", "lead", "(I)I"⟩, prog_12_method_140_code, 3, some .int, 8),
  (⟨"ScaffoldReasonsModel", "winner", "(I)I"⟩, prog_12_method_143_code, 3, some .int, 8),
  (⟨"ScaffoldReasonsModel", "isWinner", "(II)Z"⟩, prog_12_method_142_code, 4, some .boolean, 8),
  (⟨"ScaffoldReasonsModel", "pointsOf", "(IZ)I"⟩, prog_12_method_141_code, 6, some .int, 8),
  (⟨"ScaffoldReasonsModel", "score", "(I)I"⟩, prog_12_method_144_code, 4, some .int, 8),
  (⟨"ScaffoldReasonsModel", "top", "()I"⟩, prog_12_method_146_code, 3, some .int, 8),
  (⟨"ScaffoldReasonsModel", "areOver", "(I)Z"⟩, prog_12_method_145_code, 4, some .boolean, 8),
  (⟨"ScaffoldReasonsModel", "said", "(II)I"⟩, prog_12_method_147_code, 3, some .int, 8),
  (⟨"ScaffoldReasonsModel", "whose", "()I"⟩, prog_12_method_148_code, 5, some .int, 8),
  (⟨"ScaffoldReasonsModel", "image", "()I"⟩, prog_12_method_149_code, 1, some .int, 8),
  (⟨"ScaffoldReasonsModel", "back", "()I"⟩, prog_12_method_150_code, 1, some .int, 8),
  (⟨"ScaffoldReasonsModel", "about", "(I)I"⟩, prog_12_method_151_code, 2, some .int, 8),
  (⟨"ScaffoldReasonsLaw", "law", "([I)Z"⟩, code, 4, some .boolean, 11)]
def mtl : List (MethodName × ByteArray × Nat × Option FieldType × Nat) := mtl_0 ++ (mtl_1 ++ (mtl_2 ++ (mtl_3 ++ (mtl_4 ++ (mtl_5 ++ (mtl_6 ++ (mtl_7 ++ (mtl_8))))))))
/-- a method by its number: name, code, locals, what it returns, its class -/
def mI (y : Nat) : MethodName × ByteArray × Nat × Option FieldType × Nat := mtl.getD y (⟨"", "", ""⟩, ⟨#[]⟩, 0, none, 999)
def mB (y : Nat) : ByteArray := (mI y).2.1
def mO (y : Nat) : Nat := (mI y).2.2.2.2
def mR (y : Nat) : Option FieldType := (mI y).2.2.2.1
def mL (y : Nat) : Nat := (mI y).2.2.1
def lk {α : Type} : List (Nat × α) → Nat → Option α
  | [], _ => none
  | (a, b) :: l, k => if a == k then some b else lk l k
/-- pool entries, by class number * 2000 + index: fields (class, place), methods (kind, number, parameters), classes, constants -/
def tFl : List (Nat × Nat × Nat) := [(4019, 2, 0), (10105, 2, 0), (195, 2, 0), (4022, 2, 1), (198, 2, 1), (4025, 2, 2), (10113, 2, 2), (171, 2, 2), (4029, 2, 3), (10029, 2, 3), (192, 2, 3), (4032, 2, 4), (10102, 2, 4), (117, 2, 4), (4009, 2, 5), (145, 2, 5), (4015, 2, 6), (4041, 2, 7), (201, 2, 7), (2042, 1, 0), (20009, 1, 0), (10142, 1, 0), (352, 1, 0), (2009, 1, 1), (20029, 1, 1), (10145, 1, 1), (161, 1, 1), (2015, 1, 2), (20015, 1, 2), (10128, 1, 2), (165, 1, 2), (2021, 1, 3), (114, 1, 3), (2025, 1, 4), (2059, 1, 5), (2062, 1, 6), (367, 1, 6), (2065, 1, 7), (73, 1, 7), (2029, 1, 8), (97, 1, 8), (2033, 1, 9), (18025, 1, 9), (306, 1, 9), (2068, 1, 10), (18019, 1, 10), (298, 1, 10), (2036, 1, 11), (342, 1, 11), (2039, 1, 12), (345, 1, 12), (2071, 1, 13), (339, 1, 13), (6009, 3, 0), (6025, 3, 1), (65, 3, 1), (6015, 3, 2), (6019, 3, 3), (6022, 3, 4), (6029, 3, 5), (8026, 4, 0), (87, 4, 0), (8009, 4, 1), (90, 4, 1), (8019, 4, 2), (8015, 4, 3), (8023, 4, 4), (8064, 4, 5), (10009, 5, 0), (10050, 5, 1), (10039, 5, 2), (10043, 5, 3), (10047, 5, 4), (12009, 6, 0), (12051, 6, 1), (247, 6, 1), (12015, 6, 2), (12019, 6, 3), (14009, 7, 0), (14024, 7, 1), (14015, 7, 2), (14018, 7, 3), (14021, 7, 4), (14028, 7, 5), (8049, 7, 5), (127, 7, 5), (10, 0, 0), (16, 0, 1), (21, 0, 2), (28, 0, 3), (35, 0, 4), (42, 0, 5), (49, 0, 6), (56, 0, 7), (76, 0, 8), (16007, 8, 0), (16013, 8, 1), (16016, 8, 2), (16019, 8, 3), (16085, 8, 4), (16022, 8, 5), (16026, 8, 6), (16092, 8, 7), (16099, 8, 8), (16102, 8, 9), (16108, 8, 10), (16115, 8, 11), (16140, 8, 12), (16143, 8, 13), (16154, 8, 14), (16029, 8, 15), (16157, 8, 16), (16167, 8, 17), (16202, 8, 18), (16240, 8, 19), (16032, 8, 20), (16035, 8, 21), (16039, 8, 22), (16043, 8, 23), (16046, 8, 24), (16337, 8, 25), (16050, 8, 26), (16053, 8, 27), (16056, 8, 28), (16059, 8, 29), (16062, 8, 30)]
def tMl : List (Nat × Nat × Nat × Nat) := [(22009, 2, 0, 0), (1, 6, 0, 0), (9, 2, 1, 0), (2003, 6, 0, 0), (2020, 12, 2, 0), (4003, 6, 0, 0), (27, 12, 3, 0), (6003, 6, 0, 0), (34, 12, 4, 0), (8003, 6, 0, 0), (41, 12, 5, 0), (10003, 6, 0, 0), (48, 12, 6, 0), (12003, 6, 0, 0), (55, 12, 2, 0), (60, 12, 7, 0), (14003, 6, 0, 0), (22013, 1, 8, 2), (61, 1, 9, 2), (2078, 1, 10, 1), (2074, 1, 11, 0), (22018, 1, 12, 5), (69, 1, 13, 1), (22023, 1, 14, 1), (22028, 1, 15, 0), (80, 1, 16, 0), (6032, 1, 17, 1), (6036, 0, 18, 1), (6040, 1, 19, 1), (6057, 1, 20, 2), (6074, 1, 21, 0), (24335, 1, 22, 0), (6077, 1, 23, 1), (24492, 1, 24, 0), (24495, 0, 25, 2), (26009, 8, 0, 2), (6053, 1, 26, 3), (6043, 0, 27, 1), (6046, 1, 28, 1), (6060, 21, 0, 2), (6049, 1, 29, 2), (6067, 1, 30, 1), (24633, 1, 31, 2), (24505, 1, 21, 0), (24637, 0, 32, 4), (26088, 0, 33, 1), (26092, 20, 0, 2), (26038, 21, 0, 2), (26095, 0, 34, 4), (83, 1, 35, 2), (8029, 1, 36, 0), (14031, 0, 37, 2), (8034, 1, 38, 0), (8131, 1, 39, 1), (8038, 1, 40, 0), (8042, 1, 41, 1), (8134, 1, 42, 1), (8046, 1, 43, 1), (8052, 1, 44, 1), (8061, 1, 45, 0), (8067, 1, 46, 1), (8097, 1, 47, 1), (8103, 1, 48, 1), (8092, 1, 49, 1), (8100, 1, 50, 2), (8085, 1, 51, 3), (8106, 1, 52, 1), (8058, 1, 53, 1), (8109, 1, 54, 1), (8112, 1, 55, 1), (8115, 1, 56, 1), (8122, 1, 57, 1), (8125, 1, 58, 1), (8128, 0, 59, 1), (8118, 1, 60, 1), (8070, 1, 61, 2), (8074, 1, 62, 3), (8055, 1, 63, 1), (8078, 0, 64, 1), (8082, 0, 65, 1), (8089, 0, 66, 1), (22033, 1, 67, 1), (22037, 1, 68, 1), (93, 1, 69, 1), (22042, 1, 70, 1), (100, 1, 71, 2), (158, 1, 72, 1), (355, 1, 73, 1), (289, 1, 74, 0), (276, 0, 75, 2), (182, 1, 76, 0), (185, 1, 77, 4), (10015, 1, 43, 1), (10021, 1, 78, 5), (10053, 1, 79, 1), (10057, 1, 80, 1), (10060, 1, 81, 1), (10063, 1, 82, 1), (10066, 1, 83, 1), (10070, 1, 84, 1), (10035, 0, 85, 2), (10108, 0, 86, 1), (10117, 0, 87, 2), (10123, 1, 72, 1), (10131, 0, 88, 2), (10073, 1, 89, 0), (10077, 20, 0, 2), (10083, 1, 90, 1), (10086, 1, 91, 1), (10089, 22, 0, 1), (10092, 0, 92, 3), (10025, 0, 93, 3), (10136, 24, 0, 2), (10140, 23, 0, 2), (10098, 0, 94, 3), (120, 1, 95, 0), (2055, 1, 96, 2), (2051, 1, 97, 1), (4035, 7, 0, 5), (370, 1, 98, 2), (22046, 1, 99, 1), (104, 1, 100, 2), (358, 0, 88, 2), (22050, 1, 101, 1), (107, 1, 102, 2), (218, 1, 11, 0), (221, 0, 103, 2), (12034, 0, 104, 3), (12027, 0, 105, 2), (22054, 1, 106, 3), (110, 1, 107, 4), (374, 0, 108, 3), (12023, 0, 109, 2), (378, 0, 109, 2), (22059, 1, 110, 1), (123, 1, 111, 1), (382, 1, 112, 1), (4044, 1, 113, 0), (189, 1, 114, 4), (385, 1, 115, 2), (330, 0, 86, 1), (22063, 1, 116, 1), (130, 1, 117, 1), (14037, 1, 118, 1), (134, 1, 119, 1), (137, 1, 120, 1), (141, 1, 121, 2), (389, 1, 122, 1), (22067, 1, 123, 2), (148, 1, 113, 0), (151, 1, 124, 1), (22071, 1, 125, 0), (154, 1, 126, 0), (22075, 1, 127, 2), (168, 1, 128, 1), (175, 0, 105, 2), (179, 0, 87, 2), (22079, 1, 129, 1), (22083, 1, 130, 2), (204, 1, 131, 2), (22087, 1, 132, 1), (207, 1, 97, 1), (22091, 1, 133, 1), (211, 1, 10, 1), (214, 0, 134, 2), (12031, 0, 87, 2), (22095, 1, 135, 0), (22099, 1, 136, 1), (224, 0, 137, 3), (12038, 10, 75, 2), (22103, 1, 138, 1), (228, 1, 139, 2), (12055, 1, 140, 1), (232, 1, 141, 1), (22107, 1, 142, 1), (235, 1, 143, 2), (12059, 0, 134, 2), (12063, 1, 144, 2), (22111, 1, 145, 1), (238, 1, 146, 2), (12066, 0, 147, 2), (12069, 0, 148, 3), (22115, 1, 149, 1), (241, 0, 150, 2), (22119, 1, 151, 2), (244, 1, 152, 1), (22124, 1, 153, 2), (250, 10, 154, 5), (12042, 0, 103, 2), (12047, 0, 154, 5), (254, 0, 155, 1), (22128, 1, 156, 1), (257, 0, 157, 2), (20019, 10, 75, 2), (263, 0, 147, 2), (22133, 1, 158, 2), (266, 1, 159, 3), (12073, 10, 155, 1), (22137, 1, 160, 1), (272, 1, 161, 2), (22142, 1, 162, 2), (22146, 1, 163, 1), (280, 0, 164, 2), (20023, 0, 165, 2), (22150, 1, 166, 1), (283, 0, 167, 2), (22154, 1, 168, 1), (286, 0, 169, 2), (22158, 1, 170, 1), (22162, 1, 171, 2), (294, 0, 172, 2), (22167, 1, 173, 1), (301, 0, 174, 1), (18009, 0, 175, 2), (18015, 0, 176, 1), (22171, 1, 177, 2), (309, 0, 176, 1), (312, 0, 178, 3), (18029, 0, 179, 2), (22175, 1, 180, 1), (316, 0, 181, 2), (18032, 0, 178, 3), (22179, 1, 182, 1), (22183, 1, 183, 1), (319, 0, 184, 1), (18036, 0, 185, 2), (18044, 10, 75, 2), (323, 0, 186, 2), (18040, 0, 187, 3), (22187, 1, 188, 1), (327, 0, 189, 2), (22191, 1, 190, 0), (335, 0, 185, 2), (22195, 1, 191, 2), (22199, 1, 192, 0), (348, 1, 193, 1), (22203, 1, 194, 0), (22207, 1, 195, 0), (22211, 1, 196, 0), (22215, 1, 197, 0), (22219, 1, 198, 1), (361, 1, 199, 1), (4047, 1, 131, 2), (22223, 1, 200, 0), (364, 1, 201, 1), (2045, 7, 0, 5), (22227, 1, 202, 0), (22231, 1, 203, 1), (22012, 2, 204, 0), (16001, 6, 0, 0), (16065, 0, 205, 2), (22017, 1, 206, 2), (16069, 0, 207, 3), (16081, 1, 208, 1), (16073, 1, 209, 0), (22022, 1, 210, 5), (16088, 1, 211, 1), (22027, 1, 212, 1), (22032, 1, 213, 0), (16250, 1, 214, 0), (16176, 1, 215, 0), (16095, 1, 216, 1), (16105, 0, 217, 1), (16112, 0, 218, 1), (16121, 0, 219, 1), (16247, 1, 220, 0), (16237, 1, 221, 0), (16132, 0, 222, 4), (16128, 0, 223, 3), (16124, 0, 224, 2), (16191, 1, 225, 1), (16136, 0, 226, 5), (16150, 1, 227, 2), (16146, 0, 228, 6), (16077, 0, 229, 2), (16243, 1, 230, 2), (16230, 1, 231, 5), (16226, 1, 232, 3), (16234, 1, 233, 1), (16223, 1, 234, 0), (16217, 1, 235, 0), (16211, 1, 236, 0), (16173, 1, 237, 0), (16170, 1, 238, 0), (16205, 1, 239, 0), (16160, 0, 240, 1), (16208, 1, 241, 0), (16199, 1, 242, 1), (16163, 1, 243, 2), (16214, 1, 244, 1), (16185, 1, 245, 0), (16220, 1, 246, 0), (16179, 1, 247, 0), (16182, 1, 248, 1), (16188, 1, 249, 1), (16195, 1, 250, 0), (22036, 1, 251, 1), (22041, 1, 252, 1), (22074, 1, 253, 0), (22045, 1, 254, 1), (16349, 1, 255, 1), (16321, 1, 256, 1), (16287, 1, 257, 1), (16324, 1, 258, 1), (16299, 1, 259, 1), (16290, 0, 260, 1), (16293, 1, 261, 1), (16296, 1, 262, 1), (16302, 1, 263, 5), (16280, 1, 264, 2), (16261, 1, 265, 1), (16264, 0, 266, 2), (16268, 0, 267, 3), (16257, 0, 268, 1), (16272, 0, 269, 3), (16276, 0, 270, 3), (16283, 0, 271, 3), (16352, 1, 272, 0), (16333, 1, 273, 3), (16330, 1, 274, 2), (22049, 1, 275, 1), (16355, 1, 276, 1), (22053, 1, 277, 1), (16358, 1, 278, 1), (16327, 1, 279, 0), (16306, 1, 280, 1), (22058, 1, 281, 3), (22062, 1, 282, 1), (16364, 1, 283, 1), (16361, 1, 284, 0), (16340, 1, 285, 1), (16312, 1, 286, 0), (16343, 1, 287, 2), (16346, 1, 288, 1), (22066, 1, 289, 1), (16383, 1, 290, 1), (16367, 1, 206, 2), (16370, 1, 254, 1), (16373, 1, 275, 1), (16376, 1, 277, 1), (16379, 1, 281, 3), (22070, 1, 291, 2), (16386, 1, 292, 1), (22078, 1, 293, 2), (22082, 1, 294, 1), (22086, 1, 295, 2), (16389, 1, 296, 2), (22222, 1, 297, 1), (22206, 1, 298, 0), (22210, 1, 299, 0), (22214, 1, 300, 0), (22218, 1, 301, 0), (16392, 1, 302, 1), (22090, 1, 303, 1), (22094, 1, 304, 1), (16395, 1, 305, 1), (16309, 1, 306, 1), (22098, 1, 307, 0), (22102, 1, 308, 1), (22106, 1, 309, 1), (16404, 1, 310, 2), (16401, 1, 311, 1), (16398, 1, 312, 2), (22110, 1, 313, 1), (22114, 1, 314, 1), (22118, 1, 315, 1), (22123, 1, 316, 2), (22127, 1, 317, 2), (16413, 1, 318, 2), (16407, 1, 319, 1), (16410, 1, 320, 1), (22132, 1, 321, 1), (16416, 1, 322, 1), (22136, 1, 323, 2), (22141, 1, 324, 1), (16421, 1, 325, 3), (22145, 1, 326, 2), (22149, 1, 327, 1), (16424, 1, 328, 1), (22153, 1, 329, 1), (22157, 1, 330, 1), (22161, 1, 331, 1), (22166, 1, 332, 2), (16429, 0, 333, 2), (22170, 1, 334, 1), (16435, 0, 335, 1), (16432, 0, 336, 2), (22174, 1, 337, 2), (16441, 0, 338, 1), (16444, 1, 339, 2), (16438, 0, 340, 2), (22178, 1, 341, 1), (16447, 1, 342, 1), (22182, 1, 343, 1), (22186, 1, 344, 1), (16454, 1, 345, 2), (16450, 1, 346, 2), (22190, 1, 347, 1), (22194, 1, 348, 0), (16457, 1, 349, 1), (22198, 1, 350, 2), (22202, 1, 351, 0), (22226, 1, 352, 0), (22230, 1, 353, 0), (22234, 1, 354, 1)]
def tCl : List (Nat × Nat) := [(22007, 0), (7, 1), (2018, 2), (19, 7), (25, 3), (32, 4), (39, 5), (46, 6), (53, 2), (22010, 8)]
def tKl : List (Nat × Int32) := [(30265, 1431655765), (30266, 858993459), (30267, 252645135), (10096, -1000000), (10097, 1000000), (16111, 99999)]
def tJl : List (Nat × Int64) := [(12045, -1), (270, -1), (292, 10), (16119, 1152921504606846976), (16253, 1000000), (16255, -1000000), (16315, 593), (16317, 461), (16319, 30829), (16419, -1), (16427, 10)]
def tSl : List (Nat × Nat) := [(6072, 1001), (6065, 1003)]
def stl : List Nat := [18, 25, 27, 32, 33, 34, 37, 59, 64, 65, 66, 75, 85, 86, 87, 88, 92, 93, 94, 103, 104, 105, 108, 109, 134, 137, 147, 148, 150, 154, 155, 157, 164, 165, 167, 169, 172, 174, 175, 176, 178, 179, 181, 184, 185, 186, 187, 189, 205, 207, 217, 218, 219, 222, 223, 224, 226, 228, 229, 240, 260, 266, 267, 268, 269, 270, 271, 333, 335, 336, 338, 340]
def inl : List Nat := [0, 1, 2, 3, 4, 5, 6, 7, 8, 9, 10, 11, 12, 13, 14, 15, 16, 17, 19, 20, 21, 22, 23, 24, 26, 28, 29, 30, 31, 35, 36, 38, 39, 40, 41, 42, 43, 44, 45, 46, 47, 48, 49, 50, 51, 52, 53, 54, 55, 56, 57, 58, 60, 61, 62, 63, 67, 68, 69, 70, 71, 72, 73, 74, 76, 77, 78, 79, 80, 81, 82, 83, 84, 89, 90, 91, 95, 96, 97, 98, 99, 100, 101, 102, 106, 107, 110, 111, 112, 113, 114, 115, 116, 117, 118, 119, 120, 121, 122, 123, 124, 125, 126, 127, 128, 129, 130, 131, 132, 133, 135, 136, 138, 139, 140, 141, 142, 143, 144, 145, 146, 149, 151, 152, 153, 156, 158, 159, 160, 161, 162, 163, 166, 168, 170, 171, 173, 177, 180, 182, 183, 188, 190, 191, 192, 193, 194, 195, 196, 197, 198, 199, 200, 201, 202, 203, 204, 206, 208, 209, 210, 211, 212, 213, 214, 215, 216, 220, 221, 225, 227, 230, 231, 232, 233, 234, 235, 236, 237, 238, 239, 241, 242, 243, 244, 245, 246, 247, 248, 249, 250, 251, 252, 253, 254, 255, 256, 257, 258, 259, 261, 262, 263, 264, 265, 272, 273, 274, 275, 276, 277, 278, 279, 280, 281, 282, 283, 284, 285, 286, 287, 288, 289, 290, 291, 292, 293, 294, 295, 296, 297, 298, 299, 300, 301, 302, 303, 304, 305, 306, 307, 308, 309, 310, 311, 312, 313, 314, 315, 316, 317, 318, 319, 320, 321, 322, 323, 324, 325, 326, 327, 328, 329, 330, 331, 332, 334, 337, 339, 341, 342, 343, 344, 345, 346, 347, 348, 349, 350, 351, 352, 353, 354]
def sel : List Nat := [17, 19, 20, 26, 28, 29, 38, 40, 41, 44, 46, 47, 48, 51, 52, 53, 54, 55, 56, 57, 58, 63, 69, 71, 73, 76, 78, 83, 84, 89, 90, 91, 96, 100, 102, 107, 111, 115, 118, 120, 121, 124, 128, 140, 144, 193, 208, 209, 211, 214, 215, 216, 220, 221, 225, 227, 230, 231, 232, 233, 234, 235, 236, 237, 238, 239, 241, 242, 243, 244, 245, 246, 247, 248, 249, 250, 255, 256, 257, 258, 259, 261, 262, 263, 264, 265, 272, 273, 274, 276, 278, 279, 280, 283, 284, 285, 286, 287, 288, 290, 292, 296, 302, 305, 306, 310, 311, 312, 318, 319, 320, 322, 325, 328, 339, 342, 345, 346, 349, 8, 9, 10, 11, 12, 13, 14, 15, 16, 21, 22, 23, 24, 30, 31, 35, 36, 39, 42, 43, 45, 49, 50, 60, 61, 62, 67, 68, 70, 72, 74, 77, 79, 80, 81, 82, 95, 97, 98, 99, 101, 106, 110, 112, 113, 114, 116, 117, 119, 122, 123, 125, 126, 127, 129, 130, 131, 132, 133, 135, 136, 138, 139, 141, 142, 143, 145, 146, 149, 151, 152, 153, 156, 158, 159, 160, 161, 162, 163, 166, 168, 170, 171, 173, 177, 180, 182, 183, 188, 190, 191, 192, 194, 195, 196, 197, 198, 199, 200, 201, 202, 203, 206, 210, 212, 213, 251, 252, 253, 254, 275, 277, 281, 282, 289, 291, 293, 294, 295, 297, 298, 299, 300, 301, 303, 304, 307, 308, 309, 313, 314, 315, 316, 317, 321, 323, 324, 326, 327, 329, 330, 331, 332, 334, 337, 341, 343, 344, 347, 348, 350, 351, 352, 353, 354]
def pk (y idx : Nat) : Nat := if idx < 2000 then mO y * 2000 + idx else 0
/-- the kind of a field: 0 int, 1 boolean, 2 long, 3 reference -/
def ftl : List (List Nat) := [[3, 3, 3, 3, 3, 3, 3, 3, 1], [0, 3, 3, 3, 3, 0, 0, 0, 0, 3, 0, 3, 3, 0], [0, 0, 2, 0, 0, 0, 3, 0], [3, 0, 3, 3, 3, 0], [0, 0, 3, 3, 0, 0], [3, 0, 3, 3, 0], [3, 0, 3, 3], [3, 0, 3, 3, 3, 0], [3, 3, 3, 3, 0, 0, 0, 0, 0, 0, 0, 2, 0, 0, 0, 3, 0, 0, 1, 0, 3, 3, 3, 3, 1, 0, 3, 3, 3, 3, 3]]
def ft (c j : Nat) : Nat := (ftl.getD c []).getD j 9
def fnl : List (List Bool) := [[true, true, true, true, true, true, true, true, false], [false, true, true, true, true, false, false, false, false, true, false, true, true, false], [false, false, false, false, false, false, true, false], [true, false, true, true, true, false], [false, false, false, false, false, false], [true, false, false, false, false], [true, false, true, true], [true, false, true, true, true, false], [true, true, true, true, false, false, false, false, false, false, false, false, false, false, false, true, false, false, false, false, true, true, true, true, false, false, true, true, true, true, true]]
def fin (c j : Nat) : Bool := (fnl.getD c []).getD j true
/-- shapes: (class, fields) below 100; 100 int, 101 byte, 102 boolean, 103 long, 104 Moment, 105 Script: arrays and their lengths -/
def shl : List (Nat × Nat) := [(0, 9), (1, 14), (100, 8), (100, 8), (2, 8), (100, 30), (104, 30), (100, 7), (100, 8), (100, 8), (2, 8), (100, 30), (2, 8), (100, 30), (2, 8), (100, 30), (2, 8), (100, 30), (2, 8), (100, 30), (2, 8), (100, 30), (2, 8), (100, 30), (2, 8), (100, 30), (2, 8), (100, 30), (2, 8), (100, 30), (2, 8), (100, 30), (2, 8), (100, 30), (2, 8), (100, 30), (2, 8), (100, 30), (2, 8), (100, 30), (2, 8), (100, 30), (2, 8), (100, 30), (2, 8), (100, 30), (2, 8), (100, 30), (2, 8), (100, 30), (2, 8), (100, 30), (2, 8), (100, 30), (2, 8), (100, 30), (2, 8), (100, 30), (2, 8), (100, 30), (2, 8), (100, 30), (2, 8), (100, 30), (2, 8), (100, 30), (2, 8), (100, 30), (2, 8), (100, 30), (1, 14), (100, 8), (100, 8), (2, 8), (100, 30), (104, 30), (100, 7), (100, 8), (100, 8), (2, 8), (100, 30), (2, 8), (100, 30), (2, 8), (100, 30), (2, 8), (100, 30), (2, 8), (100, 30), (2, 8), (100, 30), (2, 8), (100, 30), (2, 8), (100, 30), (2, 8), (100, 30), (2, 8), (100, 30), (2, 8), (100, 30), (2, 8), (100, 30), (2, 8), (100, 30), (2, 8), (100, 30), (2, 8), (100, 30), (2, 8), (100, 30), (2, 8), (100, 30), (2, 8), (100, 30), (2, 8), (100, 30), (2, 8), (100, 30), (2, 8), (100, 30), (2, 8), (100, 30), (2, 8), (100, 30), (2, 8), (100, 30), (2, 8), (100, 30), (2, 8), (100, 30), (2, 8), (100, 30), (2, 8), (100, 30), (2, 8), (100, 30), (2, 8), (100, 30), (105, 4), (3, 6), (101, 300), (100, 301), (100, 301), (100, 301), (4, 6), (5, 5), (100, 300), (6, 4), (100, 256), (102, 256), (103, 256), (2, 8), (100, 30), (7, 6), (100, 300), (100, 2), (100, 2), (100, 24), (7, 6), (100, 300), (100, 2), (100, 2), (100, 24), (7, 6), (100, 300), (100, 2), (100, 2), (100, 24), (7, 6), (100, 300), (100, 2), (100, 2), (100, 24), (8, 31), (100, 1595), (100, 1595), (100, 2724), (100, 300), (100, 160), (100, 8), (103, 330), (102, 330), (100, 8), (100, 26), (100, 256), (100, 3), (103, 256), (100, 8)]
/-- those that are there at the start: 1000 the script, 1001 and 1003 the two texts, 1002 and 1004 their bytes -/
def sho : List (Nat × Nat) := [(100, 0), (12, 2), (101, 139), (12, 2), (101, 11)]
def sh (k : Nat) : Nat × Nat := if k < 1000 then shl.getD k (999, 0) else sho.getD (k - 1000) (999, 0)
def NX : Nat := 189
def wordsB : List Int32 := [112, 117, 116, 115, 32, 102, 97, 108, 108, 115, 32, 112, 108, 97, 110, 107, 32, 112, 117, 116, 32, 116, 97, 107, 101, 32, 99, 111, 110, 99, 101, 100, 101, 32, 111, 98, 106, 101, 99, 116, 32, 100, 114, 111, 112, 32, 104, 111, 117, 114, 32, 119, 105, 110, 100, 32, 110, 117, 109, 98, 101, 114, 32, 119, 101, 105, 103, 104, 116, 32, 117, 112, 32, 97, 103, 97, 105, 110, 115, 116, 32, 114, 101, 115, 116, 115, 32, 108, 111, 97, 100, 32, 111, 110, 32, 116, 111, 32, 111, 102, 32, 98, 105, 116, 115, 32, 104, 101, 97, 118, 121, 32, 105, 102, 32, 116, 104, 101, 110, 32, 101, 108, 115, 101, 32, 101, 110, 100, 32, 111, 114, 32, 97, 110, 100, 32, 110, 111, 116]
def signsB : List Int32 := [60, 62, 61, 35, 43, 45, 42, 47, 40, 41, 59]
