/-! links -/
theorem k_Law_9 : Cond.methodLink "CoatRingsLaw" 9 Y_Coat_init.1 ∈ lw_tbl ∧ goodWord (Cond.methodLink "CoatRingsLaw" 9 Y_Coat_init.1) = true := ⟨tb1 20 rfl, rfl⟩
theorem k_Coat_1 : Cond.methodLink "CoatRings" 1 objectInit ∈ lw_tbl ∧ goodWord (Cond.methodLink "CoatRings" 1 objectInit) = true := ⟨tb1 23 rfl, rfl⟩
theorem k_Coat_9 : Cond.methodLink "CoatRings" 9 Y_Night_init.1 ∈ lw_tbl ∧ goodWord (Cond.methodLink "CoatRings" 9 Y_Night_init.1) = true := ⟨tb1 28 rfl, rfl⟩
theorem k_Night_3 : Cond.methodLink "CoatRings$Night" 3 objectInit ∈ lw_tbl ∧ goodWord (Cond.methodLink "CoatRings$Night" 3 objectInit) = true := ⟨tb1 31 rfl, rfl⟩
theorem k_Night_49 : Cond.methodLink "CoatRings$Night" 49 Y_JA_fill.1 ∈ lw_tbl ∧ goodWord (Cond.methodLink "CoatRings$Night" 49 Y_JA_fill.1) = true := ⟨tb1 33 rfl, rfl⟩
theorem k_Tape_3 : Cond.methodLink "CoatRings$Tape" 3 objectInit ∈ lw_tbl ∧ goodWord (Cond.methodLink "CoatRings$Tape" 3 objectInit) = true := ⟨tb1 132 rfl, rfl⟩
theorem k_Coat_28 : Cond.methodLink "CoatRings" 28 Y_Sheets_init.1 ∈ lw_tbl ∧ goodWord (Cond.methodLink "CoatRings" 28 Y_Sheets_init.1) = true := ⟨tb1 149 rfl, rfl⟩
theorem k_Sheets_3 : Cond.methodLink "CoatRings$Sheets" 3 objectInit ∈ lw_tbl ∧ goodWord (Cond.methodLink "CoatRings$Sheets" 3 objectInit) = true := ⟨tb1 152 rfl, rfl⟩
theorem k_Sheets_23 : Cond.methodLink "CoatRings$Sheets" 23 Y_JA_fill.1 ∈ lw_tbl ∧ goodWord (Cond.methodLink "CoatRings$Sheets" 23 Y_JA_fill.1) = true := ⟨tb1 155 rfl, rfl⟩
theorem k_Givings_3 : Cond.methodLink "CoatRings$Givings" 3 objectInit ∈ lw_tbl ∧ goodWord (Cond.methodLink "CoatRings$Givings" 3 objectInit) = true := ⟨tb1 174 rfl, rfl⟩
theorem k_Planner_3 : Cond.methodLink "CoatRings$Planner" 3 objectInit ∈ lw_tbl ∧ goodWord (Cond.methodLink "CoatRings$Planner" 3 objectInit) = true := ⟨tb1 187 rfl, rfl⟩
theorem k_Heap_3 : Cond.methodLink "CoatRings$Heap" 3 objectInit ∈ lw_tbl ∧ goodWord (Cond.methodLink "CoatRings$Heap" 3 objectInit) = true := ⟨tb1 193 rfl, rfl⟩
theorem k_Coat_53 : Cond.methodLink "CoatRings" 53 Y_Days_init.1 ∈ lw_tbl ∧ goodWord (Cond.methodLink "CoatRings" 53 Y_Days_init.1) = true := ⟨tb2 21 rfl, rfl⟩
theorem k_Days_3 : Cond.methodLink "CoatRings$Days" 3 objectInit ∈ lw_tbl ∧ goodWord (Cond.methodLink "CoatRings$Days" 3 objectInit) = true := ⟨tb2 24 rfl, rfl⟩
theorem k_Days_21 : Cond.methodLink "CoatRings$Days" 21 Y_Days_gather.1 ∈ lw_tbl ∧ goodWord (Cond.methodLink "CoatRings$Days" 21 Y_Days_gather.1) = true := ⟨tb2 26 rfl, rfl⟩
theorem k_Days_25 : Cond.methodLink "CoatRings$Days" 25 Y_Rows_at.1 ∈ lw_tbl ∧ goodWord (Cond.methodLink "CoatRings$Days" 25 Y_Rows_at.1) = true := ⟨tb2 29 rfl, rfl⟩
theorem k_Days_29 : Cond.methodLink "CoatRings$Days" 29 Y_Rows_swapped.1 ∈ lw_tbl ∧ goodWord (Cond.methodLink "CoatRings$Days" 29 Y_Rows_swapped.1) = true := ⟨tb2 32 rfl, rfl⟩
theorem k_Rows_16 : Cond.methodLink "CoatRings$Rows" 16 Y_Rows_at.1 ∈ lw_tbl ∧ goodWord (Cond.methodLink "CoatRings$Rows" 16 Y_Rows_at.1) = true := ⟨tb2 35 rfl, rfl⟩
theorem k_Rows_12 : Cond.methodLink "CoatRings$Rows" 12 Y_Rows_with.1 ∈ lw_tbl ∧ goodWord (Cond.methodLink "CoatRings$Rows" 12 Y_Rows_with.1) = true := ⟨tb2 36 rfl, rfl⟩
theorem k_Rail_3 : Cond.methodLink "CoatRings$Rail" 3 objectInit ∈ lw_tbl ∧ goodWord (Cond.methodLink "CoatRings$Rail" 3 objectInit) = true := ⟨tb2 63 rfl, rfl⟩
theorem k_Law_13 : Cond.methodLink "CoatRingsLaw" 13 Y_Coat_person.1 ∈ lw_tbl ∧ goodWord (Cond.methodLink "CoatRingsLaw" 13 Y_Coat_person.1) = true := ⟨tb2 126 rfl, rfl⟩
theorem k_Coat_74 : Cond.methodLink "CoatRings" 74 Y_Coat_isPlace.1 ∈ lw_tbl ∧ goodWord (Cond.methodLink "CoatRings" 74 Y_Coat_isPlace.1) = true := ⟨tb2 130 rfl, rfl⟩
theorem k_Coat_78 : Cond.methodLink "CoatRings" 78 Y_Coat_isMarks.1 ∈ lw_tbl ∧ goodWord (Cond.methodLink "CoatRings" 78 Y_Coat_isMarks.1) = true := ⟨tb2 133 rfl, rfl⟩
theorem k_Coat_86 : Cond.methodLink "CoatRings" 86 Y_Night_comes.1 ∈ lw_tbl ∧ goodWord (Cond.methodLink "CoatRings" 86 Y_Night_comes.1) = true := ⟨tb2 136 rfl, rfl⟩
theorem k_Coat_90 : Cond.methodLink "CoatRings" 90 Y_Coat_changed.1 ∈ lw_tbl ∧ goodWord (Cond.methodLink "CoatRings" 90 Y_Coat_changed.1) = true := ⟨tb2 140 rfl, rfl⟩
theorem k_Law_18 : Cond.methodLink "CoatRingsLaw" 18 Y_Coat_told.1 ∈ lw_tbl ∧ goodWord (Cond.methodLink "CoatRingsLaw" 18 Y_Coat_told.1) = true := ⟨tb2 144 rfl, rfl⟩
theorem k_Coat_93 : Cond.methodLink "CoatRings" 93 Y_Night_isPerson.1 ∈ lw_tbl ∧ goodWord (Cond.methodLink "CoatRings" 93 Y_Night_isPerson.1) = true := ⟨tb2 148 rfl, rfl⟩
theorem k_Coat_99 : Cond.methodLink "CoatRings" 99 Y_Rows_ring.1 ∈ lw_tbl ∧ goodWord (Cond.methodLink "CoatRings" 99 Y_Rows_ring.1) = true := ⟨tb2 152 rfl, rfl⟩
theorem k_Coat_114 : Cond.methodLink "CoatRings" 114 Y_Rows_at.1 ∈ lw_tbl ∧ goodWord (Cond.methodLink "CoatRings" 114 Y_Rows_at.1) = true := ⟨tb2 155 rfl, rfl⟩
theorem k_Coat_117 : Cond.methodLink "CoatRings" 117 Y_Rows_placeOf.1 ∈ lw_tbl ∧ goodWord (Cond.methodLink "CoatRings" 117 Y_Rows_placeOf.1) = true := ⟨tb2 156 rfl, rfl⟩
theorem k_Coat_123 : Cond.methodLink "CoatRings" 123 Y_JI_numberOfTrailingZeros.1 ∈ lw_tbl ∧ goodWord (Cond.methodLink "CoatRings" 123 Y_JI_numberOfTrailingZeros.1) = true := ⟨tb2 159 rfl, rfl⟩
theorem k_Coat_129 : Cond.methodLink "CoatRings" 129 Y_JI_bitCount.1 ∈ lw_tbl ∧ goodWord (Cond.methodLink "CoatRings" 129 Y_JI_bitCount.1) = true := ⟨tb2 163 rfl, rfl⟩
theorem k_Law_23 : Cond.methodLink "CoatRingsLaw" 23 Y_Coat_marks.1 ∈ lw_tbl ∧ goodWord (Cond.methodLink "CoatRingsLaw" 23 Y_Coat_marks.1) = true := ⟨tb2 169 rfl, rfl⟩
theorem k_Law_27 : Cond.methodLink "CoatRingsLaw" 27 Y_Coat_likes.1 ∈ lw_tbl ∧ goodWord (Cond.methodLink "CoatRingsLaw" 27 Y_Coat_likes.1) = true := ⟨tb2 173 rfl, rfl⟩
theorem k_Coat_132 : Cond.methodLink "CoatRings" 132 Y_Night_liking.1 ∈ lw_tbl ∧ goodWord (Cond.methodLink "CoatRings" 132 Y_Night_liking.1) = true := ⟨tb2 177 rfl, rfl⟩
theorem k_Law_31 : Cond.methodLink "CoatRingsLaw" 31 Y_Coat_wont.1 ∈ lw_tbl ∧ goodWord (Cond.methodLink "CoatRingsLaw" 31 Y_Coat_wont.1) = true := ⟨tb2 181 rfl, rfl⟩
theorem k_Law_36 : Cond.methodLink "CoatRingsLaw" 36 Y_Coat_table.1 ∈ lw_tbl ∧ goodWord (Cond.methodLink "CoatRingsLaw" 36 Y_Coat_table.1) = true := ⟨tb2 185 rfl, rfl⟩
theorem k_Coat_138 : Cond.methodLink "CoatRings" 138 Y_Coat_take.1 ∈ lw_tbl ∧ goodWord (Cond.methodLink "CoatRings" 138 Y_Coat_take.1) = true := ⟨tb2 189 rfl, rfl⟩
theorem k_Coat_327 : Cond.methodLink "CoatRings" 327 Y_Sheets_faultOf.1 ∈ lw_tbl ∧ goodWord (Cond.methodLink "CoatRings" 327 Y_Sheets_faultOf.1) = true := ⟨tb2 193 rfl, rfl⟩
theorem k_Sheets_29 : Cond.methodLink "CoatRings$Sheets" 29 Y_Sheets_isSheet.1 ∈ lw_tbl ∧ goodWord (Cond.methodLink "CoatRings$Sheets" 29 Y_Sheets_isSheet.1) = true := ⟨tb2 197 rfl, rfl⟩
theorem k_Sheets_33 : Cond.methodLink "CoatRings$Sheets" 33 Y_Sheets_isLane.1 ∈ lw_tbl ∧ goodWord (Cond.methodLink "CoatRings$Sheets" 33 Y_Sheets_isLane.1) = true := ⟨tb2 200 rfl, rfl⟩
theorem k_Sheets_36 : Cond.methodLink "CoatRings$Sheets" 36 Y_Sheets_holds.1 ∈ lw_tbl ∧ goodWord (Cond.methodLink "CoatRings$Sheets" 36 Y_Sheets_holds.1) = true := ⟨tb2 203 rfl, rfl⟩
theorem k_Coat_342 : Cond.methodLink "CoatRings" 342 arraycopyName ∈ lw_tbl ∧ goodWord (Cond.methodLink "CoatRings" 342 arraycopyName) = true := ⟨tb2 207 rfl, rfl⟩
theorem k_Coat_250 : Cond.methodLink "CoatRings" 250 Y_Night_all.1 ∈ lw_tbl ∧ goodWord (Cond.methodLink "CoatRings" 250 Y_Night_all.1) = true := ⟨tb2 210 rfl, rfl⟩
theorem k_Coat_142 : Cond.methodLink "CoatRings" 142 Y_Rows_packed.1 ∈ lw_tbl ∧ goodWord (Cond.methodLink "CoatRings" 142 Y_Rows_packed.1) = true := ⟨tb2 214 rfl, rfl⟩
theorem k_Coat_146 : Cond.methodLink "CoatRings" 146 Y_Night_astray.1 ∈ lw_tbl ∧ goodWord (Cond.methodLink "CoatRings" 146 Y_Night_astray.1) = true := ⟨tb2 218 rfl, rfl⟩
theorem k_Night_85 : Cond.methodLink "CoatRings$Night" 85 Y_Rows_at.1 ∈ lw_tbl ∧ goodWord (Cond.methodLink "CoatRings$Night" 85 Y_Rows_at.1) = true := ⟨tb2 222 rfl, rfl⟩
theorem k_Law_40 : Cond.methodLink "CoatRingsLaw" 40 Y_Coat_inn.1 ∈ lw_tbl ∧ goodWord (Cond.methodLink "CoatRingsLaw" 40 Y_Coat_inn.1) = true := ⟨tb2 223 rfl, rfl⟩
theorem k_Law_44 : Cond.methodLink "CoatRingsLaw" 44 Y_Coat_set.1 ∈ lw_tbl ∧ goodWord (Cond.methodLink "CoatRingsLaw" 44 Y_Coat_set.1) = true := ⟨tb2 227 rfl, rfl⟩
theorem k_Law_48 : Cond.methodLink "CoatRingsLaw" 48 Y_Coat_count.1 ∈ lw_tbl ∧ goodWord (Cond.methodLink "CoatRingsLaw" 48 Y_Coat_count.1) = true := ⟨tb2 231 rfl, rfl⟩
theorem k_Coat_165 : Cond.methodLink "CoatRings" 165 Y_Night_rings.1 ∈ lw_tbl ∧ goodWord (Cond.methodLink "CoatRings" 165 Y_Night_rings.1) = true := ⟨tb2 235 rfl, rfl⟩
theorem k_Night_92 : Cond.methodLink "CoatRings$Night" 92 Y_Rows_ring.1 ∈ lw_tbl ∧ goodWord (Cond.methodLink "CoatRings$Night" 92 Y_Rows_ring.1) = true := ⟨tb2 239 rfl, rfl⟩
theorem k_Night_95 : Cond.methodLink "CoatRings$Night" 95 Y_Rows_isLeast.1 ∈ lw_tbl ∧ goodWord (Cond.methodLink "CoatRings$Night" 95 Y_Rows_isLeast.1) = true := ⟨tb3 0 rfl, rfl⟩
theorem k_Rows_20 : Cond.methodLink "CoatRings$Rows" 20 Y_JI_numberOfTrailingZeros.1 ∈ lw_tbl ∧ goodWord (Cond.methodLink "CoatRings$Rows" 20 Y_JI_numberOfTrailingZeros.1) = true := ⟨tb3 3 rfl, rfl⟩
theorem k_Night_99 : Cond.methodLink "CoatRings$Night" 99 Y_JI_bitCount.1 ∈ lw_tbl ∧ goodWord (Cond.methodLink "CoatRings$Night" 99 Y_JI_bitCount.1) = true := ⟨tb3 4 rfl, rfl⟩
theorem k_Coat_168 : Cond.methodLink "CoatRings" 168 Y_Night_greatestRing.1 ∈ lw_tbl ∧ goodWord (Cond.methodLink "CoatRings" 168 Y_Night_greatestRing.1) = true := ⟨tb3 5 rfl, rfl⟩
theorem k_Night_104 : Cond.methodLink "CoatRings$Night" 104 Lib.Math.max.name ∈ lw_tbl ∧ goodWord (Cond.methodLink "CoatRings$Night" 104 Lib.Math.max.name) = true := ⟨tb3 9 rfl, rfl⟩
theorem k_Law_53 : Cond.methodLink "CoatRingsLaw" 53 Y_Coat_meet.1 ∈ lw_tbl ∧ goodWord (Cond.methodLink "CoatRingsLaw" 53 Y_Coat_meet.1) = true := ⟨tb3 12 rfl, rfl⟩
theorem k_Coat_180 : Cond.methodLink "CoatRings" 180 Y_Meetings_there.1 ∈ lw_tbl ∧ goodWord (Cond.methodLink "CoatRings" 180 Y_Meetings_there.1) = true := ⟨tb3 16 rfl, rfl⟩
theorem k_Meetings_9 : Cond.methodLink "CoatRings$Meetings" 9 Y_Meetings_pairThere.1 ∈ lw_tbl ∧ goodWord (Cond.methodLink "CoatRings$Meetings" 9 Y_Meetings_pairThere.1) = true := ⟨tb3 19 rfl, rfl⟩
theorem k_Meetings_13 : Cond.methodLink "CoatRings$Meetings" 13 Y_Meetings_innThere.1 ∈ lw_tbl ∧ goodWord (Cond.methodLink "CoatRings$Meetings" 13 Y_Meetings_innThere.1) = true := ⟨tb3 22 rfl, rfl⟩
theorem k_Meetings_26 : Cond.methodLink "CoatRings$Meetings" 26 Y_JI_bitCount.1 ∈ lw_tbl ∧ goodWord (Cond.methodLink "CoatRings$Meetings" 26 Y_JI_bitCount.1) = true := ⟨tb3 25 rfl, rfl⟩
theorem k_Meetings_35 : Cond.methodLink "CoatRings$Meetings" 35 Y_Night_all.1 ∈ lw_tbl ∧ goodWord (Cond.methodLink "CoatRings$Meetings" 35 Y_Night_all.1) = true := ⟨tb3 26 rfl, rfl⟩
theorem k_Meetings_16 : Cond.methodLink "CoatRings$Meetings" 16 Y_Meetings_postThere.1 ∈ lw_tbl ∧ goodWord (Cond.methodLink "CoatRings$Meetings" 16 Y_Meetings_postThere.1) = true := ⟨tb3 27 rfl, rfl⟩
theorem k_Meetings_45 : Cond.methodLink "CoatRings$Meetings" 45 Y_Rows_ring.1 ∈ lw_tbl ∧ goodWord (Cond.methodLink "CoatRings$Meetings" 45 Y_Rows_ring.1) = true := ⟨tb3 30 rfl, rfl⟩
theorem k_Meetings_51 : Cond.methodLink "CoatRings$Meetings" 51 Y_Rows_isLeast.1 ∈ lw_tbl ∧ goodWord (Cond.methodLink "CoatRings$Meetings" 51 Y_Rows_isLeast.1) = true := ⟨tb3 31 rfl, rfl⟩
theorem k_Coat_186 : Cond.methodLink "CoatRings" 186 Y_Meetings_milesOf.1 ∈ lw_tbl ∧ goodWord (Cond.methodLink "CoatRings" 186 Y_Meetings_milesOf.1) = true := ⟨tb3 32 rfl, rfl⟩
theorem k_Meetings_55 : Cond.methodLink "CoatRings$Meetings" 55 Y_Night_far.1 ∈ lw_tbl ∧ goodWord (Cond.methodLink "CoatRings$Meetings" 55 Y_Night_far.1) = true := ⟨tb3 35 rfl, rfl⟩
theorem k_Night_79 : Cond.methodLink "CoatRings$Night" 79 Lib.Math.abs.name ∈ lw_tbl ∧ goodWord (Cond.methodLink "CoatRings$Night" 79 Lib.Math.abs.name) = true := ⟨tb3 39 rfl, rfl⟩
theorem k_Meetings_58 : Cond.methodLink "CoatRings$Meetings" 58 Y_Night_farToInn.1 ∈ lw_tbl ∧ goodWord (Cond.methodLink "CoatRings$Meetings" 58 Y_Night_farToInn.1) = true := ⟨tb3 42 rfl, rfl⟩
theorem k_Meetings_64 : Cond.methodLink "CoatRings$Meetings" 64 Y_Night_farFromOwners.1 ∈ lw_tbl ∧ goodWord (Cond.methodLink "CoatRings$Meetings" 64 Y_Night_farFromOwners.1) = true := ⟨tb3 46 rfl, rfl⟩
theorem k_Night_89 : Cond.methodLink "CoatRings$Night" 89 Y_Night_far.1 ∈ lw_tbl ∧ goodWord (Cond.methodLink "CoatRings$Night" 89 Y_Night_far.1) = true := ⟨tb3 50 rfl, rfl⟩
theorem k_Coat_190 : Cond.methodLink "CoatRings" 190 Y_Meetings_after.1 ∈ lw_tbl ∧ goodWord (Cond.methodLink "CoatRings" 190 Y_Meetings_after.1) = true := ⟨tb3 51 rfl, rfl⟩
theorem k_Meetings_67 : Cond.methodLink "CoatRings$Meetings" 67 Y_Rows_swapped.1 ∈ lw_tbl ∧ goodWord (Cond.methodLink "CoatRings$Meetings" 67 Y_Rows_swapped.1) = true := ⟨tb3 54 rfl, rfl⟩
theorem k_Meetings_71 : Cond.methodLink "CoatRings$Meetings" 71 Y_Rows_settled.1 ∈ lw_tbl ∧ goodWord (Cond.methodLink "CoatRings$Meetings" 71 Y_Rows_settled.1) = true := ⟨tb3 55 rfl, rfl⟩
theorem k_Law_57 : Cond.methodLink "CoatRingsLaw" 57 Y_Coat_well.1 ∈ lw_tbl ∧ goodWord (Cond.methodLink "CoatRingsLaw" 57 Y_Coat_well.1) = true := ⟨tb3 58 rfl, rfl⟩
theorem k_Coat_193 : Cond.methodLink "CoatRings" 193 Y_Night_bound.1 ∈ lw_tbl ∧ goodWord (Cond.methodLink "CoatRings" 193 Y_Night_bound.1) = true := ⟨tb3 62 rfl, rfl⟩
theorem k_Night_107 : Cond.methodLink "CoatRings$Night" 107 Y_Night_all.1 ∈ lw_tbl ∧ goodWord (Cond.methodLink "CoatRings$Night" 107 Y_Night_all.1) = true := ⟨tb3 66 rfl, rfl⟩
theorem k_Night_111 : Cond.methodLink "CoatRings$Night" 111 Y_Night_withheld.1 ∈ lw_tbl ∧ goodWord (Cond.methodLink "CoatRings$Night" 111 Y_Night_withheld.1) = true := ⟨tb3 67 rfl, rfl⟩
theorem k_Coat_196 : Cond.methodLink "CoatRings" 196 Y_Rows_areOwn.1 ∈ lw_tbl ∧ goodWord (Cond.methodLink "CoatRings" 196 Y_Rows_areOwn.1) = true := ⟨tb3 71 rfl, rfl⟩
theorem k_Law_62 : Cond.methodLink "CoatRingsLaw" 62 Y_Coat_fewest.1 ∈ lw_tbl ∧ goodWord (Cond.methodLink "CoatRingsLaw" 62 Y_Coat_fewest.1) = true := ⟨tb3 74 rfl, rfl⟩
theorem k_Coat_199 : Cond.methodLink "CoatRings" 199 Y_Night_pairsToWell.1 ∈ lw_tbl ∧ goodWord (Cond.methodLink "CoatRings" 199 Y_Night_pairsToWell.1) = true := ⟨tb3 78 rfl, rfl⟩
theorem k_Law_66 : Cond.methodLink "CoatRingsLaw" 66 Y_Coat_plan.1 ∈ lw_tbl ∧ goodWord (Cond.methodLink "CoatRingsLaw" 66 Y_Coat_plan.1) = true := ⟨tb3 82 rfl, rfl⟩
theorem k_Coat_206 : Cond.methodLink "CoatRings" 206 Y_Planner_reckon.1 ∈ lw_tbl ∧ goodWord (Cond.methodLink "CoatRings" 206 Y_Planner_reckon.1) = true := ⟨tb3 86 rfl, rfl⟩
theorem k_Planner_44 : Cond.methodLink "CoatRings$Planner" 44 Y_Night_bound.1 ∈ lw_tbl ∧ goodWord (Cond.methodLink "CoatRings$Planner" 44 Y_Night_bound.1) = true := ⟨tb3 90 rfl, rfl⟩
theorem k_Planner_60 : Cond.methodLink "CoatRings$Planner" 60 Y_JA_fill.1 ∈ lw_tbl ∧ goodWord (Cond.methodLink "CoatRings$Planner" 60 Y_JA_fill.1) = true := ⟨tb3 92 rfl, rfl⟩
theorem k_Planner_69 : Cond.methodLink "CoatRings$Planner" 69 Y_Planner_chooseInns.1 ∈ lw_tbl ∧ goodWord (Cond.methodLink "CoatRings$Planner" 69 Y_Planner_chooseInns.1) = true := ⟨tb3 93 rfl, rfl⟩
theorem k_Planner_111 : Cond.methodLink "CoatRings$Planner" 111 Y_Night_all.1 ∈ lw_tbl ∧ goodWord (Cond.methodLink "CoatRings$Planner" 111 Y_Night_all.1) = true := ⟨tb3 97 rfl, rfl⟩
theorem k_Planner_114 : Cond.methodLink "CoatRings$Planner" 114 Y_JI_bitCount.1 ∈ lw_tbl ∧ goodWord (Cond.methodLink "CoatRings$Planner" 114 Y_JI_bitCount.1) = true := ⟨tb3 98 rfl, rfl⟩
theorem k_Planner_129 : Cond.methodLink "CoatRings$Planner" 129 Y_Night_farToInn.1 ∈ lw_tbl ∧ goodWord (Cond.methodLink "CoatRings$Planner" 129 Y_Night_farToInn.1) = true := ⟨tb3 99 rfl, rfl⟩
theorem k_Planner_133 : Cond.methodLink "CoatRings$Planner" 133 Y_Meetings_atInn.1 ∈ lw_tbl ∧ goodWord (Cond.methodLink "CoatRings$Planner" 133 Y_Meetings_atInn.1) = true := ⟨tb3 100 rfl, rfl⟩
theorem k_Planner_75 : Cond.methodLink "CoatRings$Planner" 75 Y_Planner_reach.1 ∈ lw_tbl ∧ goodWord (Cond.methodLink "CoatRings$Planner" 75 Y_Planner_reach.1) = true := ⟨tb3 103 rfl, rfl⟩
theorem k_Planner_169 : Cond.methodLink "CoatRings$Planner" 169 Y_Rows_rank.1 ∈ lw_tbl ∧ goodWord (Cond.methodLink "CoatRings$Planner" 169 Y_Rows_rank.1) = true := ⟨tb3 107 rfl, rfl⟩
theorem k_Planner_163 : Cond.methodLink "CoatRings$Planner" 163 Y_Night_farFromOwners.1 ∈ lw_tbl ∧ goodWord (Cond.methodLink "CoatRings$Planner" 163 Y_Night_farFromOwners.1) = true := ⟨tb3 110 rfl, rfl⟩
theorem k_Planner_172 : Cond.methodLink "CoatRings$Planner" 172 Y_Heap_add.1 ∈ lw_tbl ∧ goodWord (Cond.methodLink "CoatRings$Planner" 172 Y_Heap_add.1) = true := ⟨tb3 111 rfl, rfl⟩
theorem k_Heap_25 : Cond.methodLink "CoatRings$Heap" 25 Y_Heap_rise.1 ∈ lw_tbl ∧ goodWord (Cond.methodLink "CoatRings$Heap" 25 Y_Heap_rise.1) = true := ⟨tb3 115 rfl, rfl⟩
theorem k_Heap_33 : Cond.methodLink "CoatRings$Heap" 33 Y_Heap_put.1 ∈ lw_tbl ∧ goodWord (Cond.methodLink "CoatRings$Heap" 33 Y_Heap_put.1) = true := ⟨tb3 119 rfl, rfl⟩
theorem k_Planner_176 : Cond.methodLink "CoatRings$Planner" 176 Y_Heap_lower.1 ∈ lw_tbl ∧ goodWord (Cond.methodLink "CoatRings$Planner" 176 Y_Heap_lower.1) = true := ⟨tb3 123 rfl, rfl⟩
theorem k_Planner_179 : Cond.methodLink "CoatRings$Planner" 179 Y_Planner_isEarlier.1 ∈ lw_tbl ∧ goodWord (Cond.methodLink "CoatRings$Planner" 179 Y_Planner_isEarlier.1) = true := ⟨tb3 127 rfl, rfl⟩
theorem k_Planner_85 : Cond.methodLink "CoatRings$Planner" 85 Y_Rows_areOwn.1 ∈ lw_tbl ∧ goodWord (Cond.methodLink "CoatRings$Planner" 85 Y_Rows_areOwn.1) = true := ⟨tb3 131 rfl, rfl⟩
theorem k_Planner_79 : Cond.methodLink "CoatRings$Planner" 79 Y_Heap_take.1 ∈ lw_tbl ∧ goodWord (Cond.methodLink "CoatRings$Planner" 79 Y_Heap_take.1) = true := ⟨tb3 132 rfl, rfl⟩
theorem k_Heap_29 : Cond.methodLink "CoatRings$Heap" 29 Y_Heap_sink.1 ∈ lw_tbl ∧ goodWord (Cond.methodLink "CoatRings$Heap" 29 Y_Heap_sink.1) = true := ⟨tb3 136 rfl, rfl⟩
theorem k_Planner_91 : Cond.methodLink "CoatRings$Planner" 91 Y_Planner_arrive.1 ∈ lw_tbl ∧ goodWord (Cond.methodLink "CoatRings$Planner" 91 Y_Planner_arrive.1) = true := ⟨tb3 140 rfl, rfl⟩
theorem k_Planner_95 : Cond.methodLink "CoatRings$Planner" 95 Y_Planner_goByPairs.1 ∈ lw_tbl ∧ goodWord (Cond.methodLink "CoatRings$Planner" 95 Y_Planner_goByPairs.1) = true := ⟨tb3 144 rfl, rfl⟩
theorem k_Planner_141 : Cond.methodLink "CoatRings$Planner" 141 Y_Night_far.1 ∈ lw_tbl ∧ goodWord (Cond.methodLink "CoatRings$Planner" 141 Y_Night_far.1) = true := ⟨tb3 148 rfl, rfl⟩
theorem k_Planner_144 : Cond.methodLink "CoatRings$Planner" 144 Y_Meetings_pair.1 ∈ lw_tbl ∧ goodWord (Cond.methodLink "CoatRings$Planner" 144 Y_Meetings_pair.1) = true := ⟨tb3 149 rfl, rfl⟩
theorem k_Planner_147 : Cond.methodLink "CoatRings$Planner" 147 Y_Rows_swapped.1 ∈ lw_tbl ∧ goodWord (Cond.methodLink "CoatRings$Planner" 147 Y_Rows_swapped.1) = true := ⟨tb3 152 rfl, rfl⟩
theorem k_Planner_98 : Cond.methodLink "CoatRings$Planner" 98 Y_Planner_goByInns.1 ∈ lw_tbl ∧ goodWord (Cond.methodLink "CoatRings$Planner" 98 Y_Planner_goByInns.1) = true := ⟨tb3 153 rfl, rfl⟩
theorem k_Planner_151 : Cond.methodLink "CoatRings$Planner" 151 Y_Rows_settled.1 ∈ lw_tbl ∧ goodWord (Cond.methodLink "CoatRings$Planner" 151 Y_Rows_settled.1) = true := ⟨tb3 157 rfl, rfl⟩
theorem k_Planner_101 : Cond.methodLink "CoatRings$Planner" 101 Y_Planner_goByPosts.1 ∈ lw_tbl ∧ goodWord (Cond.methodLink "CoatRings$Planner" 101 Y_Planner_goByPosts.1) = true := ⟨tb3 158 rfl, rfl⟩
theorem k_Planner_154 : Cond.methodLink "CoatRings$Planner" 154 Y_Rows_ring.1 ∈ lw_tbl ∧ goodWord (Cond.methodLink "CoatRings$Planner" 154 Y_Rows_ring.1) = true := ⟨tb3 162 rfl, rfl⟩
theorem k_Planner_157 : Cond.methodLink "CoatRings$Planner" 157 Y_Rows_isLeast.1 ∈ lw_tbl ∧ goodWord (Cond.methodLink "CoatRings$Planner" 157 Y_Rows_isLeast.1) = true := ⟨tb3 163 rfl, rfl⟩
theorem k_Planner_166 : Cond.methodLink "CoatRings$Planner" 166 Y_Meetings_post.1 ∈ lw_tbl ∧ goodWord (Cond.methodLink "CoatRings$Planner" 166 Y_Meetings_post.1) = true := ⟨tb3 164 rfl, rfl⟩
theorem k_Planner_104 : Cond.methodLink "CoatRings$Planner" 104 Y_Planner_tell.1 ∈ lw_tbl ∧ goodWord (Cond.methodLink "CoatRings$Planner" 104 Y_Planner_tell.1) = true := ⟨tb3 167 rfl, rfl⟩
theorem k_Law_70 : Cond.methodLink "CoatRingsLaw" 70 Y_Coat_atOnce.1 ∈ lw_tbl ∧ goodWord (Cond.methodLink "CoatRingsLaw" 70 Y_Coat_atOnce.1) = true := ⟨tb3 171 rfl, rfl⟩
theorem k_Coat_216 : Cond.methodLink "CoatRings" 216 Y_Days_reckon.1 ∈ lw_tbl ∧ goodWord (Cond.methodLink "CoatRings" 216 Y_Days_reckon.1) = true := ⟨tb3 175 rfl, rfl⟩
theorem k_Days_33 : Cond.methodLink "CoatRings$Days" 33 Y_Night_all.1 ∈ lw_tbl ∧ goodWord (Cond.methodLink "CoatRings$Days" 33 Y_Night_all.1) = true := ⟨tb3 179 rfl, rfl⟩
theorem k_Days_43 : Cond.methodLink "CoatRings$Days" 43 Y_Rows_areOwn.1 ∈ lw_tbl ∧ goodWord (Cond.methodLink "CoatRings$Days" 43 Y_Rows_areOwn.1) = true := ⟨tb3 180 rfl, rfl⟩
theorem k_Days_47 : Cond.methodLink "CoatRings$Days" 47 Y_Night_farFromOwners.1 ∈ lw_tbl ∧ goodWord (Cond.methodLink "CoatRings$Days" 47 Y_Night_farFromOwners.1) = true := ⟨tb3 181 rfl, rfl⟩
theorem k_Days_50 : Cond.methodLink "CoatRings$Days" 50 Y_Night_bound.1 ∈ lw_tbl ∧ goodWord (Cond.methodLink "CoatRings$Days" 50 Y_Night_bound.1) = true := ⟨tb3 182 rfl, rfl⟩
theorem k_Days_63 : Cond.methodLink "CoatRings$Days" 63 Y_Days_lessen.1 ∈ lw_tbl ∧ goodWord (Cond.methodLink "CoatRings$Days" 63 Y_Days_lessen.1) = true := ⟨tb3 184 rfl, rfl⟩
theorem k_Days_71 : Cond.methodLink "CoatRings$Days" 71 Y_Days_isWell.1 ∈ lw_tbl ∧ goodWord (Cond.methodLink "CoatRings$Days" 71 Y_Days_isWell.1) = true := ⟨tb3 188 rfl, rfl⟩
theorem k_Law_76 : Cond.methodLink "CoatRingsLaw" 76 Y_Coat_type.1 ∈ lw_tbl ∧ goodWord (Cond.methodLink "CoatRingsLaw" 76 Y_Coat_type.1) = true := ⟨tb3 191 rfl, rfl⟩
theorem k_Coat_220 : Cond.methodLink "CoatRings" 220 Y_Coat_byteOf.1 ∈ lw_tbl ∧ goodWord (Cond.methodLink "CoatRings" 220 Y_Coat_byteOf.1) = true := ⟨tb3 195 rfl, rfl⟩
theorem k_Coat_224 : Cond.methodLink "CoatRings" 224 Y_Tape_isSign.1 ∈ lw_tbl ∧ goodWord (Cond.methodLink "CoatRings" 224 Y_Tape_isSign.1) = true := ⟨tb3 198 rfl, rfl⟩
theorem k_Coat_227 : Cond.methodLink "CoatRings" 227 Y_Tape_room.1 ∈ lw_tbl ∧ goodWord (Cond.methodLink "CoatRings" 227 Y_Tape_room.1) = true := ⟨tb3 201 rfl, rfl⟩
theorem k_Coat_230 : Cond.methodLink "CoatRings" 230 Y_Tape_put.1 ∈ lw_tbl ∧ goodWord (Cond.methodLink "CoatRings" 230 Y_Tape_put.1) = true := ⟨tb3 205 rfl, rfl⟩
theorem k_Law_81 : Cond.methodLink "CoatRingsLaw" 81 Y_Coat_facts.1 ∈ lw_tbl ∧ goodWord (Cond.methodLink "CoatRingsLaw" 81 Y_Coat_facts.1) = true := ⟨tb3 209 rfl, rfl⟩
theorem k_Coat_237 : Cond.methodLink "CoatRings" 237 Y_Tape_read.1 ∈ lw_tbl ∧ goodWord (Cond.methodLink "CoatRings" 237 Y_Tape_read.1) = true := ⟨tb3 213 rfl, rfl⟩
theorem k_Tape_27 : Cond.methodLink "CoatRings$Tape" 27 arraycopyName ∈ lw_tbl ∧ goodWord (Cond.methodLink "CoatRings$Tape" 27 arraycopyName) = true := ⟨tb3 217 rfl, rfl⟩
theorem k_Tape_36 : Cond.methodLink "CoatRings$Tape" 36 Y_Tape_readClauses.1 ∈ lw_tbl ∧ goodWord (Cond.methodLink "CoatRings$Tape" 36 Y_Tape_readClauses.1) = true := ⟨tb3 218 rfl, rfl⟩
theorem k_Tape_40 : Cond.methodLink "CoatRings$Tape" 40 Y_Tape_readClause.1 ∈ lw_tbl ∧ goodWord (Cond.methodLink "CoatRings$Tape" 40 Y_Tape_readClause.1) = true := ⟨tb3 222 rfl, rfl⟩
theorem k_Tape_44 : Cond.methodLink "CoatRings$Tape" 44 Y_Tape_look.1 ∈ lw_tbl ∧ goodWord (Cond.methodLink "CoatRings$Tape" 44 Y_Tape_look.1) = true := ⟨tb3 226 rfl, rfl⟩
theorem k_Tape_48 : Cond.methodLink "CoatRings$Tape" 48 Y_Night_isPerson.1 ∈ lw_tbl ∧ goodWord (Cond.methodLink "CoatRings$Tape" 48 Y_Night_isPerson.1) = true := ⟨tb3 230 rfl, rfl⟩
theorem k_Tape_52 : Cond.methodLink "CoatRings$Tape" 52 Y_Night_marked.1 ∈ lw_tbl ∧ goodWord (Cond.methodLink "CoatRings$Tape" 52 Y_Night_marked.1) = true := ⟨tb3 231 rfl, rfl⟩
theorem k_Law_85 : Cond.methodLink "CoatRingsLaw" 85 Y_Coat_forget.1 ∈ lw_tbl ∧ goodWord (Cond.methodLink "CoatRingsLaw" 85 Y_Coat_forget.1) = true := ⟨tb3 235 rfl, rfl⟩
theorem k_Coat_244 : Cond.methodLink "CoatRings" 244 Y_JA_fill.1 ∈ lw_tbl ∧ goodWord (Cond.methodLink "CoatRings" 244 Y_JA_fill.1) = true := ⟨tb3 239 rfl, rfl⟩
theorem k_Law_89 : Cond.methodLink "CoatRingsLaw" 89 Y_Coat_may.1 ∈ lw_tbl ∧ goodWord (Cond.methodLink "CoatRingsLaw" 89 Y_Coat_may.1) = true := ⟨tb4 0 rfl, rfl⟩
theorem k_Coat_253 : Cond.methodLink "CoatRings" 253 Y_Givings_possible.1 ∈ lw_tbl ∧ goodWord (Cond.methodLink "CoatRings" 253 Y_Givings_possible.1) = true := ⟨tb4 4 rfl, rfl⟩
theorem k_Givings_56 : Cond.methodLink "CoatRings$Givings" 56 Y_Givings_worldsWith.1 ∈ lw_tbl ∧ goodWord (Cond.methodLink "CoatRings$Givings" 56 Y_Givings_worldsWith.1) = true := ⟨tb4 8 rfl, rfl⟩
theorem k_Givings_39 : Cond.methodLink "CoatRings$Givings" 39 arraycopyName ∈ lw_tbl ∧ goodWord (Cond.methodLink "CoatRings$Givings" 39 arraycopyName) = true := ⟨tb4 12 rfl, rfl⟩
theorem k_Givings_45 : Cond.methodLink "CoatRings$Givings" 45 Y_Night_all.1 ∈ lw_tbl ∧ goodWord (Cond.methodLink "CoatRings$Givings" 45 Y_Night_all.1) = true := ⟨tb4 13 rfl, rfl⟩
theorem k_Givings_49 : Cond.methodLink "CoatRings$Givings" 49 Y_Givings_number.1 ∈ lw_tbl ∧ goodWord (Cond.methodLink "CoatRings$Givings" 49 Y_Givings_number.1) = true := ⟨tb4 14 rfl, rfl⟩
theorem k_Givings_18 : Cond.methodLink "CoatRings$Givings" 18 Y_JA_fill.1 ∈ lw_tbl ∧ goodWord (Cond.methodLink "CoatRings$Givings" 18 Y_JA_fill.1) = true := ⟨tb4 18 rfl, rfl⟩
theorem k_Givings_24 : Cond.methodLink "CoatRings$Givings" 24 Y_JI_bitCount.1 ∈ lw_tbl ∧ goodWord (Cond.methodLink "CoatRings$Givings" 24 Y_JI_bitCount.1) = true := ⟨tb4 19 rfl, rfl⟩
theorem k_Givings_30 : Cond.methodLink "CoatRings$Givings" 30 Y_Givings_giveOneMore.1 ∈ lw_tbl ∧ goodWord (Cond.methodLink "CoatRings$Givings" 30 Y_Givings_giveOneMore.1) = true := ⟨tb4 20 rfl, rfl⟩
theorem k_Law_93 : Cond.methodLink "CoatRingsLaw" 93 Y_Coat_worlds.1 ∈ lw_tbl ∧ goodWord (Cond.methodLink "CoatRingsLaw" 93 Y_Coat_worlds.1) = true := ⟨tb4 24 rfl, rfl⟩
theorem k_Coat_256 : Cond.methodLink "CoatRings" 256 Y_Givings_worldsOf.1 ∈ lw_tbl ∧ goodWord (Cond.methodLink "CoatRings" 256 Y_Givings_worldsOf.1) = true := ⟨tb4 28 rfl, rfl⟩
theorem k_Law_97 : Cond.methodLink "CoatRingsLaw" 97 Y_Coat_sure.1 ∈ lw_tbl ∧ goodWord (Cond.methodLink "CoatRingsLaw" 97 Y_Coat_sure.1) = true := ⟨tb4 32 rfl, rfl⟩
theorem k_Law_101 : Cond.methodLink "CoatRingsLaw" 101 Y_Coat_next.1 ∈ lw_tbl ∧ goodWord (Cond.methodLink "CoatRingsLaw" 101 Y_Coat_next.1) = true := ⟨tb4 36 rfl, rfl⟩
theorem k_Coat_259 : Cond.methodLink "CoatRings" 259 Y_Givings_leftAtWorst.1 ∈ lw_tbl ∧ goodWord (Cond.methodLink "CoatRings" 259 Y_Givings_leftAtWorst.1) = true := ⟨tb4 40 rfl, rfl⟩
theorem k_Givings_60 : Cond.methodLink "CoatRings$Givings" 60 Lib.Math.max.name ∈ lw_tbl ∧ goodWord (Cond.methodLink "CoatRings$Givings" 60 Lib.Math.max.name) = true := ⟨tb4 44 rfl, rfl⟩
theorem k_Law_105 : Cond.methodLink "CoatRingsLaw" 105 Y_Coat_explained.1 ∈ lw_tbl ∧ goodWord (Cond.methodLink "CoatRingsLaw" 105 Y_Coat_explained.1) = true := ⟨tb4 45 rfl, rfl⟩
theorem k_Coat_262 : Cond.methodLink "CoatRings" 262 Y_Coat_slipsOf.1 ∈ lw_tbl ∧ goodWord (Cond.methodLink "CoatRings" 262 Y_Coat_slipsOf.1) = true := ⟨tb4 49 rfl, rfl⟩
theorem k_Coat_348 : Cond.methodLink "CoatRings" 348 Y_Slips_init.1 ∈ lw_tbl ∧ goodWord (Cond.methodLink "CoatRings" 348 Y_Slips_init.1) = true := ⟨tb4 54 rfl, rfl⟩
theorem k_Slips_3 : Cond.methodLink "CoatRings$Slips" 3 objectInit ∈ lw_tbl ∧ goodWord (Cond.methodLink "CoatRings$Slips" 3 objectInit) = true := ⟨tb4 57 rfl, rfl⟩
theorem k_Coat_351 : Cond.methodLink "CoatRings" 351 Y_Slips_fill.1 ∈ lw_tbl ∧ goodWord (Cond.methodLink "CoatRings" 351 Y_Slips_fill.1) = true := ⟨tb4 81 rfl, rfl⟩
theorem k_Slips_51 : Cond.methodLink "CoatRings$Slips" 51 Y_Slips_gather.1 ∈ lw_tbl ∧ goodWord (Cond.methodLink "CoatRings$Slips" 51 Y_Slips_gather.1) = true := ⟨tb4 85 rfl, rfl⟩
theorem k_Slips_67 : Cond.methodLink "CoatRings$Slips" 67 Y_Slips_number.1 ∈ lw_tbl ∧ goodWord (Cond.methodLink "CoatRings$Slips" 67 Y_Slips_number.1) = true := ⟨tb4 89 rfl, rfl⟩
theorem k_Slips_70 : Cond.methodLink "CoatRings$Slips" 70 Y_Slips_targetsOf.1 ∈ lw_tbl ∧ goodWord (Cond.methodLink "CoatRings$Slips" 70 Y_Slips_targetsOf.1) = true := ⟨tb4 92 rfl, rfl⟩
theorem k_Slips_31 : Cond.methodLink "CoatRings$Slips" 31 Y_Rows_swapped.1 ∈ lw_tbl ∧ goodWord (Cond.methodLink "CoatRings$Slips" 31 Y_Rows_swapped.1) = true := ⟨tb4 96 rfl, rfl⟩
theorem k_Slips_35 : Cond.methodLink "CoatRings$Slips" 35 Y_Rows_with.1 ∈ lw_tbl ∧ goodWord (Cond.methodLink "CoatRings$Slips" 35 Y_Rows_with.1) = true := ⟨tb4 97 rfl, rfl⟩
theorem k_Slips_54 : Cond.methodLink "CoatRings$Slips" 54 Y_JA_fill.1 ∈ lw_tbl ∧ goodWord (Cond.methodLink "CoatRings$Slips" 54 Y_JA_fill.1) = true := ⟨tb4 98 rfl, rfl⟩
theorem k_Slips_60 : Cond.methodLink "CoatRings$Slips" 60 Y_Slips_spread.1 ∈ lw_tbl ∧ goodWord (Cond.methodLink "CoatRings$Slips" 60 Y_Slips_spread.1) = true := ⟨tb4 99 rfl, rfl⟩
theorem k_Slips_74 : Cond.methodLink "CoatRings$Slips" 74 Y_Rows_rank.1 ∈ lw_tbl ∧ goodWord (Cond.methodLink "CoatRings$Slips" 74 Y_Rows_rank.1) = true := ⟨tb4 103 rfl, rfl⟩
theorem k_Slips_77 : Cond.methodLink "CoatRings$Slips" 77 Y_Slips_done.1 ∈ lw_tbl ∧ goodWord (Cond.methodLink "CoatRings$Slips" 77 Y_Slips_done.1) = true := ⟨tb4 104 rfl, rfl⟩
theorem k_Coat_266 : Cond.methodLink "CoatRings" 266 Y_Slips_fewestTo.1 ∈ lw_tbl ∧ goodWord (Cond.methodLink "CoatRings" 266 Y_Slips_fewestTo.1) = true := ⟨tb4 107 rfl, rfl⟩
theorem k_Coat_269 : Cond.methodLink "CoatRings" 269 Y_Slips_waysTo.1 ∈ lw_tbl ∧ goodWord (Cond.methodLink "CoatRings" 269 Y_Slips_waysTo.1) = true := ⟨tb4 111 rfl, rfl⟩
theorem k_Coat_272 : Cond.methodLink "CoatRings" 272 Y_Slips_firstWayAt.1 ∈ lw_tbl ∧ goodWord (Cond.methodLink "CoatRings" 272 Y_Slips_firstWayAt.1) = true := ⟨tb4 115 rfl, rfl⟩
theorem k_Slips_80 : Cond.methodLink "CoatRings$Slips" 80 Y_Slips_firstTowards.1 ∈ lw_tbl ∧ goodWord (Cond.methodLink "CoatRings$Slips" 80 Y_Slips_firstTowards.1) = true := ⟨tb4 119 rfl, rfl⟩
theorem k_Slips_86 : Cond.methodLink "CoatRings$Slips" 86 Y_Slips_fewestTo.1 ∈ lw_tbl ∧ goodWord (Cond.methodLink "CoatRings$Slips" 86 Y_Slips_fewestTo.1) = true := ⟨tb4 123 rfl, rfl⟩
theorem k_Slips_83 : Cond.methodLink "CoatRings$Slips" 83 Y_Slips_renamed.1 ∈ lw_tbl ∧ goodWord (Cond.methodLink "CoatRings$Slips" 83 Y_Slips_renamed.1) = true := ⟨tb4 124 rfl, rfl⟩
theorem k_Slips_43 : Cond.methodLink "CoatRings$Slips" 43 Y_Rows_at.1 ∈ lw_tbl ∧ goodWord (Cond.methodLink "CoatRings$Slips" 43 Y_Rows_at.1) = true := ⟨tb4 127 rfl, rfl⟩
theorem k_Law_109 : Cond.methodLink "CoatRingsLaw" 109 Y_Coat_fear.1 ∈ lw_tbl ∧ goodWord (Cond.methodLink "CoatRingsLaw" 109 Y_Coat_fear.1) = true := ⟨tb4 128 rfl, rfl⟩
theorem k_Coat_278 : Cond.methodLink "CoatRings" 278 Y_Slips_number.1 ∈ lw_tbl ∧ goodWord (Cond.methodLink "CoatRings" 278 Y_Slips_number.1) = true := ⟨tb4 132 rfl, rfl⟩
theorem k_Law_113 : Cond.methodLink "CoatRingsLaw" 113 Y_Coat_harm.1 ∈ lw_tbl ∧ goodWord (Cond.methodLink "CoatRingsLaw" 113 Y_Coat_harm.1) = true := ⟨tb4 133 rfl, rfl⟩
theorem k_Coat_281 : Cond.methodLink "CoatRings" 281 Y_Slips_targetsOf.1 ∈ lw_tbl ∧ goodWord (Cond.methodLink "CoatRings" 281 Y_Slips_targetsOf.1) = true := ⟨tb4 137 rfl, rfl⟩
theorem k_Coat_284 : Cond.methodLink "CoatRings" 284 Y_Slips_harmOf.1 ∈ lw_tbl ∧ goodWord (Cond.methodLink "CoatRings" 284 Y_Slips_harmOf.1) = true := ⟨tb4 138 rfl, rfl⟩
theorem k_Slips_47 : Cond.methodLink "CoatRings$Slips" 47 Y_Night_far.1 ∈ lw_tbl ∧ goodWord (Cond.methodLink "CoatRings$Slips" 47 Y_Night_far.1) = true := ⟨tb4 141 rfl, rfl⟩
theorem k_Law_118 : Cond.methodLink "CoatRingsLaw" 118 Y_Coat_best.1 ∈ lw_tbl ∧ goodWord (Cond.methodLink "CoatRingsLaw" 118 Y_Coat_best.1) = true := ⟨tb4 142 rfl, rfl⟩
theorem k_Coat_289 : Cond.methodLink "CoatRings" 289 Y_Rail_reckon.1 ∈ lw_tbl ∧ goodWord (Cond.methodLink "CoatRings" 289 Y_Rail_reckon.1) = true := ⟨tb4 146 rfl, rfl⟩
theorem k_Rail_30 : Cond.methodLink "CoatRings$Rail" 30 Y_Slips_targetsOf.1 ∈ lw_tbl ∧ goodWord (Cond.methodLink "CoatRings$Rail" 30 Y_Slips_targetsOf.1) = true := ⟨tb4 150 rfl, rfl⟩
theorem k_Rail_43 : Cond.methodLink "CoatRings$Rail" 43 Y_Rail_weigh.1 ∈ lw_tbl ∧ goodWord (Cond.methodLink "CoatRings$Rail" 43 Y_Rail_weigh.1) = true := ⟨tb4 152 rfl, rfl⟩
theorem k_Rail_58 : Cond.methodLink "CoatRings$Rail" 58 Y_Slips_harmOf.1 ∈ lw_tbl ∧ goodWord (Cond.methodLink "CoatRings$Rail" 58 Y_Slips_harmOf.1) = true := ⟨tb4 156 rfl, rfl⟩
theorem k_Rail_62 : Cond.methodLink "CoatRings$Rail" 62 Lib.Math.max.name ∈ lw_tbl ∧ goodWord (Cond.methodLink "CoatRings$Rail" 62 Lib.Math.max.name) = true := ⟨tb4 157 rfl, rfl⟩
theorem k_Rail_68 : Cond.methodLink "CoatRings$Rail" 68 arraycopyName ∈ lw_tbl ∧ goodWord (Cond.methodLink "CoatRings$Rail" 68 arraycopyName) = true := ⟨tb4 158 rfl, rfl⟩
theorem k_Rail_50 : Cond.methodLink "CoatRings$Rail" 50 Y_Rail_goOn.1 ∈ lw_tbl ∧ goodWord (Cond.methodLink "CoatRings$Rail" 50 Y_Rail_goOn.1) = true := ⟨tb4 159 rfl, rfl⟩
theorem k_Rail_74 : Cond.methodLink "CoatRings$Rail" 74 Y_Rail_exchange.1 ∈ lw_tbl ∧ goodWord (Cond.methodLink "CoatRings$Rail" 74 Y_Rail_exchange.1) = true := ⟨tb4 163 rfl, rfl⟩
theorem k_Law_122 : Cond.methodLink "CoatRingsLaw" 122 Y_Coat_trade.1 ∈ lw_tbl ∧ goodWord (Cond.methodLink "CoatRingsLaw" 122 Y_Coat_trade.1) = true := ⟨tb4 167 rfl, rfl⟩
theorem k_Coat_299 : Cond.methodLink "CoatRings" 299 Y_Coat_tradedCoat.1 ∈ lw_tbl ∧ goodWord (Cond.methodLink "CoatRings" 299 Y_Coat_tradedCoat.1) = true := ⟨tb4 171 rfl, rfl⟩
theorem k_Coat_354 : Cond.methodLink "CoatRings" 354 Y_Coat_pointedAt.1 ∈ lw_tbl ∧ goodWord (Cond.methodLink "CoatRings" 354 Y_Coat_pointedAt.1) = true := ⟨tb4 175 rfl, rfl⟩
theorem k_Coat_361 : Cond.methodLink "CoatRings" 361 Y_Coat_hasMostLiked.1 ∈ lw_tbl ∧ goodWord (Cond.methodLink "CoatRings" 361 Y_Coat_hasMostLiked.1) = true := ⟨tb4 180 rfl, rfl⟩
theorem k_Coat_364 : Cond.methodLink "CoatRings" 364 Y_Rows_with.1 ∈ lw_tbl ∧ goodWord (Cond.methodLink "CoatRings" 364 Y_Rows_with.1) = true := ⟨tb4 184 rfl, rfl⟩
theorem k_Coat_357 : Cond.methodLink "CoatRings" 357 Y_Coat_inRings.1 ∈ lw_tbl ∧ goodWord (Cond.methodLink "CoatRings" 357 Y_Coat_inRings.1) = true := ⟨tb4 185 rfl, rfl⟩
theorem k_Law_126 : Cond.methodLink "CoatRingsLaw" 126 Y_Coat_blocks.1 ∈ lw_tbl ∧ goodWord (Cond.methodLink "CoatRingsLaw" 126 Y_Coat_blocks.1) = true := ⟨tb4 188 rfl, rfl⟩
theorem k_Coat_302 : Cond.methodLink "CoatRings" 302 Y_Givings_couldDoBetter.1 ∈ lw_tbl ∧ goodWord (Cond.methodLink "CoatRings" 302 Y_Givings_couldDoBetter.1) = true := ⟨tb4 192 rfl, rfl⟩
theorem k_Givings_66 : Cond.methodLink "CoatRings$Givings" 66 Y_Givings_likedMore.1 ∈ lw_tbl ∧ goodWord (Cond.methodLink "CoatRings$Givings" 66 Y_Givings_likedMore.1) = true := ⟨tb4 196 rfl, rfl⟩
theorem k_Givings_77 : Cond.methodLink "CoatRings$Givings" 77 Y_Night_liking.1 ∈ lw_tbl ∧ goodWord (Cond.methodLink "CoatRings$Givings" 77 Y_Night_liking.1) = true := ⟨tb4 199 rfl, rfl⟩
theorem k_Givings_72 : Cond.methodLink "CoatRings$Givings" 72 Y_Rows_at.1 ∈ lw_tbl ∧ goodWord (Cond.methodLink "CoatRings$Givings" 72 Y_Rows_at.1) = true := ⟨tb4 200 rfl, rfl⟩
theorem k_Law_130 : Cond.methodLink "CoatRingsLaw" 130 Y_Coat_image.1 ∈ lw_tbl ∧ goodWord (Cond.methodLink "CoatRingsLaw" 130 Y_Coat_image.1) = true := ⟨tb4 201 rfl, rfl⟩
theorem k_Coat_306 : Cond.methodLink "CoatRings" 306 Y_Night_become.1 ∈ lw_tbl ∧ goodWord (Cond.methodLink "CoatRings" 306 Y_Night_become.1) = true := ⟨tb4 205 rfl, rfl⟩
theorem k_Night_58 : Cond.methodLink "CoatRings$Night" 58 arraycopyName ∈ lw_tbl ∧ goodWord (Cond.methodLink "CoatRings$Night" 58 arraycopyName) = true := ⟨tb4 209 rfl, rfl⟩
theorem k_Law_134 : Cond.methodLink "CoatRingsLaw" 134 Y_Coat_restore.1 ∈ lw_tbl ∧ goodWord (Cond.methodLink "CoatRingsLaw" 134 Y_Coat_restore.1) = true := ⟨tb4 210 rfl, rfl⟩
theorem k_Law_138 : Cond.methodLink "CoatRingsLaw" 138 Y_Coat_sheet.1 ∈ lw_tbl ∧ goodWord (Cond.methodLink "CoatRingsLaw" 138 Y_Coat_sheet.1) = true := ⟨tb4 214 rfl, rfl⟩
theorem k_Coat_312 : Cond.methodLink "CoatRings" 312 Y_Sheets_isSheet.1 ∈ lw_tbl ∧ goodWord (Cond.methodLink "CoatRings" 312 Y_Sheets_isSheet.1) = true := ⟨tb4 218 rfl, rfl⟩
theorem k_Coat_315 : Cond.methodLink "CoatRings" 315 Y_Sheets_isLane.1 ∈ lw_tbl ∧ goodWord (Cond.methodLink "CoatRings" 315 Y_Sheets_isLane.1) = true := ⟨tb4 219 rfl, rfl⟩
theorem k_Coat_318 : Cond.methodLink "CoatRings" 318 Y_Sheets_lay.1 ∈ lw_tbl ∧ goodWord (Cond.methodLink "CoatRings" 318 Y_Sheets_lay.1) = true := ⟨tb4 220 rfl, rfl⟩
theorem k_Law_142 : Cond.methodLink "CoatRingsLaw" 142 Y_Coat_drop.1 ∈ lw_tbl ∧ goodWord (Cond.methodLink "CoatRingsLaw" 142 Y_Coat_drop.1) = true := ⟨tb4 224 rfl, rfl⟩
theorem k_Law_146 : Cond.methodLink "CoatRingsLaw" 146 Y_Coat_item.1 ∈ lw_tbl ∧ goodWord (Cond.methodLink "CoatRingsLaw" 146 Y_Coat_item.1) = true := ⟨tb4 228 rfl, rfl⟩
theorem k_Coat_335 : Cond.methodLink "CoatRings" 335 Y_Sheets_narrowed.1 ∈ lw_tbl ∧ goodWord (Cond.methodLink "CoatRings" 335 Y_Sheets_narrowed.1) = true := ⟨tb4 232 rfl, rfl⟩
theorem k_Law_150 : Cond.methodLink "CoatRingsLaw" 150 Y_Coat_copy.1 ∈ lw_tbl ∧ goodWord (Cond.methodLink "CoatRingsLaw" 150 Y_Coat_copy.1) = true := ⟨tb4 235 rfl, rfl⟩
theorem k_Coat_338 : Cond.methodLink "CoatRings" 338 Y_Sheets_holds.1 ∈ lw_tbl ∧ goodWord (Cond.methodLink "CoatRings" 338 Y_Sheets_holds.1) = true := ⟨tb4 239 rfl, rfl⟩
theorem k_Law_12 : Cond.methodLink "CoatRingsLaw" 12 Y_M_init.1 ∈ lw_tbl ∧ goodWord (Cond.methodLink "CoatRingsLaw" 12 Y_M_init.1) = true := ⟨tb5 2 rfl, rfl⟩
theorem k_M_1 : Cond.methodLink "CoatRingsModel" 1 objectInit ∈ lw_tbl ∧ goodWord (Cond.methodLink "CoatRingsModel" 1 objectInit) = true := ⟨tb5 5 rfl, rfl⟩
theorem k_Law_17 : Cond.methodLink "CoatRingsLaw" 17 Y_M_person.1 ∈ lw_tbl ∧ goodWord (Cond.methodLink "CoatRingsLaw" 17 Y_M_person.1) = true := ⟨tb5 147 rfl, rfl⟩
theorem k_M_127 : Cond.methodLink "CoatRingsModel" 127 Y_M_isAt.1 ∈ lw_tbl ∧ goodWord (Cond.methodLink "CoatRingsModel" 127 Y_M_isAt.1) = true := ⟨tb5 151 rfl, rfl⟩
theorem k_M_121 : Cond.methodLink "CoatRingsModel" 121 Y_M_in.1 ∈ lw_tbl ∧ goodWord (Cond.methodLink "CoatRingsModel" 121 Y_M_in.1) = true := ⟨tb5 155 rfl, rfl⟩
theorem k_Law_22 : Cond.methodLink "CoatRingsLaw" 22 Y_M_told.1 ∈ lw_tbl ∧ goodWord (Cond.methodLink "CoatRingsLaw" 22 Y_M_told.1) = true := ⟨tb5 159 rfl, rfl⟩
theorem k_M_140 : Cond.methodLink "CoatRingsModel" 140 Y_M_isPerson.1 ∈ lw_tbl ∧ goodWord (Cond.methodLink "CoatRingsModel" 140 Y_M_isPerson.1) = true := ⟨tb5 163 rfl, rfl⟩
theorem k_M_146 : Cond.methodLink "CoatRingsModel" 146 Y_M_holder.1 ∈ lw_tbl ∧ goodWord (Cond.methodLink "CoatRingsModel" 146 Y_M_holder.1) = true := ⟨tb5 168 rfl, rfl⟩
theorem k_M_150 : Cond.methodLink "CoatRingsModel" 150 Y_M_ringOf.1 ∈ lw_tbl ∧ goodWord (Cond.methodLink "CoatRingsModel" 150 Y_M_ringOf.1) = true := ⟨tb5 172 rfl, rfl⟩
theorem k_Law_26 : Cond.methodLink "CoatRingsLaw" 26 Y_M_marks.1 ∈ lw_tbl ∧ goodWord (Cond.methodLink "CoatRingsLaw" 26 Y_M_marks.1) = true := ⟨tb5 175 rfl, rfl⟩
theorem k_Law_30 : Cond.methodLink "CoatRingsLaw" 30 Y_M_likes.1 ∈ lw_tbl ∧ goodWord (Cond.methodLink "CoatRingsLaw" 30 Y_M_likes.1) = true := ⟨tb5 179 rfl, rfl⟩
theorem k_Law_35 : Cond.methodLink "CoatRingsLaw" 35 Y_M_wont.1 ∈ lw_tbl ∧ goodWord (Cond.methodLink "CoatRingsLaw" 35 Y_M_wont.1) = true := ⟨tb5 184 rfl, rfl⟩
theorem k_Law_39 : Cond.methodLink "CoatRingsLaw" 39 Y_M_table.1 ∈ lw_tbl ∧ goodWord (Cond.methodLink "CoatRingsLaw" 39 Y_M_table.1) = true := ⟨tb5 188 rfl, rfl⟩
theorem k_M_166 : Cond.methodLink "CoatRingsModel" 166 Y_M_takes.1 ∈ lw_tbl ∧ goodWord (Cond.methodLink "CoatRingsModel" 166 Y_M_takes.1) = true := ⟨tb5 192 rfl, rfl⟩
theorem k_M_156 : Cond.methodLink "CoatRingsModel" 156 Y_M_isSheet.1 ∈ lw_tbl ∧ goodWord (Cond.methodLink "CoatRingsModel" 156 Y_M_isSheet.1) = true := ⟨tb5 196 rfl, rfl⟩
theorem k_M_159 : Cond.methodLink "CoatRingsModel" 159 Y_M_isLane.1 ∈ lw_tbl ∧ goodWord (Cond.methodLink "CoatRingsModel" 159 Y_M_isLane.1) = true := ⟨tb5 200 rfl, rfl⟩
theorem k_M_162 : Cond.methodLink "CoatRingsModel" 162 Y_M_finds.1 ∈ lw_tbl ∧ goodWord (Cond.methodLink "CoatRingsModel" 162 Y_M_finds.1) = true := ⟨tb5 204 rfl, rfl⟩
theorem k_M_170 : Cond.methodLink "CoatRingsModel" 170 Y_M_strangers.1 ∈ lw_tbl ∧ goodWord (Cond.methodLink "CoatRingsModel" 170 Y_M_strangers.1) = true := ⟨tb5 208 rfl, rfl⟩
theorem k_Law_43 : Cond.methodLink "CoatRingsLaw" 43 Y_M_inn.1 ∈ lw_tbl ∧ goodWord (Cond.methodLink "CoatRingsLaw" 43 Y_M_inn.1) = true := ⟨tb5 212 rfl, rfl⟩
theorem k_Law_47 : Cond.methodLink "CoatRingsLaw" 47 Y_M_set.1 ∈ lw_tbl ∧ goodWord (Cond.methodLink "CoatRingsLaw" 47 Y_M_set.1) = true := ⟨tb5 216 rfl, rfl⟩
theorem k_Law_52 : Cond.methodLink "CoatRingsLaw" 52 Y_M_count.1 ∈ lw_tbl ∧ goodWord (Cond.methodLink "CoatRingsLaw" 52 Y_M_count.1) = true := ⟨tb5 221 rfl, rfl⟩
theorem k_Law_56 : Cond.methodLink "CoatRingsLaw" 56 Y_M_meet.1 ∈ lw_tbl ∧ goodWord (Cond.methodLink "CoatRingsLaw" 56 Y_M_meet.1) = true := ⟨tb5 225 rfl, rfl⟩
theorem k_M_202 : Cond.methodLink "CoatRingsModel" 202 Y_M_whoMeets.1 ∈ lw_tbl ∧ goodWord (Cond.methodLink "CoatRingsModel" 202 Y_M_whoMeets.1) = true := ⟨tb5 229 rfl, rfl⟩
theorem k_M_190 : Cond.methodLink "CoatRingsModel" 190 Y_M_isThere.1 ∈ lw_tbl ∧ goodWord (Cond.methodLink "CoatRingsModel" 190 Y_M_isThere.1) = true := ⟨tb5 233 rfl, rfl⟩
theorem k_M_193 : Cond.methodLink "CoatRingsModel" 193 Y_M_size.1 ∈ lw_tbl ∧ goodWord (Cond.methodLink "CoatRingsModel" 193 Y_M_size.1) = true := ⟨tb5 237 rfl, rfl⟩
theorem k_M_205 : Cond.methodLink "CoatRingsModel" 205 Y_M_unwilling.1 ∈ lw_tbl ∧ goodWord (Cond.methodLink "CoatRingsModel" 205 Y_M_unwilling.1) = true := ⟨tb6 0 rfl, rfl⟩
theorem k_M_208 : Cond.methodLink "CoatRingsModel" 208 Y_M_milesOf.1 ∈ lw_tbl ∧ goodWord (Cond.methodLink "CoatRingsModel" 208 Y_M_milesOf.1) = true := ⟨tb6 4 rfl, rfl⟩
theorem k_M_196 : Cond.methodLink "CoatRingsModel" 196 Y_M_far.1 ∈ lw_tbl ∧ goodWord (Cond.methodLink "CoatRingsModel" 196 Y_M_far.1) = true := ⟨tb6 8 rfl, rfl⟩
theorem k_M_136 : Cond.methodLink "CoatRingsModel" 136 Y_M_away.1 ∈ lw_tbl ∧ goodWord (Cond.methodLink "CoatRingsModel" 136 Y_M_away.1) = true := ⟨tb6 12 rfl, rfl⟩
theorem k_M_212 : Cond.methodLink "CoatRingsModel" 212 Y_M_meets.1 ∈ lw_tbl ∧ goodWord (Cond.methodLink "CoatRingsModel" 212 Y_M_meets.1) = true := ⟨tb6 15 rfl, rfl⟩
theorem k_M_199 : Cond.methodLink "CoatRingsModel" 199 Y_M_lowest.1 ∈ lw_tbl ∧ goodWord (Cond.methodLink "CoatRingsModel" 199 Y_M_lowest.1) = true := ⟨tb6 19 rfl, rfl⟩
theorem k_Law_61 : Cond.methodLink "CoatRingsLaw" 61 Y_M_well.1 ∈ lw_tbl ∧ goodWord (Cond.methodLink "CoatRingsLaw" 61 Y_M_well.1) = true := ⟨tb6 22 rfl, rfl⟩
theorem k_M_216 : Cond.methodLink "CoatRingsModel" 216 Y_M_isWell.1 ∈ lw_tbl ∧ goodWord (Cond.methodLink "CoatRingsModel" 216 Y_M_isWell.1) = true := ⟨tb6 26 rfl, rfl⟩
theorem k_Law_65 : Cond.methodLink "CoatRingsLaw" 65 Y_M_fewest.1 ∈ lw_tbl ∧ goodWord (Cond.methodLink "CoatRingsLaw" 65 Y_M_fewest.1) = true := ⟨tb6 30 rfl, rfl⟩
theorem k_M_247 : Cond.methodLink "CoatRingsModel" 247 Y_M_settles.1 ∈ lw_tbl ∧ goodWord (Cond.methodLink "CoatRingsModel" 247 Y_M_settles.1) = true := ⟨tb6 34 rfl, rfl⟩
theorem k_M_239 : Cond.methodLink "CoatRingsModel" 239 Y_M_laysSteps.1 ∈ lw_tbl ∧ goodWord (Cond.methodLink "CoatRingsModel" 239 Y_M_laysSteps.1) = true := ⟨tb6 38 rfl, rfl⟩
theorem k_M_226 : Cond.methodLink "CoatRingsModel" 226 Y_M_lays.1 ∈ lw_tbl ∧ goodWord (Cond.methodLink "CoatRingsModel" 226 Y_M_lays.1) = true := ⟨tb6 42 rfl, rfl⟩
theorem k_M_230 : Cond.methodLink "CoatRingsModel" 230 Y_M_meetingAt.1 ∈ lw_tbl ∧ goodWord (Cond.methodLink "CoatRingsModel" 230 Y_M_meetingAt.1) = true := ⟨tb6 46 rfl, rfl⟩
theorem k_M_233 : Cond.methodLink "CoatRingsModel" 233 Y_M_stepBy.1 ∈ lw_tbl ∧ goodWord (Cond.methodLink "CoatRingsModel" 233 Y_M_stepBy.1) = true := ⟨tb6 50 rfl, rfl⟩
theorem k_M_223 : Cond.methodLink "CoatRingsModel" 223 Y_M_codeOf.1 ∈ lw_tbl ∧ goodWord (Cond.methodLink "CoatRingsModel" 223 Y_M_codeOf.1) = true := ⟨tb6 54 rfl, rfl⟩
theorem k_M_236 : Cond.methodLink "CoatRingsModel" 236 Y_M_costOf.1 ∈ lw_tbl ∧ goodWord (Cond.methodLink "CoatRingsModel" 236 Y_M_costOf.1) = true := ⟨tb6 57 rfl, rfl⟩
theorem k_M_243 : Cond.methodLink "CoatRingsModel" 243 Y_M_betters.1 ∈ lw_tbl ∧ goodWord (Cond.methodLink "CoatRingsModel" 243 Y_M_betters.1) = true := ⟨tb6 62 rfl, rfl⟩
theorem k_M_251 : Cond.methodLink "CoatRingsModel" 251 Y_M_tableNow.1 ∈ lw_tbl ∧ goodWord (Cond.methodLink "CoatRingsModel" 251 Y_M_tableNow.1) = true := ⟨tb6 66 rfl, rfl⟩
theorem k_Law_69 : Cond.methodLink "CoatRingsLaw" 69 Y_M_plan.1 ∈ lw_tbl ∧ goodWord (Cond.methodLink "CoatRingsLaw" 69 Y_M_plan.1) = true := ⟨tb6 70 rfl, rfl⟩
theorem k_M_254 : Cond.methodLink "CoatRingsModel" 254 Y_M_firstFrom.1 ∈ lw_tbl ∧ goodWord (Cond.methodLink "CoatRingsModel" 254 Y_M_firstFrom.1) = true := ⟨tb6 74 rfl, rfl⟩
theorem k_Law_73 : Cond.methodLink "CoatRingsLaw" 73 Y_M_atOnce.1 ∈ lw_tbl ∧ goodWord (Cond.methodLink "CoatRingsLaw" 73 Y_M_atOnce.1) = true := ⟨tb6 78 rfl, rfl⟩
theorem k_M_257 : Cond.methodLink "CoatRingsModel" 257 Y_M_isPairs.1 ∈ lw_tbl ∧ goodWord (Cond.methodLink "CoatRingsModel" 257 Y_M_isPairs.1) = true := ⟨tb6 82 rfl, rfl⟩
theorem k_M_260 : Cond.methodLink "CoatRingsModel" 260 Y_M_changes.1 ∈ lw_tbl ∧ goodWord (Cond.methodLink "CoatRingsModel" 260 Y_M_changes.1) = true := ⟨tb6 86 rfl, rfl⟩
theorem k_M_264 : Cond.methodLink "CoatRingsModel" 264 Y_M_pairMiles.1 ∈ lw_tbl ∧ goodWord (Cond.methodLink "CoatRingsModel" 264 Y_M_pairMiles.1) = true := ⟨tb6 90 rfl, rfl⟩
theorem k_Law_80 : Cond.methodLink "CoatRingsLaw" 80 Y_M_type.1 ∈ lw_tbl ∧ goodWord (Cond.methodLink "CoatRingsLaw" 80 Y_M_type.1) = true := ⟨tb6 94 rfl, rfl⟩
theorem k_Law_84 : Cond.methodLink "CoatRingsLaw" 84 Y_M_facts.1 ∈ lw_tbl ∧ goodWord (Cond.methodLink "CoatRingsLaw" 84 Y_M_facts.1) = true := ⟨tb6 102 rfl, rfl⟩
theorem k_M_290 : Cond.methodLink "CoatRingsModel" 290 Y_M_clause.1 ∈ lw_tbl ∧ goodWord (Cond.methodLink "CoatRingsModel" 290 Y_M_clause.1) = true := ⟨tb6 106 rfl, rfl⟩
theorem k_M_288 : Cond.methodLink "CoatRingsModel" 288 Y_M_one.1 ∈ lw_tbl ∧ goodWord (Cond.methodLink "CoatRingsModel" 288 Y_M_one.1) = true := ⟨tb6 110 rfl, rfl⟩
theorem k_M_285 : Cond.methodLink "CoatRingsModel" 285 Y_M_here.1 ∈ lw_tbl ∧ goodWord (Cond.methodLink "CoatRingsModel" 285 Y_M_here.1) = true := ⟨tb6 114 rfl, rfl⟩
theorem k_Law_88 : Cond.methodLink "CoatRingsLaw" 88 Y_M_forget.1 ∈ lw_tbl ∧ goodWord (Cond.methodLink "CoatRingsLaw" 88 Y_M_forget.1) = true := ⟨tb6 118 rfl, rfl⟩
theorem k_Law_92 : Cond.methodLink "CoatRingsLaw" 92 Y_M_may.1 ∈ lw_tbl ∧ goodWord (Cond.methodLink "CoatRingsLaw" 92 Y_M_may.1) = true := ⟨tb6 122 rfl, rfl⟩
theorem k_M_293 : Cond.methodLink "CoatRingsModel" 293 Y_M_worldMany.1 ∈ lw_tbl ∧ goodWord (Cond.methodLink "CoatRingsModel" 293 Y_M_worldMany.1) = true := ⟨tb6 126 rfl, rfl⟩
theorem k_M_296 : Cond.methodLink "CoatRingsModel" 296 Y_M_mayBe.1 ∈ lw_tbl ∧ goodWord (Cond.methodLink "CoatRingsModel" 296 Y_M_mayBe.1) = true := ⟨tb6 130 rfl, rfl⟩
theorem k_Law_96 : Cond.methodLink "CoatRingsLaw" 96 Y_M_worlds.1 ∈ lw_tbl ∧ goodWord (Cond.methodLink "CoatRingsLaw" 96 Y_M_worlds.1) = true := ⟨tb6 134 rfl, rfl⟩
theorem k_Law_100 : Cond.methodLink "CoatRingsLaw" 100 Y_M_sure.1 ∈ lw_tbl ∧ goodWord (Cond.methodLink "CoatRingsLaw" 100 Y_M_sure.1) = true := ⟨tb6 138 rfl, rfl⟩
theorem k_Law_104 : Cond.methodLink "CoatRingsLaw" 104 Y_M_next.1 ∈ lw_tbl ∧ goodWord (Cond.methodLink "CoatRingsLaw" 104 Y_M_next.1) = true := ⟨tb6 142 rfl, rfl⟩
theorem k_Law_108 : Cond.methodLink "CoatRingsLaw" 108 Y_M_explained.1 ∈ lw_tbl ∧ goodWord (Cond.methodLink "CoatRingsLaw" 108 Y_M_explained.1) = true := ⟨tb6 146 rfl, rfl⟩
theorem k_M_307 : Cond.methodLink "CoatRingsModel" 307 Y_M_spreads.1 ∈ lw_tbl ∧ goodWord (Cond.methodLink "CoatRingsModel" 307 Y_M_spreads.1) = true := ⟨tb6 150 rfl, rfl⟩
theorem k_M_299 : Cond.methodLink "CoatRingsModel" 299 Y_M_isSlip.1 ∈ lw_tbl ∧ goodWord (Cond.methodLink "CoatRingsModel" 299 Y_M_isSlip.1) = true := ⟨tb6 154 rfl, rfl⟩
theorem k_M_303 : Cond.methodLink "CoatRingsModel" 303 Y_M_slips.1 ∈ lw_tbl ∧ goodWord (Cond.methodLink "CoatRingsModel" 303 Y_M_slips.1) = true := ⟨tb6 158 rfl, rfl⟩
theorem k_M_311 : Cond.methodLink "CoatRingsModel" 311 Y_M_between.1 ∈ lw_tbl ∧ goodWord (Cond.methodLink "CoatRingsModel" 311 Y_M_between.1) = true := ⟨tb6 162 rfl, rfl⟩
theorem k_Law_112 : Cond.methodLink "CoatRingsLaw" 112 Y_M_fear.1 ∈ lw_tbl ∧ goodWord (Cond.methodLink "CoatRingsLaw" 112 Y_M_fear.1) = true := ⟨tb6 166 rfl, rfl⟩
theorem k_Law_117 : Cond.methodLink "CoatRingsLaw" 117 Y_M_harm.1 ∈ lw_tbl ∧ goodWord (Cond.methodLink "CoatRingsLaw" 117 Y_M_harm.1) = true := ⟨tb6 170 rfl, rfl⟩
theorem k_M_314 : Cond.methodLink "CoatRingsModel" 314 Y_M_harmOf.1 ∈ lw_tbl ∧ goodWord (Cond.methodLink "CoatRingsModel" 314 Y_M_harmOf.1) = true := ⟨tb6 174 rfl, rfl⟩
theorem k_Law_121 : Cond.methodLink "CoatRingsLaw" 121 Y_M_best.1 ∈ lw_tbl ∧ goodWord (Cond.methodLink "CoatRingsLaw" 121 Y_M_best.1) = true := ⟨tb6 178 rfl, rfl⟩
theorem k_Law_125 : Cond.methodLink "CoatRingsLaw" 125 Y_M_trade.1 ∈ lw_tbl ∧ goodWord (Cond.methodLink "CoatRingsLaw" 125 Y_M_trade.1) = true := ⟨tb6 184 rfl, rfl⟩
theorem k_M_325 : Cond.methodLink "CoatRingsModel" 325 Y_M_trades.1 ∈ lw_tbl ∧ goodWord (Cond.methodLink "CoatRingsModel" 325 Y_M_trades.1) = true := ⟨tb6 188 rfl, rfl⟩
theorem k_M_322 : Cond.methodLink "CoatRingsModel" 322 Y_M_point.1 ∈ lw_tbl ∧ goodWord (Cond.methodLink "CoatRingsModel" 322 Y_M_point.1) = true := ⟨tb6 192 rfl, rfl⟩
theorem k_Law_129 : Cond.methodLink "CoatRingsLaw" 129 Y_M_blocks.1 ∈ lw_tbl ∧ goodWord (Cond.methodLink "CoatRingsLaw" 129 Y_M_blocks.1) = true := ⟨tb6 196 rfl, rfl⟩
theorem k_M_328 : Cond.methodLink "CoatRingsModel" 328 Y_M_doesBlock.1 ∈ lw_tbl ∧ goodWord (Cond.methodLink "CoatRingsModel" 328 Y_M_doesBlock.1) = true := ⟨tb6 200 rfl, rfl⟩
theorem k_Law_133 : Cond.methodLink "CoatRingsLaw" 133 Y_M_image.1 ∈ lw_tbl ∧ goodWord (Cond.methodLink "CoatRingsLaw" 133 Y_M_image.1) = true := ⟨tb6 204 rfl, rfl⟩
theorem k_M_331 : Cond.methodLink "CoatRingsModel" 331 Y_M_keeps.1 ∈ lw_tbl ∧ goodWord (Cond.methodLink "CoatRingsModel" 331 Y_M_keeps.1) = true := ⟨tb6 208 rfl, rfl⟩
theorem k_Law_137 : Cond.methodLink "CoatRingsLaw" 137 Y_M_restore.1 ∈ lw_tbl ∧ goodWord (Cond.methodLink "CoatRingsLaw" 137 Y_M_restore.1) = true := ⟨tb6 211 rfl, rfl⟩
theorem k_M_338 : Cond.methodLink "CoatRingsModel" 338 Y_M_gives.1 ∈ lw_tbl ∧ goodWord (Cond.methodLink "CoatRingsModel" 338 Y_M_gives.1) = true := ⟨tb6 215 rfl, rfl⟩
theorem k_Law_141 : Cond.methodLink "CoatRingsLaw" 141 Y_M_sheet.1 ∈ lw_tbl ∧ goodWord (Cond.methodLink "CoatRingsLaw" 141 Y_M_sheet.1) = true := ⟨tb6 218 rfl, rfl⟩
theorem k_Law_145 : Cond.methodLink "CoatRingsLaw" 145 Y_M_drop.1 ∈ lw_tbl ∧ goodWord (Cond.methodLink "CoatRingsLaw" 145 Y_M_drop.1) = true := ⟨tb6 222 rfl, rfl⟩
theorem k_Law_149 : Cond.methodLink "CoatRingsLaw" 149 Y_M_item.1 ∈ lw_tbl ∧ goodWord (Cond.methodLink "CoatRingsLaw" 149 Y_M_item.1) = true := ⟨tb6 226 rfl, rfl⟩
theorem k_Law_154 : Cond.methodLink "CoatRingsLaw" 154 Y_M_copy.1 ∈ lw_tbl ∧ goodWord (Cond.methodLink "CoatRingsLaw" 154 Y_M_copy.1) = true := ⟨tb6 230 rfl, rfl⟩
theorem k_Night_55 : Cond.fieldLink "CoatRings$Night" 55 "CoatRings$Night" "people" "I" ∈ lw_tbl ∧ goodWord (Cond.fieldLink "CoatRings$Night" 55 "CoatRings$Night" "people" "I") = true := ⟨tb1 36 rfl, rfl⟩
theorem k_Coat_82 : Cond.fieldLink "CoatRings" 82 "CoatRings$Night" "people" "I" ∈ lw_tbl ∧ goodWord (Cond.fieldLink "CoatRings" 82 "CoatRings$Night" "people" "I") = true := ⟨tb1 37 rfl, rfl⟩
theorem k_Rail_47 : Cond.fieldLink "CoatRings$Rail" 47 "CoatRings$Night" "people" "I" ∈ lw_tbl ∧ goodWord (Cond.fieldLink "CoatRings$Rail" 47 "CoatRings$Night" "people" "I") = true := ⟨tb1 38 rfl, rfl⟩
theorem k_Planner_138 : Cond.fieldLink "CoatRings$Planner" 138 "CoatRings$Night" "people" "I" ∈ lw_tbl ∧ goodWord (Cond.fieldLink "CoatRings$Planner" 138 "CoatRings$Night" "people" "I") = true := ⟨tb1 39 rfl, rfl⟩
theorem k_Slips_38 : Cond.fieldLink "CoatRings$Slips" 38 "CoatRings$Night" "people" "I" ∈ lw_tbl ∧ goodWord (Cond.fieldLink "CoatRings$Slips" 38 "CoatRings$Night" "people" "I") = true := ⟨tb1 40 rfl, rfl⟩
theorem k_Meetings_20 : Cond.fieldLink "CoatRings$Meetings" 20 "CoatRings$Night" "people" "I" ∈ lw_tbl ∧ goodWord (Cond.fieldLink "CoatRings$Meetings" 20 "CoatRings$Night" "people" "I") = true := ⟨tb1 41 rfl, rfl⟩
theorem k_Givings_52 : Cond.fieldLink "CoatRings$Givings" 52 "CoatRings$Night" "people" "I" ∈ lw_tbl ∧ goodWord (Cond.fieldLink "CoatRings$Givings" 52 "CoatRings$Night" "people" "I") = true := ⟨tb1 42 rfl, rfl⟩
theorem k_Night_9 : Cond.fieldLink "CoatRings$Night" 9 "CoatRings$Night" "x" "[I" ∈ lw_tbl ∧ goodWord (Cond.fieldLink "CoatRings$Night" 9 "CoatRings$Night" "x" "[I") = true := ⟨tb1 43 rfl, rfl⟩
theorem k_Coat_105 : Cond.fieldLink "CoatRings" 105 "CoatRings$Night" "x" "[I" ∈ lw_tbl ∧ goodWord (Cond.fieldLink "CoatRings" 105 "CoatRings$Night" "x" "[I") = true := ⟨tb1 44 rfl, rfl⟩
theorem k_Night_15 : Cond.fieldLink "CoatRings$Night" 15 "CoatRings$Night" "y" "[I" ∈ lw_tbl ∧ goodWord (Cond.fieldLink "CoatRings$Night" 15 "CoatRings$Night" "y" "[I") = true := ⟨tb1 45 rfl, rfl⟩
theorem k_Coat_108 : Cond.fieldLink "CoatRings" 108 "CoatRings$Night" "y" "[I" ∈ lw_tbl ∧ goodWord (Cond.fieldLink "CoatRings" 108 "CoatRings$Night" "y" "[I") = true := ⟨tb1 46 rfl, rfl⟩
theorem k_Night_18 : Cond.fieldLink "CoatRings$Night" 18 "CoatRings$Night" "marks" "[I" ∈ lw_tbl ∧ goodWord (Cond.fieldLink "CoatRings$Night" 18 "CoatRings$Night" "marks" "[I") = true := ⟨tb1 47 rfl, rfl⟩
theorem k_Coat_111 : Cond.fieldLink "CoatRings" 111 "CoatRings$Night" "marks" "[I" ∈ lw_tbl ∧ goodWord (Cond.fieldLink "CoatRings" 111 "CoatRings$Night" "marks" "[I") = true := ⟨tb1 48 rfl, rfl⟩
theorem k_Night_21 : Cond.fieldLink "CoatRings$Night" 21 "CoatRings$Night" "likes" "[I" ∈ lw_tbl ∧ goodWord (Cond.fieldLink "CoatRings$Night" 21 "CoatRings$Night" "likes" "[I") = true := ⟨tb1 49 rfl, rfl⟩
theorem k_Coat_135 : Cond.fieldLink "CoatRings" 135 "CoatRings$Night" "likes" "[I" ∈ lw_tbl ∧ goodWord (Cond.fieldLink "CoatRings" 135 "CoatRings$Night" "likes" "[I") = true := ⟨tb1 50 rfl, rfl⟩
theorem k_Night_24 : Cond.fieldLink "CoatRings$Night" 24 "CoatRings$Night" "may" "[I" ∈ lw_tbl ∧ goodWord (Cond.fieldLink "CoatRings$Night" 24 "CoatRings$Night" "may" "[I") = true := ⟨tb1 51 rfl, rfl⟩
theorem k_Givings_34 : Cond.fieldLink "CoatRings$Givings" 34 "CoatRings$Night" "may" "[I" ∈ lw_tbl ∧ goodWord (Cond.fieldLink "CoatRings$Givings" 34 "CoatRings$Night" "may" "[I") = true := ⟨tb1 52 rfl, rfl⟩
theorem k_Tape_22 : Cond.fieldLink "CoatRings$Tape" 22 "CoatRings$Night" "may" "[I" ∈ lw_tbl ∧ goodWord (Cond.fieldLink "CoatRings$Tape" 22 "CoatRings$Night" "may" "[I") = true := ⟨tb1 53 rfl, rfl⟩
theorem k_Coat_241 : Cond.fieldLink "CoatRings" 241 "CoatRings$Night" "may" "[I" ∈ lw_tbl ∧ goodWord (Cond.fieldLink "CoatRings" 241 "CoatRings$Night" "may" "[I") = true := ⟨tb1 54 rfl, rfl⟩
theorem k_Night_30 : Cond.fieldLink "CoatRings$Night" 30 "CoatRings$Night" "table" "I" ∈ lw_tbl ∧ goodWord (Cond.fieldLink "CoatRings$Night" 30 "CoatRings$Night" "table" "I") = true := ⟨tb1 55 rfl, rfl⟩
theorem k_Planner_72 : Cond.fieldLink "CoatRings$Planner" 72 "CoatRings$Night" "table" "I" ∈ lw_tbl ∧ goodWord (Cond.fieldLink "CoatRings$Planner" 72 "CoatRings$Night" "table" "I") = true := ⟨tb1 56 rfl, rfl⟩
theorem k_Coat_96 : Cond.fieldLink "CoatRings" 96 "CoatRings$Night" "table" "I" ∈ lw_tbl ∧ goodWord (Cond.fieldLink "CoatRings" 96 "CoatRings$Night" "table" "I") = true := ⟨tb1 57 rfl, rfl⟩
theorem k_Days_56 : Cond.fieldLink "CoatRings$Days" 56 "CoatRings$Night" "table" "I" ∈ lw_tbl ∧ goodWord (Cond.fieldLink "CoatRings$Days" 56 "CoatRings$Night" "table" "I") = true := ⟨tb1 58 rfl, rfl⟩
theorem k_Meetings_42 : Cond.fieldLink "CoatRings$Meetings" 42 "CoatRings$Night" "table" "I" ∈ lw_tbl ∧ goodWord (Cond.fieldLink "CoatRings$Meetings" 42 "CoatRings$Night" "table" "I") = true := ⟨tb1 59 rfl, rfl⟩
theorem k_Givings_69 : Cond.fieldLink "CoatRings$Givings" 69 "CoatRings$Night" "table" "I" ∈ lw_tbl ∧ goodWord (Cond.fieldLink "CoatRings$Givings" 69 "CoatRings$Night" "table" "I") = true := ⟨tb1 60 rfl, rfl⟩
theorem k_Night_64 : Cond.fieldLink "CoatRings$Night" 64 "CoatRings$Night" "wont" "I" ∈ lw_tbl ∧ goodWord (Cond.fieldLink "CoatRings$Night" 64 "CoatRings$Night" "wont" "I") = true := ⟨tb1 61 rfl, rfl⟩
theorem k_Days_39 : Cond.fieldLink "CoatRings$Days" 39 "CoatRings$Night" "wont" "I" ∈ lw_tbl ∧ goodWord (Cond.fieldLink "CoatRings$Days" 39 "CoatRings$Night" "wont" "I") = true := ⟨tb1 62 rfl, rfl⟩
theorem k_Planner_123 : Cond.fieldLink "CoatRings$Planner" 123 "CoatRings$Night" "wont" "I" ∈ lw_tbl ∧ goodWord (Cond.fieldLink "CoatRings$Planner" 123 "CoatRings$Night" "wont" "I") = true := ⟨tb1 63 rfl, rfl⟩
theorem k_Coat_120 : Cond.fieldLink "CoatRings" 120 "CoatRings$Night" "wont" "I" ∈ lw_tbl ∧ goodWord (Cond.fieldLink "CoatRings" 120 "CoatRings$Night" "wont" "I") = true := ⟨tb1 64 rfl, rfl⟩
theorem k_Night_67 : Cond.fieldLink "CoatRings$Night" 67 "CoatRings$Night" "inns" "I" ∈ lw_tbl ∧ goodWord (Cond.fieldLink "CoatRings$Night" 67 "CoatRings$Night" "inns" "I") = true := ⟨tb1 65 rfl, rfl⟩
theorem k_Planner_126 : Cond.fieldLink "CoatRings$Planner" 126 "CoatRings$Night" "inns" "I" ∈ lw_tbl ∧ goodWord (Cond.fieldLink "CoatRings$Planner" 126 "CoatRings$Night" "inns" "I") = true := ⟨tb1 66 rfl, rfl⟩
theorem k_Meetings_32 : Cond.fieldLink "CoatRings$Meetings" 32 "CoatRings$Night" "inns" "I" ∈ lw_tbl ∧ goodWord (Cond.fieldLink "CoatRings$Meetings" 32 "CoatRings$Night" "inns" "I") = true := ⟨tb1 67 rfl, rfl⟩
theorem k_Coat_150 : Cond.fieldLink "CoatRings" 150 "CoatRings$Night" "inns" "I" ∈ lw_tbl ∧ goodWord (Cond.fieldLink "CoatRings" 150 "CoatRings$Night" "inns" "I") = true := ⟨tb1 68 rfl, rfl⟩
theorem k_Night_34 : Cond.fieldLink "CoatRings$Night" 34 "CoatRings$Night" "innX" "[I" ∈ lw_tbl ∧ goodWord (Cond.fieldLink "CoatRings$Night" 34 "CoatRings$Night" "innX" "[I") = true := ⟨tb1 69 rfl, rfl⟩
theorem k_Coat_153 : Cond.fieldLink "CoatRings" 153 "CoatRings$Night" "innX" "[I" ∈ lw_tbl ∧ goodWord (Cond.fieldLink "CoatRings" 153 "CoatRings$Night" "innX" "[I") = true := ⟨tb1 70 rfl, rfl⟩
theorem k_Night_37 : Cond.fieldLink "CoatRings$Night" 37 "CoatRings$Night" "innY" "[I" ∈ lw_tbl ∧ goodWord (Cond.fieldLink "CoatRings$Night" 37 "CoatRings$Night" "innY" "[I") = true := ⟨tb1 71 rfl, rfl⟩
theorem k_Coat_156 : Cond.fieldLink "CoatRings" 156 "CoatRings$Night" "innY" "[I" ∈ lw_tbl ∧ goodWord (Cond.fieldLink "CoatRings" 156 "CoatRings$Night" "innY" "[I") = true := ⟨tb1 72 rfl, rfl⟩
theorem k_Night_40 : Cond.fieldLink "CoatRings$Night" 40 "CoatRings$Night" "rate" "I" ∈ lw_tbl ∧ goodWord (Cond.fieldLink "CoatRings$Night" 40 "CoatRings$Night" "rate" "I") = true := ⟨tb1 73 rfl, rfl⟩
theorem k_Planner_160 : Cond.fieldLink "CoatRings$Planner" 160 "CoatRings$Night" "rate" "I" ∈ lw_tbl ∧ goodWord (Cond.fieldLink "CoatRings$Planner" 160 "CoatRings$Night" "rate" "I") = true := ⟨tb1 74 rfl, rfl⟩
theorem k_Coat_159 : Cond.fieldLink "CoatRings" 159 "CoatRings$Night" "rate" "I" ∈ lw_tbl ∧ goodWord (Cond.fieldLink "CoatRings" 159 "CoatRings$Night" "rate" "I") = true := ⟨tb1 75 rfl, rfl⟩
theorem k_Meetings_61 : Cond.fieldLink "CoatRings$Meetings" 61 "CoatRings$Night" "rate" "I" ∈ lw_tbl ∧ goodWord (Cond.fieldLink "CoatRings$Meetings" 61 "CoatRings$Night" "rate" "I") = true := ⟨tb1 76 rfl, rfl⟩
theorem k_Night_43 : Cond.fieldLink "CoatRings$Night" 43 "CoatRings$Night" "seats" "I" ∈ lw_tbl ∧ goodWord (Cond.fieldLink "CoatRings$Night" 43 "CoatRings$Night" "seats" "I") = true := ⟨tb1 77 rfl, rfl⟩
theorem k_Planner_120 : Cond.fieldLink "CoatRings$Planner" 120 "CoatRings$Night" "seats" "I" ∈ lw_tbl ∧ goodWord (Cond.fieldLink "CoatRings$Planner" 120 "CoatRings$Night" "seats" "I") = true := ⟨tb1 78 rfl, rfl⟩
theorem k_Meetings_39 : Cond.fieldLink "CoatRings$Meetings" 39 "CoatRings$Night" "seats" "I" ∈ lw_tbl ∧ goodWord (Cond.fieldLink "CoatRings$Meetings" 39 "CoatRings$Night" "seats" "I") = true := ⟨tb1 79 rfl, rfl⟩
theorem k_Coat_162 : Cond.fieldLink "CoatRings" 162 "CoatRings$Night" "seats" "I" ∈ lw_tbl ∧ goodWord (Cond.fieldLink "CoatRings" 162 "CoatRings$Night" "seats" "I") = true := ⟨tb1 80 rfl, rfl⟩
theorem k_Night_70 : Cond.fieldLink "CoatRings$Night" 70 "CoatRings$Night" "meetings" "I" ∈ lw_tbl ∧ goodWord (Cond.fieldLink "CoatRings$Night" 70 "CoatRings$Night" "meetings" "I") = true := ⟨tb1 81 rfl, rfl⟩
theorem k_Coat_171 : Cond.fieldLink "CoatRings" 171 "CoatRings$Night" "meetings" "I" ∈ lw_tbl ∧ goodWord (Cond.fieldLink "CoatRings" 171 "CoatRings$Night" "meetings" "I") = true := ⟨tb1 82 rfl, rfl⟩
theorem k_Night_73 : Cond.fieldLink "CoatRings$Night" 73 "CoatRings$Night" "miles" "I" ∈ lw_tbl ∧ goodWord (Cond.fieldLink "CoatRings$Night" 73 "CoatRings$Night" "miles" "I") = true := ⟨tb1 83 rfl, rfl⟩
theorem k_Coat_174 : Cond.fieldLink "CoatRings" 174 "CoatRings$Night" "miles" "I" ∈ lw_tbl ∧ goodWord (Cond.fieldLink "CoatRings" 174 "CoatRings$Night" "miles" "I") = true := ⟨tb1 84 rfl, rfl⟩
theorem k_Rail_21 : Cond.fieldLink "CoatRings$Rail" 21 "CoatRings$Night" "feared" "I" ∈ lw_tbl ∧ goodWord (Cond.fieldLink "CoatRings$Rail" 21 "CoatRings$Night" "feared" "I") = true := ⟨tb1 85 rfl, rfl⟩
theorem k_Night_76 : Cond.fieldLink "CoatRings$Night" 76 "CoatRings$Night" "feared" "I" ∈ lw_tbl ∧ goodWord (Cond.fieldLink "CoatRings$Night" 76 "CoatRings$Night" "feared" "I") = true := ⟨tb1 86 rfl, rfl⟩
theorem k_Coat_177 : Cond.fieldLink "CoatRings" 177 "CoatRings$Night" "feared" "I" ∈ lw_tbl ∧ goodWord (Cond.fieldLink "CoatRings" 177 "CoatRings$Night" "feared" "I") = true := ⟨tb1 87 rfl, rfl⟩
theorem k_Night_46 : Cond.fieldLink "CoatRings$Night" 46 "CoatRings$Night" "fears" "[I" ∈ lw_tbl ∧ goodWord (Cond.fieldLink "CoatRings$Night" 46 "CoatRings$Night" "fears" "[I") = true := ⟨tb1 88 rfl, rfl⟩
theorem k_Rail_27 : Cond.fieldLink "CoatRings$Rail" 27 "CoatRings$Night" "fears" "[I" ∈ lw_tbl ∧ goodWord (Cond.fieldLink "CoatRings$Rail" 27 "CoatRings$Night" "fears" "[I") = true := ⟨tb1 89 rfl, rfl⟩
theorem k_Coat_275 : Cond.fieldLink "CoatRings" 275 "CoatRings$Night" "fears" "[I" ∈ lw_tbl ∧ goodWord (Cond.fieldLink "CoatRings" 275 "CoatRings$Night" "fears" "[I") = true := ⟨tb1 90 rfl, rfl⟩
theorem k_Tape_18 : Cond.fieldLink "CoatRings$Tape" 18 "CoatRings$Tape" "length" "I" ∈ lw_tbl ∧ goodWord (Cond.fieldLink "CoatRings$Tape" 18 "CoatRings$Tape" "length" "I") = true := ⟨tb1 133 rfl, rfl⟩
theorem k_Coat_234 : Cond.fieldLink "CoatRings" 234 "CoatRings$Tape" "length" "I" ∈ lw_tbl ∧ goodWord (Cond.fieldLink "CoatRings" 234 "CoatRings$Tape" "length" "I") = true := ⟨tb1 134 rfl, rfl⟩
theorem k_Tape_33 : Cond.fieldLink "CoatRings$Tape" 33 "CoatRings$Tape" "place" "I" ∈ lw_tbl ∧ goodWord (Cond.fieldLink "CoatRings$Tape" 33 "CoatRings$Tape" "place" "I") = true := ⟨tb1 135 rfl, rfl⟩
theorem k_Tape_9 : Cond.fieldLink "CoatRings$Tape" 9 "CoatRings$Tape" "signs" "[I" ∈ lw_tbl ∧ goodWord (Cond.fieldLink "CoatRings$Tape" 9 "CoatRings$Tape" "signs" "[I") = true := ⟨tb1 136 rfl, rfl⟩
theorem k_Tape_15 : Cond.fieldLink "CoatRings$Tape" 15 "CoatRings$Tape" "draft" "[I" ∈ lw_tbl ∧ goodWord (Cond.fieldLink "CoatRings$Tape" 15 "CoatRings$Tape" "draft" "[I") = true := ⟨tb1 137 rfl, rfl⟩
theorem k_Sheets_11 : Cond.fieldLink "CoatRings$Sheets" 11 "CoatRings$Sheets" "items" "[[I" ∈ lw_tbl ∧ goodWord (Cond.fieldLink "CoatRings$Sheets" 11 "CoatRings$Sheets" "items" "[[I") = true := ⟨tb1 156 rfl, rfl⟩
theorem k_Coat_331 : Cond.fieldLink "CoatRings" 331 "CoatRings$Sheets" "items" "[[I" ∈ lw_tbl ∧ goodWord (Cond.fieldLink "CoatRings" 331 "CoatRings$Sheets" "items" "[[I") = true := ⟨tb1 157 rfl, rfl⟩
theorem k_Sheets_16 : Cond.fieldLink "CoatRings$Sheets" 16 "CoatRings$Sheets" "lanes" "[I" ∈ lw_tbl ∧ goodWord (Cond.fieldLink "CoatRings$Sheets" 16 "CoatRings$Sheets" "lanes" "[I") = true := ⟨tb1 158 rfl, rfl⟩
theorem k_Coat_321 : Cond.fieldLink "CoatRings" 321 "CoatRings$Sheets" "lanes" "[I" ∈ lw_tbl ∧ goodWord (Cond.fieldLink "CoatRings" 321 "CoatRings$Sheets" "lanes" "[I") = true := ⟨tb1 159 rfl, rfl⟩
theorem k_Sheets_20 : Cond.fieldLink "CoatRings$Sheets" 20 "CoatRings$Sheets" "sizes" "[I" ∈ lw_tbl ∧ goodWord (Cond.fieldLink "CoatRings$Sheets" 20 "CoatRings$Sheets" "sizes" "[I") = true := ⟨tb1 160 rfl, rfl⟩
theorem k_Coat_324 : Cond.fieldLink "CoatRings" 324 "CoatRings$Sheets" "sizes" "[I" ∈ lw_tbl ∧ goodWord (Cond.fieldLink "CoatRings" 324 "CoatRings$Sheets" "sizes" "[I") = true := ⟨tb1 161 rfl, rfl⟩
theorem k_Givings_9 : Cond.fieldLink "CoatRings$Givings" 9 "CoatRings$Givings" "allowed" "[I" ∈ lw_tbl ∧ goodWord (Cond.fieldLink "CoatRings$Givings" 9 "CoatRings$Givings" "allowed" "[I") = true := ⟨tb1 175 rfl, rfl⟩
theorem k_Givings_15 : Cond.fieldLink "CoatRings$Givings" 15 "CoatRings$Givings" "ways" "[I" ∈ lw_tbl ∧ goodWord (Cond.fieldLink "CoatRings$Givings" 15 "CoatRings$Givings" "ways" "[I") = true := ⟨tb1 176 rfl, rfl⟩
theorem k_Heap_21 : Cond.fieldLink "CoatRings$Heap" 21 "CoatRings$Heap" "size" "I" ∈ lw_tbl ∧ goodWord (Cond.fieldLink "CoatRings$Heap" 21 "CoatRings$Heap" "size" "I") = true := ⟨tb1 194 rfl, rfl⟩
theorem k_Planner_66 : Cond.fieldLink "CoatRings$Planner" 66 "CoatRings$Heap" "size" "I" ∈ lw_tbl ∧ goodWord (Cond.fieldLink "CoatRings$Planner" 66 "CoatRings$Heap" "size" "I") = true := ⟨tb1 195 rfl, rfl⟩
theorem k_Heap_9 : Cond.fieldLink "CoatRings$Heap" 9 "CoatRings$Heap" "keys" "[I" ∈ lw_tbl ∧ goodWord (Cond.fieldLink "CoatRings$Heap" 9 "CoatRings$Heap" "keys" "[I") = true := ⟨tb1 196 rfl, rfl⟩
theorem k_Planner_82 : Cond.fieldLink "CoatRings$Planner" 82 "CoatRings$Heap" "keys" "[I" ∈ lw_tbl ∧ goodWord (Cond.fieldLink "CoatRings$Planner" 82 "CoatRings$Heap" "keys" "[I") = true := ⟨tb1 197 rfl, rfl⟩
theorem k_Heap_15 : Cond.fieldLink "CoatRings$Heap" 15 "CoatRings$Heap" "tables" "[I" ∈ lw_tbl ∧ goodWord (Cond.fieldLink "CoatRings$Heap" 15 "CoatRings$Heap" "tables" "[I") = true := ⟨tb1 198 rfl, rfl⟩
theorem k_Heap_18 : Cond.fieldLink "CoatRings$Heap" 18 "CoatRings$Heap" "places" "[I" ∈ lw_tbl ∧ goodWord (Cond.fieldLink "CoatRings$Heap" 18 "CoatRings$Heap" "places" "[I") = true := ⟨tb1 199 rfl, rfl⟩
theorem k_Planner_107 : Cond.fieldLink "CoatRings$Planner" 107 "CoatRings$Planner" "known" "Z" ∈ lw_tbl ∧ goodWord (Cond.fieldLink "CoatRings$Planner" 107 "CoatRings$Planner" "known" "Z") = true := ⟨tb1 209 rfl, rfl⟩
theorem k_Coat_202 : Cond.fieldLink "CoatRings" 202 "CoatRings$Planner" "known" "Z" ∈ lw_tbl ∧ goodWord (Cond.fieldLink "CoatRings" 202 "CoatRings$Planner" "known" "Z") = true := ⟨tb1 210 rfl, rfl⟩
theorem k_Planner_183 : Cond.fieldLink "CoatRings$Planner" 183 "CoatRings$Planner" "miles" "I" ∈ lw_tbl ∧ goodWord (Cond.fieldLink "CoatRings$Planner" 183 "CoatRings$Planner" "miles" "I") = true := ⟨tb1 211 rfl, rfl⟩
theorem k_Coat_210 : Cond.fieldLink "CoatRings" 210 "CoatRings$Planner" "miles" "I" ∈ lw_tbl ∧ goodWord (Cond.fieldLink "CoatRings" 210 "CoatRings$Planner" "miles" "I") = true := ⟨tb1 212 rfl, rfl⟩
theorem k_Planner_186 : Cond.fieldLink "CoatRings$Planner" 186 "CoatRings$Planner" "meetings" "I" ∈ lw_tbl ∧ goodWord (Cond.fieldLink "CoatRings$Planner" 186 "CoatRings$Planner" "meetings" "I") = true := ⟨tb1 213 rfl, rfl⟩
theorem k_Coat_211 : Cond.fieldLink "CoatRings" 211 "CoatRings$Planner" "meetings" "I" ∈ lw_tbl ∧ goodWord (Cond.fieldLink "CoatRings" 211 "CoatRings$Planner" "meetings" "I") = true := ⟨tb1 214 rfl, rfl⟩
theorem k_Planner_9 : Cond.fieldLink "CoatRings$Planner" 9 "CoatRings$Planner" "steps" "[I" ∈ lw_tbl ∧ goodWord (Cond.fieldLink "CoatRings$Planner" 9 "CoatRings$Planner" "steps" "[I") = true := ⟨tb1 215 rfl, rfl⟩
theorem k_Coat_212 : Cond.fieldLink "CoatRings" 212 "CoatRings$Planner" "steps" "[I" ∈ lw_tbl ∧ goodWord (Cond.fieldLink "CoatRings" 212 "CoatRings$Planner" "steps" "[I") = true := ⟨tb1 216 rfl, rfl⟩
theorem k_Planner_40 : Cond.fieldLink "CoatRings$Planner" 40 "CoatRings$Planner" "night" "LCoatRings$Night;" ∈ lw_tbl ∧ goodWord (Cond.fieldLink "CoatRings$Planner" 40 "CoatRings$Planner" "night" "LCoatRings$Night;") = true := ⟨tb1 217 rfl, rfl⟩
theorem k_Planner_50 : Cond.fieldLink "CoatRings$Planner" 50 "CoatRings$Planner" "bound" "I" ∈ lw_tbl ∧ goodWord (Cond.fieldLink "CoatRings$Planner" 50 "CoatRings$Planner" "bound" "I") = true := ⟨tb1 218 rfl, rfl⟩
theorem k_Planner_53 : Cond.fieldLink "CoatRings$Planner" 53 "CoatRings$Planner" "goal" "I" ∈ lw_tbl ∧ goodWord (Cond.fieldLink "CoatRings$Planner" 53 "CoatRings$Planner" "goal" "I") = true := ⟨tb1 219 rfl, rfl⟩
theorem k_Planner_57 : Cond.fieldLink "CoatRings$Planner" 57 "CoatRings$Planner" "limit" "I" ∈ lw_tbl ∧ goodWord (Cond.fieldLink "CoatRings$Planner" 57 "CoatRings$Planner" "limit" "I") = true := ⟨tb1 220 rfl, rfl⟩
theorem k_Planner_15 : Cond.fieldLink "CoatRings$Planner" 15 "CoatRings$Planner" "gone" "[I" ∈ lw_tbl ∧ goodWord (Cond.fieldLink "CoatRings$Planner" 15 "CoatRings$Planner" "gone" "[I") = true := ⟨tb1 221 rfl, rfl⟩
theorem k_Planner_18 : Cond.fieldLink "CoatRings$Planner" 18 "CoatRings$Planner" "rows" "[I" ∈ lw_tbl ∧ goodWord (Cond.fieldLink "CoatRings$Planner" 18 "CoatRings$Planner" "rows" "[I") = true := ⟨tb1 222 rfl, rfl⟩
theorem k_Planner_21 : Cond.fieldLink "CoatRings$Planner" 21 "CoatRings$Planner" "from" "[I" ∈ lw_tbl ∧ goodWord (Cond.fieldLink "CoatRings$Planner" 21 "CoatRings$Planner" "from" "[I") = true := ⟨tb1 223 rfl, rfl⟩
theorem k_Planner_24 : Cond.fieldLink "CoatRings$Planner" 24 "CoatRings$Planner" "by" "[I" ∈ lw_tbl ∧ goodWord (Cond.fieldLink "CoatRings$Planner" 24 "CoatRings$Planner" "by" "[I") = true := ⟨tb1 224 rfl, rfl⟩
theorem k_Planner_30 : Cond.fieldLink "CoatRings$Planner" 30 "CoatRings$Planner" "heap" "LCoatRings$Heap;" ∈ lw_tbl ∧ goodWord (Cond.fieldLink "CoatRings$Planner" 30 "CoatRings$Planner" "heap" "LCoatRings$Heap;") = true := ⟨tb1 225 rfl, rfl⟩
theorem k_Planner_34 : Cond.fieldLink "CoatRings$Planner" 34 "CoatRings$Planner" "innMiles" "[I" ∈ lw_tbl ∧ goodWord (Cond.fieldLink "CoatRings$Planner" 34 "CoatRings$Planner" "innMiles" "[I") = true := ⟨tb1 226 rfl, rfl⟩
theorem k_Planner_37 : Cond.fieldLink "CoatRings$Planner" 37 "CoatRings$Planner" "innMeeting" "[I" ∈ lw_tbl ∧ goodWord (Cond.fieldLink "CoatRings$Planner" 37 "CoatRings$Planner" "innMeeting" "[I") = true := ⟨tb1 227 rfl, rfl⟩
theorem k_Days_67 : Cond.fieldLink "CoatRings$Days" 67 "CoatRings$Days" "known" "Z" ∈ lw_tbl ∧ goodWord (Cond.fieldLink "CoatRings$Days" 67 "CoatRings$Days" "known" "Z") = true := ⟨tb2 39 rfl, rfl⟩
theorem k_Coat_215 : Cond.fieldLink "CoatRings" 215 "CoatRings$Days" "known" "Z" ∈ lw_tbl ∧ goodWord (Cond.fieldLink "CoatRings" 215 "CoatRings$Days" "known" "Z") = true := ⟨tb2 40 rfl, rfl⟩
theorem k_Days_53 : Cond.fieldLink "CoatRings$Days" 53 "CoatRings$Days" "days" "I" ∈ lw_tbl ∧ goodWord (Cond.fieldLink "CoatRings$Days" 53 "CoatRings$Days" "days" "I") = true := ⟨tb2 41 rfl, rfl⟩
theorem k_Coat_217 : Cond.fieldLink "CoatRings" 217 "CoatRings$Days" "days" "I" ∈ lw_tbl ∧ goodWord (Cond.fieldLink "CoatRings" 217 "CoatRings$Days" "days" "I") = true := ⟨tb2 42 rfl, rfl⟩
theorem k_Days_60 : Cond.fieldLink "CoatRings$Days" 60 "CoatRings$Days" "miles" "I" ∈ lw_tbl ∧ goodWord (Cond.fieldLink "CoatRings$Days" 60 "CoatRings$Days" "miles" "I") = true := ⟨tb2 43 rfl, rfl⟩
theorem k_Coat_219 : Cond.fieldLink "CoatRings" 219 "CoatRings$Days" "miles" "I" ∈ lw_tbl ∧ goodWord (Cond.fieldLink "CoatRings" 219 "CoatRings$Days" "miles" "I") = true := ⟨tb2 44 rfl, rfl⟩
theorem k_Days_9 : Cond.fieldLink "CoatRings$Days" 9 "CoatRings$Days" "matchings" "[I" ∈ lw_tbl ∧ goodWord (Cond.fieldLink "CoatRings$Days" 9 "CoatRings$Days" "matchings" "[I") = true := ⟨tb2 45 rfl, rfl⟩
theorem k_Days_15 : Cond.fieldLink "CoatRings$Days" 15 "CoatRings$Days" "milesOf" "[I" ∈ lw_tbl ∧ goodWord (Cond.fieldLink "CoatRings$Days" 15 "CoatRings$Days" "milesOf" "[I") = true := ⟨tb2 46 rfl, rfl⟩
theorem k_Rail_54 : Cond.fieldLink "CoatRings$Rail" 54 "CoatRings$Rail" "known" "Z" ∈ lw_tbl ∧ goodWord (Cond.fieldLink "CoatRings$Rail" 54 "CoatRings$Rail" "known" "Z") = true := ⟨tb2 64 rfl, rfl⟩
theorem k_Coat_288 : Cond.fieldLink "CoatRings" 288 "CoatRings$Rail" "known" "Z" ∈ lw_tbl ∧ goodWord (Cond.fieldLink "CoatRings" 288 "CoatRings$Rail" "known" "Z") = true := ⟨tb2 65 rfl, rfl⟩
theorem k_Rail_37 : Cond.fieldLink "CoatRings$Rail" 37 "CoatRings$Rail" "greatest" "I" ∈ lw_tbl ∧ goodWord (Cond.fieldLink "CoatRings$Rail" 37 "CoatRings$Rail" "greatest" "I") = true := ⟨tb2 66 rfl, rfl⟩
theorem k_Coat_290 : Cond.fieldLink "CoatRings" 290 "CoatRings$Rail" "greatest" "I" ∈ lw_tbl ∧ goodWord (Cond.fieldLink "CoatRings" 290 "CoatRings$Rail" "greatest" "I") = true := ⟨tb2 67 rfl, rfl⟩
theorem k_Rail_40 : Cond.fieldLink "CoatRings$Rail" 40 "CoatRings$Rail" "sum" "I" ∈ lw_tbl ∧ goodWord (Cond.fieldLink "CoatRings$Rail" 40 "CoatRings$Rail" "sum" "I") = true := ⟨tb2 68 rfl, rfl⟩
theorem k_Coat_293 : Cond.fieldLink "CoatRings" 293 "CoatRings$Rail" "sum" "I" ∈ lw_tbl ∧ goodWord (Cond.fieldLink "CoatRings" 293 "CoatRings$Rail" "sum" "I") = true := ⟨tb2 69 rfl, rfl⟩
theorem k_Rail_9 : Cond.fieldLink "CoatRings$Rail" 9 "CoatRings$Rail" "order" "[I" ∈ lw_tbl ∧ goodWord (Cond.fieldLink "CoatRings$Rail" 9 "CoatRings$Rail" "order" "[I") = true := ⟨tb2 70 rfl, rfl⟩
theorem k_Coat_296 : Cond.fieldLink "CoatRings" 296 "CoatRings$Rail" "order" "[I" ∈ lw_tbl ∧ goodWord (Cond.fieldLink "CoatRings" 296 "CoatRings$Rail" "order" "[I") = true := ⟨tb2 71 rfl, rfl⟩
theorem k_Rail_15 : Cond.fieldLink "CoatRings$Rail" 15 "CoatRings$Rail" "trial" "[I" ∈ lw_tbl ∧ goodWord (Cond.fieldLink "CoatRings$Rail" 15 "CoatRings$Rail" "trial" "[I") = true := ⟨tb2 72 rfl, rfl⟩
theorem k_Rail_18 : Cond.fieldLink "CoatRings$Rail" 18 "CoatRings$Rail" "targets" "[I" ∈ lw_tbl ∧ goodWord (Cond.fieldLink "CoatRings$Rail" 18 "CoatRings$Rail" "targets" "[I") = true := ⟨tb2 73 rfl, rfl⟩
theorem k_Coat_10 : Cond.fieldLink "CoatRings" 10 "CoatRings" "night" "LCoatRings$Night;" ∈ lw_tbl ∧ goodWord (Cond.fieldLink "CoatRings" 10 "CoatRings" "night" "LCoatRings$Night;") = true := ⟨tb2 89 rfl, rfl⟩
theorem k_Coat_16 : Cond.fieldLink "CoatRings" 16 "CoatRings" "kept" "LCoatRings$Night;" ∈ lw_tbl ∧ goodWord (Cond.fieldLink "CoatRings" 16 "CoatRings" "kept" "LCoatRings$Night;") = true := ⟨tb2 90 rfl, rfl⟩
theorem k_Coat_309 : Cond.fieldLink "CoatRings" 309 "CoatRings" "isKept" "Z" ∈ lw_tbl ∧ goodWord (Cond.fieldLink "CoatRings" 309 "CoatRings" "isKept" "Z") = true := ⟨tb2 91 rfl, rfl⟩
theorem k_Coat_22 : Cond.fieldLink "CoatRings" 22 "CoatRings" "tape" "LCoatRings$Tape;" ∈ lw_tbl ∧ goodWord (Cond.fieldLink "CoatRings" 22 "CoatRings" "tape" "LCoatRings$Tape;") = true := ⟨tb2 92 rfl, rfl⟩
theorem k_Coat_29 : Cond.fieldLink "CoatRings" 29 "CoatRings" "sheets" "LCoatRings$Sheets;" ∈ lw_tbl ∧ goodWord (Cond.fieldLink "CoatRings" 29 "CoatRings" "sheets" "LCoatRings$Sheets;") = true := ⟨tb2 93 rfl, rfl⟩
theorem k_Coat_33 : Cond.fieldLink "CoatRings" 33 "CoatRings" "taken" "[I" ∈ lw_tbl ∧ goodWord (Cond.fieldLink "CoatRings" 33 "CoatRings" "taken" "[I") = true := ⟨tb2 94 rfl, rfl⟩
theorem k_Coat_40 : Cond.fieldLink "CoatRings" 40 "CoatRings" "givings" "LCoatRings$Givings;" ∈ lw_tbl ∧ goodWord (Cond.fieldLink "CoatRings" 40 "CoatRings" "givings" "LCoatRings$Givings;") = true := ⟨tb2 95 rfl, rfl⟩
theorem k_Coat_47 : Cond.fieldLink "CoatRings" 47 "CoatRings" "planner" "LCoatRings$Planner;" ∈ lw_tbl ∧ goodWord (Cond.fieldLink "CoatRings" 47 "CoatRings" "planner" "LCoatRings$Planner;") = true := ⟨tb2 96 rfl, rfl⟩
theorem k_Coat_54 : Cond.fieldLink "CoatRings" 54 "CoatRings" "days" "LCoatRings$Days;" ∈ lw_tbl ∧ goodWord (Cond.fieldLink "CoatRings" 54 "CoatRings" "days" "LCoatRings$Days;") = true := ⟨tb2 97 rfl, rfl⟩
theorem k_Coat_61 : Cond.fieldLink "CoatRings" 61 "CoatRings" "rail" "LCoatRings$Rail;" ∈ lw_tbl ∧ goodWord (Cond.fieldLink "CoatRings" 61 "CoatRings" "rail" "LCoatRings$Rail;") = true := ⟨tb2 98 rfl, rfl⟩
theorem k_Coat_67 : Cond.fieldLink "CoatRings" 67 "CoatRings" "slips" "[LCoatRings$Slips;" ∈ lw_tbl ∧ goodWord (Cond.fieldLink "CoatRings" 67 "CoatRings" "slips" "[LCoatRings$Slips;") = true := ⟨tb2 99 rfl, rfl⟩
theorem k_Coat_71 : Cond.fieldLink "CoatRings" 71 "CoatRings" "slipQueue" "[I" ∈ lw_tbl ∧ goodWord (Cond.fieldLink "CoatRings" 71 "CoatRings" "slipQueue" "[I") = true := ⟨tb2 100 rfl, rfl⟩
theorem k_Slips_50 : Cond.fieldLink "CoatRings$Slips" 50 "CoatRings$Slips" "people" "I" ∈ lw_tbl ∧ goodWord (Cond.fieldLink "CoatRings$Slips" 50 "CoatRings$Slips" "people" "I") = true := ⟨tb4 58 rfl, rfl⟩
theorem k_Coat_350 : Cond.fieldLink "CoatRings" 350 "CoatRings$Slips" "people" "I" ∈ lw_tbl ∧ goodWord (Cond.fieldLink "CoatRings" 350 "CoatRings$Slips" "people" "I") = true := ⟨tb4 59 rfl, rfl⟩
theorem k_Slips_24 : Cond.fieldLink "CoatRings$Slips" 24 "CoatRings$Slips" "kinds" "I" ∈ lw_tbl ∧ goodWord (Cond.fieldLink "CoatRings$Slips" 24 "CoatRings$Slips" "kinds" "I") = true := ⟨tb4 60 rfl, rfl⟩
theorem k_Slips_64 : Cond.fieldLink "CoatRings$Slips" 64 "CoatRings$Slips" "known" "I" ∈ lw_tbl ∧ goodWord (Cond.fieldLink "CoatRings$Slips" 64 "CoatRings$Slips" "known" "I") = true := ⟨tb4 61 rfl, rfl⟩
theorem k_Slips_9 : Cond.fieldLink "CoatRings$Slips" 9 "CoatRings$Slips" "slips" "[I" ∈ lw_tbl ∧ goodWord (Cond.fieldLink "CoatRings$Slips" 9 "CoatRings$Slips" "slips" "[I") = true := ⟨tb4 62 rfl, rfl⟩
theorem k_Slips_15 : Cond.fieldLink "CoatRings$Slips" 15 "CoatRings$Slips" "targets" "[I" ∈ lw_tbl ∧ goodWord (Cond.fieldLink "CoatRings$Slips" 15 "CoatRings$Slips" "targets" "[I") = true := ⟨tb4 63 rfl, rfl⟩
theorem k_Slips_18 : Cond.fieldLink "CoatRings$Slips" 18 "CoatRings$Slips" "fewest" "[I" ∈ lw_tbl ∧ goodWord (Cond.fieldLink "CoatRings$Slips" 18 "CoatRings$Slips" "fewest" "[I") = true := ⟨tb4 64 rfl, rfl⟩
theorem k_Slips_21 : Cond.fieldLink "CoatRings$Slips" 21 "CoatRings$Slips" "ways" "[I" ∈ lw_tbl ∧ goodWord (Cond.fieldLink "CoatRings$Slips" 21 "CoatRings$Slips" "ways" "[I") = true := ⟨tb4 65 rfl, rfl⟩
theorem k_M_118 : Cond.fieldLink "CoatRingsModel" 118 "CoatRingsModel" "people" "I" ∈ lw_tbl ∧ goodWord (Cond.fieldLink "CoatRingsModel" 118 "CoatRingsModel" "people" "I") = true := ⟨tb5 8 rfl, rfl⟩
theorem k_M_7 : Cond.fieldLink "CoatRingsModel" 7 "CoatRingsModel" "xs" "[I" ∈ lw_tbl ∧ goodWord (Cond.fieldLink "CoatRingsModel" 7 "CoatRingsModel" "xs" "[I") = true := ⟨tb5 9 rfl, rfl⟩
theorem k_M_13 : Cond.fieldLink "CoatRingsModel" 13 "CoatRingsModel" "ys" "[I" ∈ lw_tbl ∧ goodWord (Cond.fieldLink "CoatRingsModel" 13 "CoatRingsModel" "ys" "[I") = true := ⟨tb5 10 rfl, rfl⟩
theorem k_M_16 : Cond.fieldLink "CoatRingsModel" 16 "CoatRingsModel" "marks" "[I" ∈ lw_tbl ∧ goodWord (Cond.fieldLink "CoatRingsModel" 16 "CoatRingsModel" "marks" "[I") = true := ⟨tb5 11 rfl, rfl⟩
theorem k_M_19 : Cond.fieldLink "CoatRingsModel" 19 "CoatRingsModel" "has" "[I" ∈ lw_tbl ∧ goodWord (Cond.fieldLink "CoatRingsModel" 19 "CoatRingsModel" "has" "[I") = true := ⟨tb5 12 rfl, rfl⟩
theorem k_M_22 : Cond.fieldLink "CoatRingsModel" 22 "CoatRingsModel" "likes" "[I" ∈ lw_tbl ∧ goodWord (Cond.fieldLink "CoatRingsModel" 22 "CoatRingsModel" "likes" "[I") = true := ⟨tb5 13 rfl, rfl⟩
theorem k_M_25 : Cond.fieldLink "CoatRingsModel" 25 "CoatRingsModel" "wonts" "[I" ∈ lw_tbl ∧ goodWord (Cond.fieldLink "CoatRingsModel" 25 "CoatRingsModel" "wonts" "[I") = true := ⟨tb5 14 rfl, rfl⟩
theorem k_M_28 : Cond.fieldLink "CoatRingsModel" 28 "CoatRingsModel" "may" "[I" ∈ lw_tbl ∧ goodWord (Cond.fieldLink "CoatRingsModel" 28 "CoatRingsModel" "may" "[I") = true := ⟨tb5 15 rfl, rfl⟩
theorem k_M_174 : Cond.fieldLink "CoatRingsModel" 174 "CoatRingsModel" "inns" "I" ∈ lw_tbl ∧ goodWord (Cond.fieldLink "CoatRingsModel" 174 "CoatRingsModel" "inns" "I") = true := ⟨tb5 16 rfl, rfl⟩
theorem k_M_31 : Cond.fieldLink "CoatRingsModel" 31 "CoatRingsModel" "innX" "[I" ∈ lw_tbl ∧ goodWord (Cond.fieldLink "CoatRingsModel" 31 "CoatRingsModel" "innX" "[I") = true := ⟨tb5 17 rfl, rfl⟩
theorem k_M_34 : Cond.fieldLink "CoatRingsModel" 34 "CoatRingsModel" "innY" "[I" ∈ lw_tbl ∧ goodWord (Cond.fieldLink "CoatRingsModel" 34 "CoatRingsModel" "innY" "[I") = true := ⟨tb5 18 rfl, rfl⟩
theorem k_M_37 : Cond.fieldLink "CoatRingsModel" 37 "CoatRingsModel" "rate" "I" ∈ lw_tbl ∧ goodWord (Cond.fieldLink "CoatRingsModel" 37 "CoatRingsModel" "rate" "I") = true := ⟨tb5 19 rfl, rfl⟩
theorem k_M_41 : Cond.fieldLink "CoatRingsModel" 41 "CoatRingsModel" "seats" "I" ∈ lw_tbl ∧ goodWord (Cond.fieldLink "CoatRingsModel" 41 "CoatRingsModel" "seats" "I") = true := ⟨tb5 20 rfl, rfl⟩
theorem k_M_181 : Cond.fieldLink "CoatRingsModel" 181 "CoatRingsModel" "meetings" "I" ∈ lw_tbl ∧ goodWord (Cond.fieldLink "CoatRingsModel" 181 "CoatRingsModel" "meetings" "I") = true := ⟨tb5 21 rfl, rfl⟩
theorem k_M_184 : Cond.fieldLink "CoatRingsModel" 184 "CoatRingsModel" "miles" "I" ∈ lw_tbl ∧ goodWord (Cond.fieldLink "CoatRingsModel" 184 "CoatRingsModel" "miles" "I") = true := ⟨tb5 22 rfl, rfl⟩
theorem k_M_44 : Cond.fieldLink "CoatRingsModel" 44 "CoatRingsModel" "told" "[I" ∈ lw_tbl ∧ goodWord (Cond.fieldLink "CoatRingsModel" 44 "CoatRingsModel" "told" "[I") = true := ⟨tb5 23 rfl, rfl⟩
theorem k_M_47 : Cond.fieldLink "CoatRingsModel" 47 "CoatRingsModel" "one" "[I" ∈ lw_tbl ∧ goodWord (Cond.fieldLink "CoatRingsModel" 47 "CoatRingsModel" "one" "[I") = true := ⟨tb5 24 rfl, rfl⟩
theorem k_M_220 : Cond.fieldLink "CoatRingsModel" 220 "CoatRingsModel" "tables" "I" ∈ lw_tbl ∧ goodWord (Cond.fieldLink "CoatRingsModel" 220 "CoatRingsModel" "tables" "I") = true := ⟨tb5 25 rfl, rfl⟩
theorem k_M_50 : Cond.fieldLink "CoatRingsModel" 50 "CoatRingsModel" "rows" "[I" ∈ lw_tbl ∧ goodWord (Cond.fieldLink "CoatRingsModel" 50 "CoatRingsModel" "rows" "[I") = true := ⟨tb5 26 rfl, rfl⟩
theorem k_M_54 : Cond.fieldLink "CoatRingsModel" 54 "CoatRingsModel" "numberOf" "[I" ∈ lw_tbl ∧ goodWord (Cond.fieldLink "CoatRingsModel" 54 "CoatRingsModel" "numberOf" "[I") = true := ⟨tb5 27 rfl, rfl⟩
theorem k_M_57 : Cond.fieldLink "CoatRingsModel" 57 "CoatRingsModel" "leastMiles" "[I" ∈ lw_tbl ∧ goodWord (Cond.fieldLink "CoatRingsModel" 57 "CoatRingsModel" "leastMiles" "[I") = true := ⟨tb5 28 rfl, rfl⟩
theorem k_M_60 : Cond.fieldLink "CoatRingsModel" 60 "CoatRingsModel" "leastMany" "[I" ∈ lw_tbl ∧ goodWord (Cond.fieldLink "CoatRingsModel" 60 "CoatRingsModel" "leastMany" "[I") = true := ⟨tb5 29 rfl, rfl⟩
theorem k_M_63 : Cond.fieldLink "CoatRingsModel" 63 "CoatRingsModel" "then" "[I" ∈ lw_tbl ∧ goodWord (Cond.fieldLink "CoatRingsModel" 63 "CoatRingsModel" "then" "[I") = true := ⟨tb5 30 rfl, rfl⟩
theorem k_M_67 : Cond.fieldLink "CoatRingsModel" 67 "CoatRingsModel" "steps" "[I" ∈ lw_tbl ∧ goodWord (Cond.fieldLink "CoatRingsModel" 67 "CoatRingsModel" "steps" "[I") = true := ⟨tb5 31 rfl, rfl⟩
theorem k_M_70 : Cond.fieldLink "CoatRingsModel" 70 "CoatRingsModel" "costs" "[I" ∈ lw_tbl ∧ goodWord (Cond.fieldLink "CoatRingsModel" 70 "CoatRingsModel" "costs" "[I") = true := ⟨tb5 32 rfl, rfl⟩
theorem k_M_133 : Cond.fieldLink "CoatRingsModel" 133 "CoatRingsModel" "version" "I" ∈ lw_tbl ∧ goodWord (Cond.fieldLink "CoatRingsModel" 133 "CoatRingsModel" "version" "I") = true := ⟨tb5 33 rfl, rfl⟩
theorem k_M_73 : Cond.fieldLink "CoatRingsModel" 73 "CoatRingsModel" "laid" "I" ∈ lw_tbl ∧ goodWord (Cond.fieldLink "CoatRingsModel" 73 "CoatRingsModel" "laid" "I") = true := ⟨tb5 34 rfl, rfl⟩
theorem k_M_76 : Cond.fieldLink "CoatRingsModel" 76 "CoatRingsModel" "two" "[I" ∈ lw_tbl ∧ goodWord (Cond.fieldLink "CoatRingsModel" 76 "CoatRingsModel" "two" "[I") = true := ⟨tb5 35 rfl, rfl⟩
theorem k_M_79 : Cond.fieldLink "CoatRingsModel" 79 "CoatRingsModel" "tape" "[I" ∈ lw_tbl ∧ goodWord (Cond.fieldLink "CoatRingsModel" 79 "CoatRingsModel" "tape" "[I") = true := ⟨tb5 36 rfl, rfl⟩
theorem k_M_275 : Cond.fieldLink "CoatRingsModel" 275 "CoatRingsModel" "taped" "I" ∈ lw_tbl ∧ goodWord (Cond.fieldLink "CoatRingsModel" 275 "CoatRingsModel" "taped" "I") = true := ⟨tb5 37 rfl, rfl⟩
theorem k_M_278 : Cond.fieldLink "CoatRingsModel" 278 "CoatRingsModel" "at" "I" ∈ lw_tbl ∧ goodWord (Cond.fieldLink "CoatRingsModel" 278 "CoatRingsModel" "at" "I") = true := ⟨tb5 38 rfl, rfl⟩
theorem k_M_281 : Cond.fieldLink "CoatRingsModel" 281 "CoatRingsModel" "wrong" "Z" ∈ lw_tbl ∧ goodWord (Cond.fieldLink "CoatRingsModel" 281 "CoatRingsModel" "wrong" "Z") = true := ⟨tb5 39 rfl, rfl⟩
theorem k_M_82 : Cond.fieldLink "CoatRingsModel" 82 "CoatRingsModel" "read" "[I" ∈ lw_tbl ∧ goodWord (Cond.fieldLink "CoatRingsModel" 82 "CoatRingsModel" "read" "[I") = true := ⟨tb5 40 rfl, rfl⟩
theorem k_M_85 : Cond.fieldLink "CoatRingsModel" 85 "CoatRingsModel" "worldsBy" "[I" ∈ lw_tbl ∧ goodWord (Cond.fieldLink "CoatRingsModel" 85 "CoatRingsModel" "worldsBy" "[I") = true := ⟨tb5 41 rfl, rfl⟩
theorem k_M_187 : Cond.fieldLink "CoatRingsModel" 187 "CoatRingsModel" "feared" "I" ∈ lw_tbl ∧ goodWord (Cond.fieldLink "CoatRingsModel" 187 "CoatRingsModel" "feared" "I") = true := ⟨tb5 42 rfl, rfl⟩
theorem k_M_88 : Cond.fieldLink "CoatRingsModel" 88 "CoatRingsModel" "fears" "[I" ∈ lw_tbl ∧ goodWord (Cond.fieldLink "CoatRingsModel" 88 "CoatRingsModel" "fears" "[I") = true := ⟨tb5 43 rfl, rfl⟩
theorem k_M_91 : Cond.fieldLink "CoatRingsModel" 91 "CoatRingsModel" "fewestTo" "[I" ∈ lw_tbl ∧ goodWord (Cond.fieldLink "CoatRingsModel" 91 "CoatRingsModel" "fewestTo" "[I") = true := ⟨tb5 44 rfl, rfl⟩
theorem k_M_94 : Cond.fieldLink "CoatRingsModel" 94 "CoatRingsModel" "rowsTo" "[I" ∈ lw_tbl ∧ goodWord (Cond.fieldLink "CoatRingsModel" 94 "CoatRingsModel" "rowsTo" "[I") = true := ⟨tb5 45 rfl, rfl⟩
theorem k_M_97 : Cond.fieldLink "CoatRingsModel" 97 "CoatRingsModel" "got" "[I" ∈ lw_tbl ∧ goodWord (Cond.fieldLink "CoatRingsModel" 97 "CoatRingsModel" "got" "[I") = true := ⟨tb5 46 rfl, rfl⟩
theorem k_M_100 : Cond.fieldLink "CoatRingsModel" 100 "CoatRingsModel" "points" "[I" ∈ lw_tbl ∧ goodWord (Cond.fieldLink "CoatRingsModel" 100 "CoatRingsModel" "points" "[I") = true := ⟨tb5 47 rfl, rfl⟩
theorem k_M_103 : Cond.fieldLink "CoatRingsModel" 103 "CoatRingsModel" "image" "[I" ∈ lw_tbl ∧ goodWord (Cond.fieldLink "CoatRingsModel" 103 "CoatRingsModel" "image" "[I") = true := ⟨tb5 48 rfl, rfl⟩
theorem k_M_335 : Cond.fieldLink "CoatRingsModel" 335 "CoatRingsModel" "kept" "Z" ∈ lw_tbl ∧ goodWord (Cond.fieldLink "CoatRingsModel" 335 "CoatRingsModel" "kept" "Z") = true := ⟨tb5 49 rfl, rfl⟩
theorem k_M_106 : Cond.fieldLink "CoatRingsModel" 106 "CoatRingsModel" "lanes" "[I" ∈ lw_tbl ∧ goodWord (Cond.fieldLink "CoatRingsModel" 106 "CoatRingsModel" "lanes" "[I") = true := ⟨tb5 50 rfl, rfl⟩
theorem k_M_109 : Cond.fieldLink "CoatRingsModel" 109 "CoatRingsModel" "sizes" "[I" ∈ lw_tbl ∧ goodWord (Cond.fieldLink "CoatRingsModel" 109 "CoatRingsModel" "sizes" "[I") = true := ⟨tb5 51 rfl, rfl⟩
theorem k_M_112 : Cond.fieldLink "CoatRingsModel" 112 "CoatRingsModel" "items" "[I" ∈ lw_tbl ∧ goodWord (Cond.fieldLink "CoatRingsModel" 112 "CoatRingsModel" "items" "[I") = true := ⟨tb5 52 rfl, rfl⟩
theorem k_M_115 : Cond.fieldLink "CoatRingsModel" 115 "CoatRingsModel" "moved" "[I" ∈ lw_tbl ∧ goodWord (Cond.fieldLink "CoatRingsModel" 115 "CoatRingsModel" "moved" "[I") = true := ⟨tb5 53 rfl, rfl⟩
theorem k_Law_7 : Cond.classLink "CoatRingsLaw" 7 "CoatRings" ∈ lw_tbl ∧ goodWord (Cond.classLink "CoatRingsLaw" 7 "CoatRings") = true := ⟨tb1 18 rfl, rfl⟩
theorem k_Coat_7 : Cond.classLink "CoatRings" 7 "CoatRings$Night" ∈ lw_tbl ∧ goodWord (Cond.classLink "CoatRings" 7 "CoatRings$Night") = true := ⟨tb1 26 rfl, rfl⟩
theorem k_Coat_19 : Cond.classLink "CoatRings" 19 "CoatRings$Tape" ∈ lw_tbl ∧ goodWord (Cond.classLink "CoatRings" 19 "CoatRings$Tape") = true := ⟨tb1 127 rfl, rfl⟩
theorem k_Coat_26 : Cond.classLink "CoatRings" 26 "CoatRings$Sheets" ∈ lw_tbl ∧ goodWord (Cond.classLink "CoatRings" 26 "CoatRings$Sheets") = true := ⟨tb1 147 rfl, rfl⟩
theorem k_Sheets_9 : Cond.classLink "CoatRings$Sheets" 9 "[[I" ∈ lw_tbl ∧ goodWord (Cond.classLink "CoatRings$Sheets" 9 "[[I") = true := ⟨tb1 153 rfl, rfl⟩
theorem k_Coat_37 : Cond.classLink "CoatRings" 37 "CoatRings$Givings" ∈ lw_tbl ∧ goodWord (Cond.classLink "CoatRings" 37 "CoatRings$Givings") = true := ⟨tb1 169 rfl, rfl⟩
theorem k_Coat_44 : Cond.classLink "CoatRings" 44 "CoatRings$Planner" ∈ lw_tbl ∧ goodWord (Cond.classLink "CoatRings" 44 "CoatRings$Planner") = true := ⟨tb1 182 rfl, rfl⟩
theorem k_Planner_27 : Cond.classLink "CoatRings$Planner" 27 "CoatRings$Heap" ∈ lw_tbl ∧ goodWord (Cond.classLink "CoatRings$Planner" 27 "CoatRings$Heap") = true := ⟨tb1 188 rfl, rfl⟩
theorem k_Coat_51 : Cond.classLink "CoatRings" 51 "CoatRings$Days" ∈ lw_tbl ∧ goodWord (Cond.classLink "CoatRings" 51 "CoatRings$Days") = true := ⟨tb2 19 rfl, rfl⟩
theorem k_Coat_58 : Cond.classLink "CoatRings" 58 "CoatRings$Rail" ∈ lw_tbl ∧ goodWord (Cond.classLink "CoatRings" 58 "CoatRings$Rail") = true := ⟨tb2 58 rfl, rfl⟩
theorem k_Coat_65 : Cond.classLink "CoatRings" 65 "CoatRings$Slips" ∈ lw_tbl ∧ goodWord (Cond.classLink "CoatRings" 65 "CoatRings$Slips") = true := ⟨tb2 87 rfl, rfl⟩
theorem k_Law_10 : Cond.classLink "CoatRingsLaw" 10 "CoatRingsModel" ∈ lw_tbl ∧ goodWord (Cond.classLink "CoatRingsLaw" 10 "CoatRingsModel") = true := ⟨tb5 0 rfl, rfl⟩
theorem k_Night_29 : Cond.constant "CoatRings$Night" 29 181896 ∈ lw_tbl ∧ goodWord (Cond.constant "CoatRings$Night" 29 181896) = true := ⟨tb1 32 rfl, rfl⟩
theorem k_Days_20 : Cond.constant "CoatRings$Days" 20 181896 ∈ lw_tbl ∧ goodWord (Cond.constant "CoatRings$Days" 20 181896) = true := ⟨tb2 25 rfl, rfl⟩
theorem k_JI_264 : Cond.constant "java/lang/Integer" 264 65536 ∈ lw_tbl ∧ goodWord (Cond.constant "java/lang/Integer" 264 65536) = true := ⟨tb2 162 rfl, rfl⟩
theorem k_JI_265 : Cond.constant "java/lang/Integer" 265 1431655765 ∈ lw_tbl ∧ goodWord (Cond.constant "java/lang/Integer" 265 1431655765) = true := ⟨tb2 166 rfl, rfl⟩
theorem k_JI_266 : Cond.constant "java/lang/Integer" 266 858993459 ∈ lw_tbl ∧ goodWord (Cond.constant "java/lang/Integer" 266 858993459) = true := ⟨tb2 167 rfl, rfl⟩
theorem k_JI_267 : Cond.constant "java/lang/Integer" 267 252645135 ∈ lw_tbl ∧ goodWord (Cond.constant "java/lang/Integer" 267 252645135) = true := ⟨tb2 168 rfl, rfl⟩
theorem k_Rows_11 : Cond.constant "CoatRings$Rows" 11 181896 ∈ lw_tbl ∧ goodWord (Cond.constant "CoatRings$Rows" 11 181896) = true := ⟨tb2 217 rfl, rfl⟩
theorem k_Planner_56 : Cond.constant "CoatRings$Planner" 56 2147483647 ∈ lw_tbl ∧ goodWord (Cond.constant "CoatRings$Planner" 56 2147483647) = true := ⟨tb3 91 rfl, rfl⟩
theorem k_Days_59 : Cond.constant "CoatRings$Days" 59 2147483647 ∈ lw_tbl ∧ goodWord (Cond.constant "CoatRings$Days" 59 2147483647) = true := ⟨tb3 183 rfl, rfl⟩
theorem k_Slips_30 : Cond.constant "CoatRings$Slips" 30 181896 ∈ lw_tbl ∧ goodWord (Cond.constant "CoatRings$Slips" 30 181896) = true := ⟨tb4 95 rfl, rfl⟩
theorem k_Rail_36 : Cond.constant "CoatRings$Rail" 36 2147483647 ∈ lw_tbl ∧ goodWord (Cond.constant "CoatRings$Rail" 36 2147483647) = true := ⟨tb4 151 rfl, rfl⟩
theorem k_Coat_360 : Cond.constant "CoatRings" 360 181896 ∈ lw_tbl ∧ goodWord (Cond.constant "CoatRings" 360 181896) = true := ⟨tb4 179 rfl, rfl⟩
theorem k_M_53 : Cond.constant "CoatRingsModel" 53 46656 ∈ lw_tbl ∧ goodWord (Cond.constant "CoatRingsModel" 53 46656) = true := ⟨tb5 6 rfl, rfl⟩
theorem k_M_66 : Cond.constant "CoatRingsModel" 66 214560 ∈ lw_tbl ∧ goodWord (Cond.constant "CoatRingsModel" 66 214560) = true := ⟨tb5 7 rfl, rfl⟩
theorem k_M_125 : Cond.constantLong "CoatRingsModel" 125 19 ∈ lw_tbl ∧ goodWord (Cond.constantLong "CoatRingsModel" 125 19) = true := ⟨tb5 154 rfl, rfl⟩
theorem k_M_131 : Cond.constantLong "CoatRingsModel" 131 63 ∈ lw_tbl ∧ goodWord (Cond.constantLong "CoatRingsModel" 131 63) = true := ⟨tb5 158 rfl, rfl⟩
theorem k_M_144 : Cond.constantLong "CoatRingsModel" 144 7 ∈ lw_tbl ∧ goodWord (Cond.constantLong "CoatRingsModel" 144 7) = true := ⟨tb5 167 rfl, rfl⟩
theorem k_M_154 : Cond.constantLong "CoatRingsModel" 154 9 ∈ lw_tbl ∧ goodWord (Cond.constantLong "CoatRingsModel" 154 9) = true := ⟨tb5 183 rfl, rfl⟩
theorem k_M_342 : Cond.constantLong "CoatRingsModel" 342 3 ∈ lw_tbl ∧ goodWord (Cond.constantLong "CoatRingsModel" 342 3) = true := ⟨tb5 199 rfl, rfl⟩
theorem k_M_177 : Cond.constantLong "CoatRingsModel" 177 2 ∈ lw_tbl ∧ goodWord (Cond.constantLong "CoatRingsModel" 177 2) = true := ⟨tb5 203 rfl, rfl⟩
theorem k_M_179 : Cond.constantLong "CoatRingsModel" 179 4 ∈ lw_tbl ∧ goodWord (Cond.constantLong "CoatRingsModel" 179 4) = true := ⟨tb5 220 rfl, rfl⟩
theorem k_M_242 : Cond.constant "CoatRingsModel" 242 1000000000 ∈ lw_tbl ∧ goodWord (Cond.constant "CoatRingsModel" 242 1000000000) = true := ⟨tb6 61 rfl, rfl⟩
theorem k_M_267 : Cond.constantLong "CoatRingsModel" 267 8 ∈ lw_tbl ∧ goodWord (Cond.constantLong "CoatRingsModel" 267 8) = true := ⟨tb6 98 rfl, rfl⟩
theorem k_M_269 : Cond.constantLong "CoatRingsModel" 269 255 ∈ lw_tbl ∧ goodWord (Cond.constantLong "CoatRingsModel" 269 255) = true := ⟨tb6 99 rfl, rfl⟩
theorem k_M_271 : Cond.constantLong "CoatRingsModel" 271 32 ∈ lw_tbl ∧ goodWord (Cond.constantLong "CoatRingsModel" 271 32) = true := ⟨tb6 100 rfl, rfl⟩
theorem k_M_273 : Cond.constantLong "CoatRingsModel" 273 126 ∈ lw_tbl ∧ goodWord (Cond.constantLong "CoatRingsModel" 273 126) = true := ⟨tb6 101 rfl, rfl⟩
theorem k_M_318 : Cond.constantLong "CoatRingsModel" 318 (-2) ∈ lw_tbl ∧ goodWord (Cond.constantLong "CoatRingsModel" 318 (-2)) = true := ⟨tb6 182 rfl, rfl⟩
theorem k_M_320 : Cond.constantLong "CoatRingsModel" 320 (-1) ∈ lw_tbl ∧ goodWord (Cond.constantLong "CoatRingsModel" 320 (-1)) = true := ⟨tb6 183 rfl, rfl⟩
theorem k_Law_74 : Cond.constantLong "CoatRingsLaw" 74 4294967295 ∈ lw_tbl ∧ goodWord (Cond.constantLong "CoatRingsLaw" 74 4294967295) = true := ⟨tb6 234 rfl, rfl⟩
