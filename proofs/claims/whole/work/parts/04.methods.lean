abbrev ab_NM : Nat := 118
def ab_y : Nat → MethodName := fun n => match n with
  | 0 => yX0_number
  | 1 => yX0_empty
  | 2 => yX0_addBelow
  | 3 => yX0_costAgainst
  | 4 => yX0_costOfPair
  | 5 => yX1_paths
  | 6 => yX1_addPath
  | 7 => yX1_classOf
  | 8 => yX1_needOf
  | 9 => yX1_leastNeedIn
  | 10 => yX2_depth
  | 11 => yX2_has
  | 12 => yX2_kindOf
  | 13 => yX2_massOf
  | 14 => yX2_ageOf
  | 15 => yX2_indexOf
  | 16 => yX2_massAbove
  | 17 => yX2_whyWithin
  | 18 => yX2_likelyWithin
  | 19 => yX2_sizeWithin
  | 20 => yX2_reaches
  | 21 => yX2_growOlder
  | 22 => yX2_addNew
  | 23 => yX2_giveToWind
  | 24 => yX2_takeFromWind
  | 25 => yX2_changeKinds
  | 26 => yX2_melt
  | 27 => yX2_removeAbove
  | 28 => yX2_isTopNew
  | 29 => yX2_massBetween
  | 30 => yX2_indexUnder
  | 31 => yX2_bearingOf
  | 32 => yX2_joinLowest
  | 33 => yX3_noteSlide
  | 34 => yX3_noteDanger
  | 35 => yX3_tallyOf
  | 36 => yX3_judgeDay
  | 37 => yX4_canSnow
  | 38 => yX4_canBeWarm
  | 39 => yX4_canBlow
  | 40 => yX4_tellSnow
  | 41 => yX4_tellWarmth
  | 42 => yX4_tellWind
  | 43 => yX4_fallingMassAt
  | 44 => yX4_warmthAt
  | 45 => yX4_isDrifting
  | 46 => yX4_windSide
  | 47 => yX4_driftingParts
  | 48 => yX4_endDay
  | 49 => yX4_meanSnow
  | 50 => yX5_snow
  | 51 => yX5_warmth
  | 52 => yX5_wind
  | 53 => yX5_go
  | 54 => yX5_layer
  | 55 => yX5_told
  | 56 => yX5_slide
  | 57 => yX5_shot
  | 58 => yX5_path
  | 59 => yX5_shut
  | 60 => yX5_shots
  | 61 => yX5_pit
  | 62 => yX5_seen
  | 63 => yX5_matched
  | 64 => yX5_nearest
  | 65 => yX5_watch
  | 66 => yX5_right
  | 67 => yX5_count
  | 68 => yX5_isHeight
  | 69 => yX5_isClass
  | 70 => yX5_endDay
  | 71 => yX5_letSnowFall
  | 72 => yX5_letSnowDrift
  | 73 => yX5_letSnowChange
  | 74 => yX5_takeAbove
  | 75 => yX5_dangerOf
  | 76 => yX5_spreadAt
  | 77 => yX5_greatestDanger
  | 78 => yX5_massOnSlopes
  | 79 => yX6_in
  | 80 => yX6_isClass
  | 81 => yX6_snow
  | 82 => yX6_warmth
  | 83 => yX6_wind
  | 84 => yX6_falls
  | 85 => yX6_snowAt
  | 86 => yX6_top
  | 87 => yX6_isNewOn
  | 88 => yX6_drifts
  | 89 => yX6_ages
  | 90 => yX6_melts
  | 91 => yX6_judges
  | 92 => yX6_day
  | 93 => yX6_go
  | 94 => yX6_load
  | 95 => yX6_index
  | 96 => yX6_layer
  | 97 => yX6_why
  | 98 => yX6_likely
  | 99 => yX6_size
  | 100 => yX6_danger
  | 101 => yX6_all
  | 102 => yX6_told
  | 103 => yX6_slides
  | 104 => yX6_slide
  | 105 => yX6_shot
  | 106 => yX6_path
  | 107 => yX6_shuts
  | 108 => yX6_shut
  | 109 => yX6_shots
  | 110 => yX6_pit
  | 111 => yX6_seen
  | 112 => yX6_matched
  | 113 => yX6_pairs
  | 114 => yX6_nearest
  | 115 => yX6_watch
  | 116 => yX6_right
  | _ => yX6_count
def ab_c : Nat → ByteArray := fun n => match n with
  | 0 => cX0_number
  | 1 => cX0_empty
  | 2 => cX0_addBelow
  | 3 => cX0_costAgainst
  | 4 => cX0_costOfPair
  | 5 => cX1_paths
  | 6 => cX1_addPath
  | 7 => cX1_classOf
  | 8 => cX1_needOf
  | 9 => cX1_leastNeedIn
  | 10 => cX2_depth
  | 11 => cX2_has
  | 12 => cX2_kindOf
  | 13 => cX2_massOf
  | 14 => cX2_ageOf
  | 15 => cX2_indexOf
  | 16 => cX2_massAbove
  | 17 => cX2_whyWithin
  | 18 => cX2_likelyWithin
  | 19 => cX2_sizeWithin
  | 20 => cX2_reaches
  | 21 => cX2_growOlder
  | 22 => cX2_addNew
  | 23 => cX2_giveToWind
  | 24 => cX2_takeFromWind
  | 25 => cX2_changeKinds
  | 26 => cX2_melt
  | 27 => cX2_removeAbove
  | 28 => cX2_isTopNew
  | 29 => cX2_massBetween
  | 30 => cX2_indexUnder
  | 31 => cX2_bearingOf
  | 32 => cX2_joinLowest
  | 33 => cX3_noteSlide
  | 34 => cX3_noteDanger
  | 35 => cX3_tallyOf
  | 36 => cX3_judgeDay
  | 37 => cX4_canSnow
  | 38 => cX4_canBeWarm
  | 39 => cX4_canBlow
  | 40 => cX4_tellSnow
  | 41 => cX4_tellWarmth
  | 42 => cX4_tellWind
  | 43 => cX4_fallingMassAt
  | 44 => cX4_warmthAt
  | 45 => cX4_isDrifting
  | 46 => cX4_windSide
  | 47 => cX4_driftingParts
  | 48 => cX4_endDay
  | 49 => cX4_meanSnow
  | 50 => cX5_snow
  | 51 => cX5_warmth
  | 52 => cX5_wind
  | 53 => cX5_go
  | 54 => cX5_layer
  | 55 => cX5_told
  | 56 => cX5_slide
  | 57 => cX5_shot
  | 58 => cX5_path
  | 59 => cX5_shut
  | 60 => cX5_shots
  | 61 => cX5_pit
  | 62 => cX5_seen
  | 63 => cX5_matched
  | 64 => cX5_nearest
  | 65 => cX5_watch
  | 66 => cX5_right
  | 67 => cX5_count
  | 68 => cX5_isHeight
  | 69 => cX5_isClass
  | 70 => cX5_endDay
  | 71 => cX5_letSnowFall
  | 72 => cX5_letSnowDrift
  | 73 => cX5_letSnowChange
  | 74 => cX5_takeAbove
  | 75 => cX5_dangerOf
  | 76 => cX5_spreadAt
  | 77 => cX5_greatestDanger
  | 78 => cX5_massOnSlopes
  | 79 => cX6_in
  | 80 => cX6_isClass
  | 81 => cX6_snow
  | 82 => cX6_warmth
  | 83 => cX6_wind
  | 84 => cX6_falls
  | 85 => cX6_snowAt
  | 86 => cX6_top
  | 87 => cX6_isNewOn
  | 88 => cX6_drifts
  | 89 => cX6_ages
  | 90 => cX6_melts
  | 91 => cX6_judges
  | 92 => cX6_day
  | 93 => cX6_go
  | 94 => cX6_load
  | 95 => cX6_index
  | 96 => cX6_layer
  | 97 => cX6_why
  | 98 => cX6_likely
  | 99 => cX6_size
  | 100 => cX6_danger
  | 101 => cX6_all
  | 102 => cX6_told
  | 103 => cX6_slides
  | 104 => cX6_slide
  | 105 => cX6_shot
  | 106 => cX6_path
  | 107 => cX6_shuts
  | 108 => cX6_shut
  | 109 => cX6_shots
  | 110 => cX6_pit
  | 111 => cX6_seen
  | 112 => cX6_matched
  | 113 => cX6_pairs
  | 114 => cX6_nearest
  | 115 => cX6_watch
  | 116 => cX6_right
  | _ => cX6_count
def ab_L : Nat → Nat := fun n => match n with
  | 0 => 1
  | 1 => 2
  | 2 => 3
  | 3 => 8
  | 4 => 5
  | 5 => 1
  | 6 => 3
  | 7 => 2
  | 8 => 2
  | 9 => 4
  | 10 => 1
  | 11 => 2
  | 12 => 2
  | 13 => 2
  | 14 => 2
  | 15 => 2
  | 16 => 2
  | 17 => 7
  | 18 => 4
  | 19 => 4
  | 20 => 3
  | 21 => 2
  | 22 => 2
  | 23 => 3
  | 24 => 2
  | 25 => 4
  | 26 => 4
  | 27 => 3
  | 28 => 1
  | 29 => 5
  | 30 => 3
  | 31 => 2
  | 32 => 2
  | 33 => 2
  | 34 => 3
  | 35 => 2
  | 36 => 3
  | 37 => 1
  | 38 => 1
  | 39 => 1
  | 40 => 3
  | 41 => 3
  | 42 => 3
  | 43 => 2
  | 44 => 2
  | 45 => 1
  | 46 => 1
  | 47 => 1
  | 48 => 2
  | 49 => 4
  | 50 => 3
  | 51 => 3
  | 52 => 3
  | 53 => 3
  | 54 => 5
  | 55 => 5
  | 56 => 3
  | 57 => 4
  | 58 => 3
  | 59 => 4
  | 60 => 6
  | 61 => 1
  | 62 => 3
  | 63 => 2
  | 64 => 5
  | 65 => 3
  | 66 => 2
  | 67 => 2
  | 68 => 1
  | 69 => 1
  | 70 => 1
  | 71 => 3
  | 72 => 5
  | 73 => 3
  | 74 => 4
  | 75 => 5
  | 76 => 5
  | 77 => 3
  | 78 => 3
  | 79 => 3
  | 80 => 1
  | 81 => 3
  | 82 => 3
  | 83 => 3
  | 84 => 5
  | 85 => 5
  | 86 => 2
  | 87 => 2
  | 88 => 4
  | 89 => 3
  | 90 => 4
  | 91 => 2
  | 92 => 3
  | 93 => 3
  | 94 => 5
  | 95 => 7
  | 96 => 5
  | 97 => 4
  | 98 => 4
  | 99 => 4
  | 100 => 4
  | 101 => 2
  | 102 => 3
  | 103 => 4
  | 104 => 3
  | 105 => 2
  | 106 => 3
  | 107 => 2
  | 108 => 3
  | 109 => 7
  | 110 => 2
  | 111 => 3
  | 112 => 6
  | 113 => 10
  | 114 => 3
  | 115 => 3
  | 116 => 2
  | _ => 4
def ab_r : Nat → Option FieldType := fun n => match n with
  | 0 => (some .int)
  | 1 => (some .int)
  | 2 => (some .int)
  | 3 => (some .int)
  | 4 => (some .int)
  | 5 => (some .int)
  | 6 => (some .int)
  | 7 => (some .int)
  | 8 => (some .int)
  | 9 => (some .int)
  | 10 => (some .int)
  | 11 => (some .boolean)
  | 12 => (some .int)
  | 13 => (some .int)
  | 14 => (some .int)
  | 15 => (some .int)
  | 16 => (some .int)
  | 17 => (some .int)
  | 18 => (some .int)
  | 19 => (some .int)
  | 20 => (some .boolean)
  | 21 => none
  | 22 => none
  | 23 => (some .int)
  | 24 => none
  | 25 => none
  | 26 => (some .int)
  | 27 => (some .int)
  | 28 => (some .boolean)
  | 29 => (some .int)
  | 30 => (some .int)
  | 31 => (some .int)
  | 32 => none
  | 33 => none
  | 34 => none
  | 35 => (some .int)
  | 36 => none
  | 37 => (some .boolean)
  | 38 => (some .boolean)
  | 39 => (some .boolean)
  | 40 => none
  | 41 => none
  | 42 => none
  | 43 => (some .int)
  | 44 => (some .int)
  | 45 => (some .boolean)
  | 46 => (some .int)
  | 47 => (some .int)
  | 48 => none
  | 49 => (some .int)
  | 50 => (some .boolean)
  | 51 => (some .boolean)
  | 52 => (some .boolean)
  | 53 => (some .int)
  | 54 => (some .int)
  | 55 => (some .int)
  | 56 => (some .int)
  | 57 => (some .int)
  | 58 => (some .int)
  | 59 => (some .int)
  | 60 => (some .int)
  | 61 => (some .int)
  | 62 => (some .int)
  | 63 => (some .int)
  | 64 => (some .int)
  | 65 => (some .int)
  | 66 => (some .int)
  | 67 => (some .int)
  | 68 => (some .boolean)
  | 69 => (some .boolean)
  | 70 => none
  | 71 => none
  | 72 => none
  | 73 => none
  | 74 => (some .int)
  | 75 => (some .int)
  | 76 => (some .int)
  | 77 => (some .int)
  | 78 => (some .int)
  | 79 => (some .boolean)
  | 80 => (some .boolean)
  | 81 => (some .boolean)
  | 82 => (some .boolean)
  | 83 => (some .boolean)
  | 84 => none
  | 85 => (some .int)
  | 86 => (some .int)
  | 87 => (some .boolean)
  | 88 => none
  | 89 => none
  | 90 => none
  | 91 => none
  | 92 => none
  | 93 => (some .int)
  | 94 => (some .int)
  | 95 => (some .int)
  | 96 => (some .int)
  | 97 => (some .int)
  | 98 => (some .int)
  | 99 => (some .int)
  | 100 => (some .int)
  | 101 => (some .int)
  | 102 => (some .int)
  | 103 => (some .int)
  | 104 => (some .int)
  | 105 => (some .int)
  | 106 => (some .int)
  | 107 => (some .boolean)
  | 108 => (some .int)
  | 109 => (some .int)
  | 110 => (some .int)
  | 111 => (some .int)
  | 112 => (some .int)
  | 113 => (some .int)
  | 114 => (some .int)
  | 115 => (some .int)
  | 116 => (some .int)
  | _ => (some .int)
def ab_o : Nat → Nat := fun n => match n with
  | 0 => 0
  | 1 => 0
  | 2 => 0
  | 3 => 0
  | 4 => 0
  | 5 => 1
  | 6 => 1
  | 7 => 1
  | 8 => 1
  | 9 => 1
  | 10 => 2
  | 11 => 2
  | 12 => 2
  | 13 => 2
  | 14 => 2
  | 15 => 2
  | 16 => 2
  | 17 => 2
  | 18 => 2
  | 19 => 2
  | 20 => 2
  | 21 => 2
  | 22 => 2
  | 23 => 2
  | 24 => 2
  | 25 => 2
  | 26 => 2
  | 27 => 2
  | 28 => 2
  | 29 => 2
  | 30 => 2
  | 31 => 2
  | 32 => 2
  | 33 => 3
  | 34 => 3
  | 35 => 3
  | 36 => 3
  | 37 => 4
  | 38 => 4
  | 39 => 4
  | 40 => 4
  | 41 => 4
  | 42 => 4
  | 43 => 4
  | 44 => 4
  | 45 => 4
  | 46 => 4
  | 47 => 4
  | 48 => 4
  | 49 => 4
  | 50 => 5
  | 51 => 5
  | 52 => 5
  | 53 => 5
  | 54 => 5
  | 55 => 5
  | 56 => 5
  | 57 => 5
  | 58 => 5
  | 59 => 5
  | 60 => 5
  | 61 => 5
  | 62 => 5
  | 63 => 5
  | 64 => 5
  | 65 => 5
  | 66 => 5
  | 67 => 5
  | 68 => 5
  | 69 => 5
  | 70 => 5
  | 71 => 5
  | 72 => 5
  | 73 => 5
  | 74 => 5
  | 75 => 5
  | 76 => 5
  | 77 => 5
  | 78 => 5
  | 79 => 6
  | 80 => 6
  | 81 => 6
  | 82 => 6
  | 83 => 6
  | 84 => 6
  | 85 => 6
  | 86 => 6
  | 87 => 6
  | 88 => 6
  | 89 => 6
  | 90 => 6
  | 91 => 6
  | 92 => 6
  | 93 => 6
  | 94 => 6
  | 95 => 6
  | 96 => 6
  | 97 => 6
  | 98 => 6
  | 99 => 6
  | 100 => 6
  | 101 => 6
  | 102 => 6
  | 103 => 6
  | 104 => 6
  | 105 => 6
  | 106 => 6
  | 107 => 6
  | 108 => 6
  | 109 => 6
  | 110 => 6
  | 111 => 6
  | 112 => 6
  | 113 => 6
  | 114 => 6
  | 115 => 6
  | 116 => 6
  | _ => 6
def ab_n : Nat → Nat := fun n => match n with
  | 0 => 1
  | 1 => 1
  | 2 => 3
  | 3 => 2
  | 4 => 4
  | 5 => 1
  | 6 => 3
  | 7 => 2
  | 8 => 2
  | 9 => 2
  | 10 => 1
  | 11 => 2
  | 12 => 2
  | 13 => 2
  | 14 => 2
  | 15 => 2
  | 16 => 2
  | 17 => 2
  | 18 => 2
  | 19 => 2
  | 20 => 3
  | 21 => 1
  | 22 => 2
  | 23 => 2
  | 24 => 2
  | 25 => 2
  | 26 => 2
  | 27 => 2
  | 28 => 1
  | 29 => 3
  | 30 => 2
  | 31 => 2
  | 32 => 1
  | 33 => 2
  | 34 => 3
  | 35 => 2
  | 36 => 1
  | 37 => 1
  | 38 => 1
  | 39 => 1
  | 40 => 3
  | 41 => 3
  | 42 => 3
  | 43 => 2
  | 44 => 2
  | 45 => 1
  | 46 => 1
  | 47 => 1
  | 48 => 1
  | 49 => 1
  | 50 => 3
  | 51 => 3
  | 52 => 3
  | 53 => 2
  | 54 => 4
  | 55 => 3
  | 56 => 3
  | 57 => 2
  | 58 => 3
  | 59 => 1
  | 60 => 1
  | 61 => 1
  | 62 => 3
  | 63 => 2
  | 64 => 1
  | 65 => 2
  | 66 => 2
  | 67 => 2
  | 68 => 1
  | 69 => 1
  | 70 => 1
  | 71 => 1
  | 72 => 1
  | 73 => 1
  | 74 => 3
  | 75 => 2
  | 76 => 2
  | 77 => 1
  | 78 => 1
  | 79 => 3
  | 80 => 1
  | 81 => 3
  | 82 => 3
  | 83 => 3
  | 84 => 3
  | 85 => 2
  | 86 => 2
  | 87 => 2
  | 88 => 3
  | 89 => 2
  | 90 => 2
  | 91 => 1
  | 92 => 1
  | 93 => 2
  | 94 => 3
  | 95 => 3
  | 96 => 4
  | 97 => 2
  | 98 => 2
  | 99 => 2
  | 100 => 2
  | 101 => 2
  | 102 => 3
  | 103 => 3
  | 104 => 3
  | 105 => 2
  | 106 => 3
  | 107 => 2
  | 108 => 1
  | 109 => 1
  | 110 => 1
  | 111 => 3
  | 112 => 2
  | 113 => 4
  | 114 => 1
  | 115 => 2
  | 116 => 2
  | _ => 2
def ab_s : Nat → Bool := fun n => match n with
  | 0 => false
  | 1 => false
  | 2 => false
  | 3 => false
  | 4 => false
  | 5 => false
  | 6 => false
  | 7 => false
  | 8 => false
  | 9 => false
  | 10 => false
  | 11 => false
  | 12 => false
  | 13 => false
  | 14 => false
  | 15 => false
  | 16 => false
  | 17 => false
  | 18 => false
  | 19 => false
  | 20 => false
  | 21 => false
  | 22 => false
  | 23 => false
  | 24 => false
  | 25 => false
  | 26 => false
  | 27 => false
  | 28 => false
  | 29 => false
  | 30 => true
  | 31 => true
  | 32 => false
  | 33 => false
  | 34 => false
  | 35 => false
  | 36 => false
  | 37 => true
  | 38 => true
  | 39 => true
  | 40 => false
  | 41 => false
  | 42 => false
  | 43 => false
  | 44 => false
  | 45 => false
  | 46 => false
  | 47 => false
  | 48 => false
  | 49 => false
  | 50 => false
  | 51 => false
  | 52 => false
  | 53 => false
  | 54 => false
  | 55 => false
  | 56 => false
  | 57 => false
  | 58 => false
  | 59 => false
  | 60 => false
  | 61 => false
  | 62 => false
  | 63 => false
  | 64 => false
  | 65 => false
  | 66 => false
  | 67 => false
  | 68 => true
  | 69 => true
  | 70 => false
  | 71 => false
  | 72 => false
  | 73 => false
  | 74 => false
  | 75 => false
  | 76 => false
  | 77 => false
  | 78 => false
  | 79 => true
  | 80 => true
  | 81 => false
  | 82 => false
  | 83 => false
  | 84 => false
  | 85 => false
  | 86 => false
  | 87 => false
  | 88 => false
  | 89 => false
  | 90 => false
  | 91 => false
  | 92 => false
  | 93 => false
  | 94 => false
  | 95 => false
  | 96 => false
  | 97 => false
  | 98 => false
  | 99 => false
  | 100 => false
  | 101 => false
  | 102 => false
  | 103 => false
  | 104 => false
  | 105 => false
  | 106 => false
  | 107 => false
  | 108 => false
  | 109 => false
  | 110 => false
  | 111 => false
  | 112 => false
  | 113 => false
  | 114 => false
  | 115 => false
  | 116 => false
  | _ => false
def ab_b : Nat → Nat := fun n => match n with
  | 0 => 1
  | 1 => 1
  | 2 => 1
  | 3 => 1
  | 4 => 1
  | 5 => 1
  | 6 => 1
  | 7 => 1
  | 8 => 1
  | 9 => 1
  | 10 => 1
  | 11 => 2
  | 12 => 1
  | 13 => 1
  | 14 => 1
  | 15 => 1
  | 16 => 1
  | 17 => 1
  | 18 => 1
  | 19 => 1
  | 20 => 2
  | 21 => 0
  | 22 => 0
  | 23 => 1
  | 24 => 0
  | 25 => 0
  | 26 => 1
  | 27 => 1
  | 28 => 2
  | 29 => 1
  | 30 => 1
  | 31 => 1
  | 32 => 0
  | 33 => 0
  | 34 => 0
  | 35 => 1
  | 36 => 0
  | 37 => 2
  | 38 => 2
  | 39 => 2
  | 40 => 0
  | 41 => 0
  | 42 => 0
  | 43 => 1
  | 44 => 1
  | 45 => 2
  | 46 => 1
  | 47 => 1
  | 48 => 0
  | 49 => 1
  | 50 => 2
  | 51 => 2
  | 52 => 2
  | 53 => 1
  | 54 => 1
  | 55 => 1
  | 56 => 1
  | 57 => 1
  | 58 => 1
  | 59 => 1
  | 60 => 1
  | 61 => 1
  | 62 => 1
  | 63 => 1
  | 64 => 1
  | 65 => 1
  | 66 => 1
  | 67 => 1
  | 68 => 2
  | 69 => 2
  | 70 => 0
  | 71 => 0
  | 72 => 0
  | 73 => 0
  | 74 => 1
  | 75 => 1
  | 76 => 1
  | 77 => 1
  | 78 => 1
  | 79 => 2
  | 80 => 2
  | 81 => 2
  | 82 => 2
  | 83 => 2
  | 84 => 0
  | 85 => 1
  | 86 => 1
  | 87 => 2
  | 88 => 0
  | 89 => 0
  | 90 => 0
  | 91 => 0
  | 92 => 0
  | 93 => 1
  | 94 => 1
  | 95 => 1
  | 96 => 1
  | 97 => 1
  | 98 => 1
  | 99 => 1
  | 100 => 1
  | 101 => 1
  | 102 => 1
  | 103 => 1
  | 104 => 1
  | 105 => 1
  | 106 => 1
  | 107 => 2
  | 108 => 1
  | 109 => 1
  | 110 => 1
  | 111 => 1
  | 112 => 1
  | 113 => 1
  | 114 => 1
  | 115 => 1
  | 116 => 1
  | _ => 1
def ab_R : Nat → String := fun n => match n with
  | 0 => RX0
  | 1 => RX1
  | 2 => RX2
  | 3 => RX3
  | 4 => RX4
  | 5 => RX5
  | 6 => RX6
  | 7 => RJ9
  | _ => RL
def ab_T : Nat → u_T := fun n => match n with
  | 0 => TX0
  | 1 => TX1
  | 2 => TX2
  | 3 => TX3
  | 4 => TX4
  | 5 => TX5
  | _ => TX6
def ab_tt : Nat → (Nat → FieldType) := fun n => match n with
  | 0 => tyX0
  | 1 => tyX1
  | 2 => tyX2
  | 3 => tyX3
  | 4 => tyX4
  | 5 => tyX5
  | _ => tyX6
def ab_nf : Nat → Nat := fun n => match n with
  | 0 => 4
  | 1 => 3
  | 2 => 4
  | 3 => 3
  | 4 => 5
  | 5 => 9
  | 6 => 23
  | _ => 0
def ab_cV : List (Nat × Nat × Nat) := [(0, 27, 10), (0, 37, 4), (0, 41, 13), (0, 48, 12), (2, 25, 11), (2, 33, 16), (2, 40, 29), (2, 48, 17), (2, 51, 18), (2, 54, 19), (2, 57, 32), (2, 60, 28), (2, 64, 22), (4, 32, 49), (4, 36, 44), (5, 64, 40), (5, 71, 41), (5, 77, 42), (5, 80, 70), (5, 86, 11), (5, 89, 12), (5, 93, 13), (5, 96, 14), (5, 99, 16), (5, 102, 15), (5, 105, 10), (5, 109, 18), (5, 112, 19), (5, 115, 75), (5, 118, 17), (5, 121, 33), (5, 125, 74), (5, 129, 6), (5, 132, 5), (5, 135, 7), (5, 138, 8), (5, 141, 20), (5, 145, 9), (5, 148, 1), (5, 151, 2), (5, 154, 3), (5, 158, 34), (5, 161, 35), (5, 164, 78), (5, 167, 77), (5, 170, 0), (5, 173, 36), (5, 176, 71), (5, 179, 45), (5, 183, 72), (5, 186, 73), (5, 189, 48), (5, 190, 43), (5, 193, 21), (5, 196, 22), (5, 199, 46), (5, 202, 47), (5, 205, 23), (5, 208, 24), (5, 211, 44), (5, 214, 25), (5, 217, 26), (5, 220, 27), (5, 223, 76), (6, 70, 86), (6, 74, 87), (6, 78, 84), (6, 85, 91), (6, 88, 85), (6, 94, 88), (6, 97, 89), (6, 101, 90), (6, 104, 92), (6, 107, 94), (6, 114, 95), (6, 117, 97), (6, 120, 98), (6, 123, 99), (6, 126, 101), (6, 129, 100), (6, 135, 103), (6, 141, 107), (6, 147, 113), (6, 151, 112), (8, 13, 50), (8, 17, 81), (8, 18, 51), (8, 21, 82), (8, 22, 52), (8, 25, 83), (8, 26, 53), (8, 30, 93), (8, 31, 54), (8, 35, 96), (8, 36, 55), (8, 40, 102), (8, 41, 56), (8, 44, 104), (8, 45, 57), (8, 48, 105), (8, 49, 58), (8, 52, 106), (8, 53, 59), (8, 57, 108), (8, 58, 60), (8, 61, 109), (8, 62, 61), (8, 65, 110), (8, 66, 62), (8, 69, 111), (8, 70, 63), (8, 73, 112), (8, 74, 64), (8, 77, 114), (8, 78, 65), (8, 81, 115), (8, 82, 66), (8, 85, 116), (8, 86, 67), (8, 89, 117)]
def ab_cS : List (Nat × Nat × Nat) := [(2, 29, 31), (2, 37, 30), (5, 57, 68), (5, 61, 37), (5, 68, 38), (5, 74, 39), (5, 83, 69), (6, 56, 79), (6, 111, 80)]
def ab_cN : List (Nat × Nat × Nat) := [(3, 22, 69), (4, 28, 68)]
def ab_cM : List (Nat × Nat × Nat) := [(0, 31, 2), (0, 45, 0), (1, 22, 2), (2, 43, 2), (2, 68, 1), (5, 226, 2), (5, 231, 1)]
def ab_fT : List (Nat × Nat × Nat × Nat) := [(0, 11, 0, 0), (0, 15, 0, 1), (0, 20, 0, 2), (0, 23, 0, 3), (1, 11, 1, 0), (1, 15, 1, 1), (1, 18, 1, 2), (2, 11, 2, 0), (2, 15, 2, 1), (2, 18, 2, 2), (2, 21, 2, 3), (3, 9, 3, 0), (3, 15, 3, 1), (3, 19, 3, 2), (4, 9, 4, 0), (4, 15, 4, 1), (4, 18, 4, 2), (4, 21, 4, 3), (4, 25, 4, 4), (5, 11, 5, 0), (5, 18, 5, 1), (5, 25, 5, 2), (5, 32, 5, 3), (5, 39, 5, 4), (5, 43, 5, 5), (5, 47, 5, 6), (5, 50, 5, 7), (5, 53, 5, 8), (6, 9, 6, 1), (6, 13, 6, 2), (6, 16, 6, 3), (6, 19, 6, 4), (6, 22, 6, 5), (6, 25, 6, 6), (6, 28, 6, 7), (6, 31, 6, 13), (6, 35, 6, 14), (6, 38, 6, 15), (6, 41, 6, 17), (6, 44, 6, 18), (6, 47, 6, 20), (6, 50, 6, 21), (6, 53, 6, 22), (6, 60, 6, 0), (6, 64, 6, 8), (6, 67, 6, 9), (6, 82, 6, 11), (6, 91, 6, 10), (6, 132, 6, 12), (6, 138, 6, 16), (6, 144, 6, 19)]
def ab_mt (l : List (Nat × Nat × Nat)) (o idx : Nat) : Option Nat := (l.find? (fun e => e.1 == o && e.2.1 == idx)).map (fun e => e.2.2)
theorem ab_mt_mem {l : List (Nat × Nat × Nat)} {o idx t : Nat} (h : ab_mt l o idx = some t) : (o, idx, t) ∈ l := by
  unfold ab_mt at h
  obtain ⟨e, he, rfl⟩ := Option.map_eq_some_iff.mp h
  have h1 := List.mem_of_find?_eq_some he
  have h2 := List.find?_some he
  simp only [Bool.and_eq_true, beq_iff_eq] at h2
  obtain ⟨a, b, c⟩ := e
  obtain ⟨rfl, rfl⟩ := h2
  exact h1
def ab_sc (o idx : Nat) : Option (Nat × Nat) := match ab_mt ab_cS o idx with
  | some t => some (0, t)
  | none => match ab_mt ab_cN o idx with
    | some t => some (1, t)
    | none => match ab_mt ab_cM o idx with
      | some t => some (2, t)
      | none => none
theorem ab_sc_e {o idx : Nat} {q : Nat × Nat} (h : ab_sc o idx = some q) : (q.1 = 0 ∧ (o, idx, q.2) ∈ ab_cS) ∨ (q.1 = 1 ∧ (o, idx, q.2) ∈ ab_cN) ∨ (q.1 = 2 ∧ (o, idx, q.2) ∈ ab_cM) := by
  unfold ab_sc at h
  split at h
  · next t e => cases h; exact Or.inl ⟨rfl, ab_mt_mem e⟩
  · split at h
    · next t e => cases h; exact Or.inr (Or.inl ⟨rfl, ab_mt_mem e⟩)
    · split at h
      · next t e => cases h; exact Or.inr (Or.inr ⟨rfl, ab_mt_mem e⟩)
      · cases h
def ab_ft (o idx : Nat) : Option (Nat × Nat) := (ab_fT.find? (fun e => e.1 == o && e.2.1 == idx)).map (fun e => e.2.2)
theorem ab_ft_mem {o idx : Nat} {t : Nat × Nat} (h : ab_ft o idx = some t) : (o, idx, t) ∈ ab_fT := by
  unfold ab_ft at h
  obtain ⟨e, he, rfl⟩ := Option.map_eq_some_iff.mp h
  have h1 := List.mem_of_find?_eq_some he
  have h2 := List.find?_some he
  simp only [Bool.and_eq_true, beq_iff_eq] at h2
  obtain ⟨a, b, c⟩ := e
  obtain ⟨rfl, rfl⟩ := h2
  exact h1
def ab_gt : List Cond := lw_tbl.filter goodWord
def ab_nw : List Cond := [.methodLinkNest RX3 22 yX5_isClass RX5, .methodLinkNest RX4 28 yX5_isHeight RX5]
theorem ab_gt_of {w : Cond} (h : w ∈ lw_tbl) (g : goodWord w = true) : w ∈ ab_gt := List.mem_filter.mpr ⟨h, g⟩
theorem ab_gt_good {w : Cond} (h : w ∈ ab_gt) : (w.onTables && w.keeps) = true ∨ ∃ ty, w = .arrayClass ty := good_of_word (List.mem_filter.mp h).2
def ab_code (t : Nat) : Cond := .code (ab_y t) (ab_c t) (ab_L t) (ab_r t)
def ab_w (t : Nat) : List Cond := .code (ab_y t) (ab_c t) (ab_L t) (ab_r t) :: ab_gt

def ab_PM (t : Nat) : Prop := Cond.code (ab_y t) (ab_c t) (ab_L t) (ab_r t) ∈ ab_gt ∧ Cond.initialized (ab_y t).cls ∈ ab_gt ∧ (if ab_s t = true then Cond.static (ab_y t) ∈ ab_gt else (Cond.instanceMethod (ab_y t) ∈ ab_gt ∧ Cond.selects (ab_R (ab_o t)) (ab_y t) (ab_y t) ∈ ab_gt))
set_option maxRecDepth 20000 in
theorem ab_pm0 : ab_PM 0 := ⟨ab_gt_of (List.mem_of_getElem? (i := 506) rfl) rfl, ab_gt_of (List.mem_of_getElem? (i := 37) rfl) rfl, (show Cond.instanceMethod (ab_y 0) ∈ ab_gt ∧ Cond.selects (ab_R (ab_o 0)) (ab_y 0) (ab_y 0) ∈ ab_gt from ⟨ab_gt_of (List.mem_of_getElem? (i := 504) rfl) rfl, ab_gt_of (List.mem_of_getElem? (i := 505) rfl) rfl⟩)⟩
set_option maxRecDepth 20000 in
theorem ab_pm1 : ab_PM 1 := ⟨ab_gt_of (List.mem_of_getElem? (i := 443) rfl) rfl, ab_gt_of (List.mem_of_getElem? (i := 37) rfl) rfl, (show Cond.instanceMethod (ab_y 1) ∈ ab_gt ∧ Cond.selects (ab_R (ab_o 1)) (ab_y 1) (ab_y 1) ∈ ab_gt from ⟨ab_gt_of (List.mem_of_getElem? (i := 441) rfl) rfl, ab_gt_of (List.mem_of_getElem? (i := 442) rfl) rfl⟩)⟩
set_option maxRecDepth 20000 in
theorem ab_pm2 : ab_PM 2 := ⟨ab_gt_of (List.mem_of_getElem? (i := 451) rfl) rfl, ab_gt_of (List.mem_of_getElem? (i := 37) rfl) rfl, (show Cond.instanceMethod (ab_y 2) ∈ ab_gt ∧ Cond.selects (ab_R (ab_o 2)) (ab_y 2) (ab_y 2) ∈ ab_gt from ⟨ab_gt_of (List.mem_of_getElem? (i := 449) rfl) rfl, ab_gt_of (List.mem_of_getElem? (i := 450) rfl) rfl⟩)⟩
set_option maxRecDepth 20000 in
theorem ab_pm3 : ab_PM 3 := ⟨ab_gt_of (List.mem_of_getElem? (i := 459) rfl) rfl, ab_gt_of (List.mem_of_getElem? (i := 37) rfl) rfl, (show Cond.instanceMethod (ab_y 3) ∈ ab_gt ∧ Cond.selects (ab_R (ab_o 3)) (ab_y 3) (ab_y 3) ∈ ab_gt from ⟨ab_gt_of (List.mem_of_getElem? (i := 457) rfl) rfl, ab_gt_of (List.mem_of_getElem? (i := 458) rfl) rfl⟩)⟩
set_option maxRecDepth 20000 in
theorem ab_pm4 : ab_PM 4 := ⟨ab_gt_of (List.mem_of_getElem? (i := 465) rfl) rfl, ab_gt_of (List.mem_of_getElem? (i := 37) rfl) rfl, (show Cond.instanceMethod (ab_y 4) ∈ ab_gt ∧ Cond.selects (ab_R (ab_o 4)) (ab_y 4) (ab_y 4) ∈ ab_gt from ⟨ab_gt_of (List.mem_of_getElem? (i := 464) rfl) rfl, ab_gt_of (List.mem_of_getElem? (i := 11) rfl) rfl⟩)⟩
set_option maxRecDepth 20000 in
theorem ab_pm5 : ab_PM 5 := ⟨ab_gt_of (List.mem_of_getElem? (i := 412) rfl) rfl, ab_gt_of (List.mem_of_getElem? (i := 36) rfl) rfl, (show Cond.instanceMethod (ab_y 5) ∈ ab_gt ∧ Cond.selects (ab_R (ab_o 5)) (ab_y 5) (ab_y 5) ∈ ab_gt from ⟨ab_gt_of (List.mem_of_getElem? (i := 410) rfl) rfl, ab_gt_of (List.mem_of_getElem? (i := 411) rfl) rfl⟩)⟩
set_option maxRecDepth 20000 in
theorem ab_pm6 : ab_PM 6 := ⟨ab_gt_of (List.mem_of_getElem? (i := 404) rfl) rfl, ab_gt_of (List.mem_of_getElem? (i := 36) rfl) rfl, (show Cond.instanceMethod (ab_y 6) ∈ ab_gt ∧ Cond.selects (ab_R (ab_o 6)) (ab_y 6) (ab_y 6) ∈ ab_gt from ⟨ab_gt_of (List.mem_of_getElem? (i := 402) rfl) rfl, ab_gt_of (List.mem_of_getElem? (i := 403) rfl) rfl⟩)⟩
set_option maxRecDepth 20000 in
theorem ab_pm7 : ab_PM 7 := ⟨ab_gt_of (List.mem_of_getElem? (i := 416) rfl) rfl, ab_gt_of (List.mem_of_getElem? (i := 36) rfl) rfl, (show Cond.instanceMethod (ab_y 7) ∈ ab_gt ∧ Cond.selects (ab_R (ab_o 7)) (ab_y 7) (ab_y 7) ∈ ab_gt from ⟨ab_gt_of (List.mem_of_getElem? (i := 414) rfl) rfl, ab_gt_of (List.mem_of_getElem? (i := 415) rfl) rfl⟩)⟩
set_option maxRecDepth 20000 in
theorem ab_pm8 : ab_PM 8 := ⟨ab_gt_of (List.mem_of_getElem? (i := 420) rfl) rfl, ab_gt_of (List.mem_of_getElem? (i := 36) rfl) rfl, (show Cond.instanceMethod (ab_y 8) ∈ ab_gt ∧ Cond.selects (ab_R (ab_o 8)) (ab_y 8) (ab_y 8) ∈ ab_gt from ⟨ab_gt_of (List.mem_of_getElem? (i := 418) rfl) rfl, ab_gt_of (List.mem_of_getElem? (i := 419) rfl) rfl⟩)⟩
set_option maxRecDepth 20000 in
theorem ab_pm9 : ab_PM 9 := ⟨ab_gt_of (List.mem_of_getElem? (i := 434) rfl) rfl, ab_gt_of (List.mem_of_getElem? (i := 36) rfl) rfl, (show Cond.instanceMethod (ab_y 9) ∈ ab_gt ∧ Cond.selects (ab_R (ab_o 9)) (ab_y 9) (ab_y 9) ∈ ab_gt from ⟨ab_gt_of (List.mem_of_getElem? (i := 432) rfl) rfl, ab_gt_of (List.mem_of_getElem? (i := 433) rfl) rfl⟩)⟩
set_option maxRecDepth 20000 in
theorem ab_pm10 : ab_PM 10 := ⟨ab_gt_of (List.mem_of_getElem? (i := 349) rfl) rfl, ab_gt_of (List.mem_of_getElem? (i := 39) rfl) rfl, (show Cond.instanceMethod (ab_y 10) ∈ ab_gt ∧ Cond.selects (ab_R (ab_o 10)) (ab_y 10) (ab_y 10) ∈ ab_gt from ⟨ab_gt_of (List.mem_of_getElem? (i := 347) rfl) rfl, ab_gt_of (List.mem_of_getElem? (i := 348) rfl) rfl⟩)⟩
set_option maxRecDepth 20000 in
theorem ab_pm11 : ab_PM 11 := ⟨ab_gt_of (List.mem_of_getElem? (i := 309) rfl) rfl, ab_gt_of (List.mem_of_getElem? (i := 39) rfl) rfl, (show Cond.instanceMethod (ab_y 11) ∈ ab_gt ∧ Cond.selects (ab_R (ab_o 11)) (ab_y 11) (ab_y 11) ∈ ab_gt from ⟨ab_gt_of (List.mem_of_getElem? (i := 307) rfl) rfl, ab_gt_of (List.mem_of_getElem? (i := 308) rfl) rfl⟩)⟩
set_option maxRecDepth 20000 in
theorem ab_pm12 : ab_PM 12 := ⟨ab_gt_of (List.mem_of_getElem? (i := 313) rfl) rfl, ab_gt_of (List.mem_of_getElem? (i := 39) rfl) rfl, (show Cond.instanceMethod (ab_y 12) ∈ ab_gt ∧ Cond.selects (ab_R (ab_o 12)) (ab_y 12) (ab_y 12) ∈ ab_gt from ⟨ab_gt_of (List.mem_of_getElem? (i := 311) rfl) rfl, ab_gt_of (List.mem_of_getElem? (i := 312) rfl) rfl⟩)⟩
set_option maxRecDepth 20000 in
theorem ab_pm13 : ab_PM 13 := ⟨ab_gt_of (List.mem_of_getElem? (i := 318) rfl) rfl, ab_gt_of (List.mem_of_getElem? (i := 39) rfl) rfl, (show Cond.instanceMethod (ab_y 13) ∈ ab_gt ∧ Cond.selects (ab_R (ab_o 13)) (ab_y 13) (ab_y 13) ∈ ab_gt from ⟨ab_gt_of (List.mem_of_getElem? (i := 316) rfl) rfl, ab_gt_of (List.mem_of_getElem? (i := 317) rfl) rfl⟩)⟩
set_option maxRecDepth 20000 in
theorem ab_pm14 : ab_PM 14 := ⟨ab_gt_of (List.mem_of_getElem? (i := 322) rfl) rfl, ab_gt_of (List.mem_of_getElem? (i := 39) rfl) rfl, (show Cond.instanceMethod (ab_y 14) ∈ ab_gt ∧ Cond.selects (ab_R (ab_o 14)) (ab_y 14) (ab_y 14) ∈ ab_gt from ⟨ab_gt_of (List.mem_of_getElem? (i := 320) rfl) rfl, ab_gt_of (List.mem_of_getElem? (i := 321) rfl) rfl⟩)⟩
set_option maxRecDepth 20000 in
theorem ab_pm15 : ab_PM 15 := ⟨ab_gt_of (List.mem_of_getElem? (i := 334) rfl) rfl, ab_gt_of (List.mem_of_getElem? (i := 39) rfl) rfl, (show Cond.instanceMethod (ab_y 15) ∈ ab_gt ∧ Cond.selects (ab_R (ab_o 15)) (ab_y 15) (ab_y 15) ∈ ab_gt from ⟨ab_gt_of (List.mem_of_getElem? (i := 332) rfl) rfl, ab_gt_of (List.mem_of_getElem? (i := 333) rfl) rfl⟩)⟩
set_option maxRecDepth 20000 in
theorem ab_pm16 : ab_PM 16 := ⟨ab_gt_of (List.mem_of_getElem? (i := 326) rfl) rfl, ab_gt_of (List.mem_of_getElem? (i := 39) rfl) rfl, (show Cond.instanceMethod (ab_y 16) ∈ ab_gt ∧ Cond.selects (ab_R (ab_o 16)) (ab_y 16) (ab_y 16) ∈ ab_gt from ⟨ab_gt_of (List.mem_of_getElem? (i := 324) rfl) rfl, ab_gt_of (List.mem_of_getElem? (i := 325) rfl) rfl⟩)⟩
set_option maxRecDepth 20000 in
theorem ab_pm17 : ab_PM 17 := ⟨ab_gt_of (List.mem_of_getElem? (i := 357) rfl) rfl, ab_gt_of (List.mem_of_getElem? (i := 39) rfl) rfl, (show Cond.instanceMethod (ab_y 17) ∈ ab_gt ∧ Cond.selects (ab_R (ab_o 17)) (ab_y 17) (ab_y 17) ∈ ab_gt from ⟨ab_gt_of (List.mem_of_getElem? (i := 355) rfl) rfl, ab_gt_of (List.mem_of_getElem? (i := 356) rfl) rfl⟩)⟩
set_option maxRecDepth 20000 in
theorem ab_pm18 : ab_PM 18 := ⟨ab_gt_of (List.mem_of_getElem? (i := 353) rfl) rfl, ab_gt_of (List.mem_of_getElem? (i := 39) rfl) rfl, (show Cond.instanceMethod (ab_y 18) ∈ ab_gt ∧ Cond.selects (ab_R (ab_o 18)) (ab_y 18) (ab_y 18) ∈ ab_gt from ⟨ab_gt_of (List.mem_of_getElem? (i := 351) rfl) rfl, ab_gt_of (List.mem_of_getElem? (i := 352) rfl) rfl⟩)⟩
set_option maxRecDepth 20000 in
theorem ab_pm19 : ab_PM 19 := ⟨ab_gt_of (List.mem_of_getElem? (i := 364) rfl) rfl, ab_gt_of (List.mem_of_getElem? (i := 39) rfl) rfl, (show Cond.instanceMethod (ab_y 19) ∈ ab_gt ∧ Cond.selects (ab_R (ab_o 19)) (ab_y 19) (ab_y 19) ∈ ab_gt from ⟨ab_gt_of (List.mem_of_getElem? (i := 362) rfl) rfl, ab_gt_of (List.mem_of_getElem? (i := 363) rfl) rfl⟩)⟩
set_option maxRecDepth 20000 in
theorem ab_pm20 : ab_PM 20 := ⟨ab_gt_of (List.mem_of_getElem? (i := 424) rfl) rfl, ab_gt_of (List.mem_of_getElem? (i := 39) rfl) rfl, (show Cond.instanceMethod (ab_y 20) ∈ ab_gt ∧ Cond.selects (ab_R (ab_o 20)) (ab_y 20) (ab_y 20) ∈ ab_gt from ⟨ab_gt_of (List.mem_of_getElem? (i := 422) rfl) rfl, ab_gt_of (List.mem_of_getElem? (i := 423) rfl) rfl⟩)⟩
set_option maxRecDepth 20000 in
theorem ab_pm21 : ab_PM 21 := ⟨ab_gt_of (List.mem_of_getElem? (i := 237) rfl) rfl, ab_gt_of (List.mem_of_getElem? (i := 39) rfl) rfl, (show Cond.instanceMethod (ab_y 21) ∈ ab_gt ∧ Cond.selects (ab_R (ab_o 21)) (ab_y 21) (ab_y 21) ∈ ab_gt from ⟨ab_gt_of (List.mem_of_getElem? (i := 235) rfl) rfl, ab_gt_of (List.mem_of_getElem? (i := 236) rfl) rfl⟩)⟩
set_option maxRecDepth 20000 in
theorem ab_pm22 : ab_PM 22 := ⟨ab_gt_of (List.mem_of_getElem? (i := 241) rfl) rfl, ab_gt_of (List.mem_of_getElem? (i := 39) rfl) rfl, (show Cond.instanceMethod (ab_y 22) ∈ ab_gt ∧ Cond.selects (ab_R (ab_o 22)) (ab_y 22) (ab_y 22) ∈ ab_gt from ⟨ab_gt_of (List.mem_of_getElem? (i := 239) rfl) rfl, ab_gt_of (List.mem_of_getElem? (i := 240) rfl) rfl⟩)⟩
set_option maxRecDepth 20000 in
theorem ab_pm23 : ab_PM 23 := ⟨ab_gt_of (List.mem_of_getElem? (i := 268) rfl) rfl, ab_gt_of (List.mem_of_getElem? (i := 39) rfl) rfl, (show Cond.instanceMethod (ab_y 23) ∈ ab_gt ∧ Cond.selects (ab_R (ab_o 23)) (ab_y 23) (ab_y 23) ∈ ab_gt from ⟨ab_gt_of (List.mem_of_getElem? (i := 266) rfl) rfl, ab_gt_of (List.mem_of_getElem? (i := 267) rfl) rfl⟩)⟩
set_option maxRecDepth 20000 in
theorem ab_pm24 : ab_PM 24 := ⟨ab_gt_of (List.mem_of_getElem? (i := 276) rfl) rfl, ab_gt_of (List.mem_of_getElem? (i := 39) rfl) rfl, (show Cond.instanceMethod (ab_y 24) ∈ ab_gt ∧ Cond.selects (ab_R (ab_o 24)) (ab_y 24) (ab_y 24) ∈ ab_gt from ⟨ab_gt_of (List.mem_of_getElem? (i := 274) rfl) rfl, ab_gt_of (List.mem_of_getElem? (i := 275) rfl) rfl⟩)⟩
set_option maxRecDepth 20000 in
theorem ab_pm25 : ab_PM 25 := ⟨ab_gt_of (List.mem_of_getElem? (i := 289) rfl) rfl, ab_gt_of (List.mem_of_getElem? (i := 39) rfl) rfl, (show Cond.instanceMethod (ab_y 25) ∈ ab_gt ∧ Cond.selects (ab_R (ab_o 25)) (ab_y 25) (ab_y 25) ∈ ab_gt from ⟨ab_gt_of (List.mem_of_getElem? (i := 287) rfl) rfl, ab_gt_of (List.mem_of_getElem? (i := 288) rfl) rfl⟩)⟩
set_option maxRecDepth 20000 in
theorem ab_pm26 : ab_PM 26 := ⟨ab_gt_of (List.mem_of_getElem? (i := 293) rfl) rfl, ab_gt_of (List.mem_of_getElem? (i := 39) rfl) rfl, (show Cond.instanceMethod (ab_y 26) ∈ ab_gt ∧ Cond.selects (ab_R (ab_o 26)) (ab_y 26) (ab_y 26) ∈ ab_gt from ⟨ab_gt_of (List.mem_of_getElem? (i := 291) rfl) rfl, ab_gt_of (List.mem_of_getElem? (i := 292) rfl) rfl⟩)⟩
set_option maxRecDepth 20000 in
theorem ab_pm27 : ab_PM 27 := ⟨ab_gt_of (List.mem_of_getElem? (i := 392) rfl) rfl, ab_gt_of (List.mem_of_getElem? (i := 39) rfl) rfl, (show Cond.instanceMethod (ab_y 27) ∈ ab_gt ∧ Cond.selects (ab_R (ab_o 27)) (ab_y 27) (ab_y 27) ∈ ab_gt from ⟨ab_gt_of (List.mem_of_getElem? (i := 390) rfl) rfl, ab_gt_of (List.mem_of_getElem? (i := 391) rfl) rfl⟩)⟩
set_option maxRecDepth 20000 in
theorem ab_pm28 : ab_PM 28 := ⟨ab_gt_of (List.mem_of_getElem? (i := 272) rfl) rfl, ab_gt_of (List.mem_of_getElem? (i := 39) rfl) rfl, (show Cond.instanceMethod (ab_y 28) ∈ ab_gt ∧ Cond.selects (ab_R (ab_o 28)) (ab_y 28) (ab_y 28) ∈ ab_gt from ⟨ab_gt_of (List.mem_of_getElem? (i := 271) rfl) rfl, ab_gt_of (List.mem_of_getElem? (i := 5) rfl) rfl⟩)⟩
set_option maxRecDepth 20000 in
theorem ab_pm29 : ab_PM 29 := ⟨ab_gt_of (List.mem_of_getElem? (i := 330) rfl) rfl, ab_gt_of (List.mem_of_getElem? (i := 39) rfl) rfl, (show Cond.instanceMethod (ab_y 29) ∈ ab_gt ∧ Cond.selects (ab_R (ab_o 29)) (ab_y 29) (ab_y 29) ∈ ab_gt from ⟨ab_gt_of (List.mem_of_getElem? (i := 329) rfl) rfl, ab_gt_of (List.mem_of_getElem? (i := 7) rfl) rfl⟩)⟩
set_option maxRecDepth 20000 in
theorem ab_pm30 : ab_PM 30 := ⟨ab_gt_of (List.mem_of_getElem? (i := 341) rfl) rfl, ab_gt_of (List.mem_of_getElem? (i := 39) rfl) rfl, (show Cond.static (ab_y 30) ∈ ab_gt from ab_gt_of (List.mem_of_getElem? (i := 340) rfl) rfl)⟩
set_option maxRecDepth 20000 in
theorem ab_pm31 : ab_PM 31 := ⟨ab_gt_of (List.mem_of_getElem? (i := 337) rfl) rfl, ab_gt_of (List.mem_of_getElem? (i := 39) rfl) rfl, (show Cond.static (ab_y 31) ∈ ab_gt from ab_gt_of (List.mem_of_getElem? (i := 336) rfl) rfl)⟩
set_option maxRecDepth 20000 in
theorem ab_pm32 : ab_PM 32 := ⟨ab_gt_of (List.mem_of_getElem? (i := 245) rfl) rfl, ab_gt_of (List.mem_of_getElem? (i := 39) rfl) rfl, (show Cond.instanceMethod (ab_y 32) ∈ ab_gt ∧ Cond.selects (ab_R (ab_o 32)) (ab_y 32) (ab_y 32) ∈ ab_gt from ⟨ab_gt_of (List.mem_of_getElem? (i := 244) rfl) rfl, ab_gt_of (List.mem_of_getElem? (i := 3) rfl) rfl⟩)⟩
set_option maxRecDepth 20000 in
theorem ab_pm33 : ab_PM 33 := ⟨ab_gt_of (List.mem_of_getElem? (i := 383) rfl) rfl, ab_gt_of (List.mem_of_getElem? (i := 38) rfl) rfl, (show Cond.instanceMethod (ab_y 33) ∈ ab_gt ∧ Cond.selects (ab_R (ab_o 33)) (ab_y 33) (ab_y 33) ∈ ab_gt from ⟨ab_gt_of (List.mem_of_getElem? (i := 381) rfl) rfl, ab_gt_of (List.mem_of_getElem? (i := 382) rfl) rfl⟩)⟩
set_option maxRecDepth 20000 in
theorem ab_pm34 : ab_PM 34 := ⟨ab_gt_of (List.mem_of_getElem? (i := 482) rfl) rfl, ab_gt_of (List.mem_of_getElem? (i := 38) rfl) rfl, (show Cond.instanceMethod (ab_y 34) ∈ ab_gt ∧ Cond.selects (ab_R (ab_o 34)) (ab_y 34) (ab_y 34) ∈ ab_gt from ⟨ab_gt_of (List.mem_of_getElem? (i := 480) rfl) rfl, ab_gt_of (List.mem_of_getElem? (i := 481) rfl) rfl⟩)⟩
set_option maxRecDepth 20000 in
theorem ab_pm35 : ab_PM 35 := ⟨ab_gt_of (List.mem_of_getElem? (i := 490) rfl) rfl, ab_gt_of (List.mem_of_getElem? (i := 38) rfl) rfl, (show Cond.instanceMethod (ab_y 35) ∈ ab_gt ∧ Cond.selects (ab_R (ab_o 35)) (ab_y 35) (ab_y 35) ∈ ab_gt from ⟨ab_gt_of (List.mem_of_getElem? (i := 488) rfl) rfl, ab_gt_of (List.mem_of_getElem? (i := 489) rfl) rfl⟩)⟩
set_option maxRecDepth 20000 in
theorem ab_pm36 : ab_PM 36 := ⟨ab_gt_of (List.mem_of_getElem? (i := 221) rfl) rfl, ab_gt_of (List.mem_of_getElem? (i := 38) rfl) rfl, (show Cond.instanceMethod (ab_y 36) ∈ ab_gt ∧ Cond.selects (ab_R (ab_o 36)) (ab_y 36) (ab_y 36) ∈ ab_gt from ⟨ab_gt_of (List.mem_of_getElem? (i := 219) rfl) rfl, ab_gt_of (List.mem_of_getElem? (i := 220) rfl) rfl⟩)⟩
set_option maxRecDepth 20000 in
theorem ab_pm37 : ab_PM 37 := ⟨ab_gt_of (List.mem_of_getElem? (i := 182) rfl) rfl, ab_gt_of (List.mem_of_getElem? (i := 35) rfl) rfl, (show Cond.static (ab_y 37) ∈ ab_gt from ab_gt_of (List.mem_of_getElem? (i := 181) rfl) rfl)⟩
set_option maxRecDepth 20000 in
theorem ab_pm38 : ab_PM 38 := ⟨ab_gt_of (List.mem_of_getElem? (i := 194) rfl) rfl, ab_gt_of (List.mem_of_getElem? (i := 35) rfl) rfl, (show Cond.static (ab_y 38) ∈ ab_gt from ab_gt_of (List.mem_of_getElem? (i := 193) rfl) rfl)⟩
set_option maxRecDepth 20000 in
theorem ab_pm39 : ab_PM 39 := ⟨ab_gt_of (List.mem_of_getElem? (i := 205) rfl) rfl, ab_gt_of (List.mem_of_getElem? (i := 35) rfl) rfl, (show Cond.static (ab_y 39) ∈ ab_gt from ab_gt_of (List.mem_of_getElem? (i := 204) rfl) rfl)⟩
set_option maxRecDepth 20000 in
theorem ab_pm40 : ab_PM 40 := ⟨ab_gt_of (List.mem_of_getElem? (i := 186) rfl) rfl, ab_gt_of (List.mem_of_getElem? (i := 35) rfl) rfl, (show Cond.instanceMethod (ab_y 40) ∈ ab_gt ∧ Cond.selects (ab_R (ab_o 40)) (ab_y 40) (ab_y 40) ∈ ab_gt from ⟨ab_gt_of (List.mem_of_getElem? (i := 184) rfl) rfl, ab_gt_of (List.mem_of_getElem? (i := 185) rfl) rfl⟩)⟩
set_option maxRecDepth 20000 in
theorem ab_pm41 : ab_PM 41 := ⟨ab_gt_of (List.mem_of_getElem? (i := 198) rfl) rfl, ab_gt_of (List.mem_of_getElem? (i := 35) rfl) rfl, (show Cond.instanceMethod (ab_y 41) ∈ ab_gt ∧ Cond.selects (ab_R (ab_o 41)) (ab_y 41) (ab_y 41) ∈ ab_gt from ⟨ab_gt_of (List.mem_of_getElem? (i := 196) rfl) rfl, ab_gt_of (List.mem_of_getElem? (i := 197) rfl) rfl⟩)⟩
set_option maxRecDepth 20000 in
theorem ab_pm42 : ab_PM 42 := ⟨ab_gt_of (List.mem_of_getElem? (i := 209) rfl) rfl, ab_gt_of (List.mem_of_getElem? (i := 35) rfl) rfl, (show Cond.instanceMethod (ab_y 42) ∈ ab_gt ∧ Cond.selects (ab_R (ab_o 42)) (ab_y 42) (ab_y 42) ∈ ab_gt from ⟨ab_gt_of (List.mem_of_getElem? (i := 207) rfl) rfl, ab_gt_of (List.mem_of_getElem? (i := 208) rfl) rfl⟩)⟩
set_option maxRecDepth 20000 in
theorem ab_pm43 : ab_PM 43 := ⟨ab_gt_of (List.mem_of_getElem? (i := 229) rfl) rfl, ab_gt_of (List.mem_of_getElem? (i := 35) rfl) rfl, (show Cond.instanceMethod (ab_y 43) ∈ ab_gt ∧ Cond.selects (ab_R (ab_o 43)) (ab_y 43) (ab_y 43) ∈ ab_gt from ⟨ab_gt_of (List.mem_of_getElem? (i := 227) rfl) rfl, ab_gt_of (List.mem_of_getElem? (i := 228) rfl) rfl⟩)⟩
set_option maxRecDepth 20000 in
theorem ab_pm44 : ab_PM 44 := ⟨ab_gt_of (List.mem_of_getElem? (i := 285) rfl) rfl, ab_gt_of (List.mem_of_getElem? (i := 35) rfl) rfl, (show Cond.instanceMethod (ab_y 44) ∈ ab_gt ∧ Cond.selects (ab_R (ab_o 44)) (ab_y 44) (ab_y 44) ∈ ab_gt from ⟨ab_gt_of (List.mem_of_getElem? (i := 283) rfl) rfl, ab_gt_of (List.mem_of_getElem? (i := 284) rfl) rfl⟩)⟩
set_option maxRecDepth 20000 in
theorem ab_pm45 : ab_PM 45 := ⟨ab_gt_of (List.mem_of_getElem? (i := 252) rfl) rfl, ab_gt_of (List.mem_of_getElem? (i := 35) rfl) rfl, (show Cond.instanceMethod (ab_y 45) ∈ ab_gt ∧ Cond.selects (ab_R (ab_o 45)) (ab_y 45) (ab_y 45) ∈ ab_gt from ⟨ab_gt_of (List.mem_of_getElem? (i := 250) rfl) rfl, ab_gt_of (List.mem_of_getElem? (i := 251) rfl) rfl⟩)⟩
set_option maxRecDepth 20000 in
theorem ab_pm46 : ab_PM 46 := ⟨ab_gt_of (List.mem_of_getElem? (i := 260) rfl) rfl, ab_gt_of (List.mem_of_getElem? (i := 35) rfl) rfl, (show Cond.instanceMethod (ab_y 46) ∈ ab_gt ∧ Cond.selects (ab_R (ab_o 46)) (ab_y 46) (ab_y 46) ∈ ab_gt from ⟨ab_gt_of (List.mem_of_getElem? (i := 258) rfl) rfl, ab_gt_of (List.mem_of_getElem? (i := 259) rfl) rfl⟩)⟩
set_option maxRecDepth 20000 in
theorem ab_pm47 : ab_PM 47 := ⟨ab_gt_of (List.mem_of_getElem? (i := 264) rfl) rfl, ab_gt_of (List.mem_of_getElem? (i := 35) rfl) rfl, (show Cond.instanceMethod (ab_y 47) ∈ ab_gt ∧ Cond.selects (ab_R (ab_o 47)) (ab_y 47) (ab_y 47) ∈ ab_gt from ⟨ab_gt_of (List.mem_of_getElem? (i := 262) rfl) rfl, ab_gt_of (List.mem_of_getElem? (i := 263) rfl) rfl⟩)⟩
set_option maxRecDepth 20000 in
theorem ab_pm48 : ab_PM 48 := ⟨ab_gt_of (List.mem_of_getElem? (i := 297) rfl) rfl, ab_gt_of (List.mem_of_getElem? (i := 35) rfl) rfl, (show Cond.instanceMethod (ab_y 48) ∈ ab_gt ∧ Cond.selects (ab_R (ab_o 48)) (ab_y 48) (ab_y 48) ∈ ab_gt from ⟨ab_gt_of (List.mem_of_getElem? (i := 295) rfl) rfl, ab_gt_of (List.mem_of_getElem? (i := 296) rfl) rfl⟩)⟩
set_option maxRecDepth 20000 in
theorem ab_pm49 : ab_PM 49 := ⟨ab_gt_of (List.mem_of_getElem? (i := 233) rfl) rfl, ab_gt_of (List.mem_of_getElem? (i := 35) rfl) rfl, (show Cond.instanceMethod (ab_y 49) ∈ ab_gt ∧ Cond.selects (ab_R (ab_o 49)) (ab_y 49) (ab_y 49) ∈ ab_gt from ⟨ab_gt_of (List.mem_of_getElem? (i := 232) rfl) rfl, ab_gt_of (List.mem_of_getElem? (i := 2) rfl) rfl⟩)⟩
set_option maxRecDepth 20000 in
theorem ab_pm50 : ab_PM 50 := ⟨ab_gt_of (List.mem_of_getElem? (i := 176) rfl) rfl, ab_gt_of (List.mem_of_getElem? (i := 34) rfl) rfl, (show Cond.instanceMethod (ab_y 50) ∈ ab_gt ∧ Cond.selects (ab_R (ab_o 50)) (ab_y 50) (ab_y 50) ∈ ab_gt from ⟨ab_gt_of (List.mem_of_getElem? (i := 174) rfl) rfl, ab_gt_of (List.mem_of_getElem? (i := 175) rfl) rfl⟩)⟩
set_option maxRecDepth 20000 in
theorem ab_pm51 : ab_PM 51 := ⟨ab_gt_of (List.mem_of_getElem? (i := 191) rfl) rfl, ab_gt_of (List.mem_of_getElem? (i := 34) rfl) rfl, (show Cond.instanceMethod (ab_y 51) ∈ ab_gt ∧ Cond.selects (ab_R (ab_o 51)) (ab_y 51) (ab_y 51) ∈ ab_gt from ⟨ab_gt_of (List.mem_of_getElem? (i := 189) rfl) rfl, ab_gt_of (List.mem_of_getElem? (i := 190) rfl) rfl⟩)⟩
set_option maxRecDepth 20000 in
theorem ab_pm52 : ab_PM 52 := ⟨ab_gt_of (List.mem_of_getElem? (i := 202) rfl) rfl, ab_gt_of (List.mem_of_getElem? (i := 34) rfl) rfl, (show Cond.instanceMethod (ab_y 52) ∈ ab_gt ∧ Cond.selects (ab_R (ab_o 52)) (ab_y 52) (ab_y 52) ∈ ab_gt from ⟨ab_gt_of (List.mem_of_getElem? (i := 200) rfl) rfl, ab_gt_of (List.mem_of_getElem? (i := 201) rfl) rfl⟩)⟩
set_option maxRecDepth 20000 in
theorem ab_pm53 : ab_PM 53 := ⟨ab_gt_of (List.mem_of_getElem? (i := 213) rfl) rfl, ab_gt_of (List.mem_of_getElem? (i := 34) rfl) rfl, (show Cond.instanceMethod (ab_y 53) ∈ ab_gt ∧ Cond.selects (ab_R (ab_o 53)) (ab_y 53) (ab_y 53) ∈ ab_gt from ⟨ab_gt_of (List.mem_of_getElem? (i := 211) rfl) rfl, ab_gt_of (List.mem_of_getElem? (i := 212) rfl) rfl⟩)⟩
set_option maxRecDepth 20000 in
theorem ab_pm54 : ab_PM 54 := ⟨ab_gt_of (List.mem_of_getElem? (i := 302) rfl) rfl, ab_gt_of (List.mem_of_getElem? (i := 34) rfl) rfl, (show Cond.instanceMethod (ab_y 54) ∈ ab_gt ∧ Cond.selects (ab_R (ab_o 54)) (ab_y 54) (ab_y 54) ∈ ab_gt from ⟨ab_gt_of (List.mem_of_getElem? (i := 300) rfl) rfl, ab_gt_of (List.mem_of_getElem? (i := 301) rfl) rfl⟩)⟩
set_option maxRecDepth 20000 in
theorem ab_pm55 : ab_PM 55 := ⟨ab_gt_of (List.mem_of_getElem? (i := 345) rfl) rfl, ab_gt_of (List.mem_of_getElem? (i := 34) rfl) rfl, (show Cond.instanceMethod (ab_y 55) ∈ ab_gt ∧ Cond.selects (ab_R (ab_o 55)) (ab_y 55) (ab_y 55) ∈ ab_gt from ⟨ab_gt_of (List.mem_of_getElem? (i := 343) rfl) rfl, ab_gt_of (List.mem_of_getElem? (i := 344) rfl) rfl⟩)⟩
set_option maxRecDepth 20000 in
theorem ab_pm56 : ab_PM 56 := ⟨ab_gt_of (List.mem_of_getElem? (i := 379) rfl) rfl, ab_gt_of (List.mem_of_getElem? (i := 34) rfl) rfl, (show Cond.instanceMethod (ab_y 56) ∈ ab_gt ∧ Cond.selects (ab_R (ab_o 56)) (ab_y 56) (ab_y 56) ∈ ab_gt from ⟨ab_gt_of (List.mem_of_getElem? (i := 377) rfl) rfl, ab_gt_of (List.mem_of_getElem? (i := 378) rfl) rfl⟩)⟩
set_option maxRecDepth 20000 in
theorem ab_pm57 : ab_PM 57 := ⟨ab_gt_of (List.mem_of_getElem? (i := 396) rfl) rfl, ab_gt_of (List.mem_of_getElem? (i := 34) rfl) rfl, (show Cond.instanceMethod (ab_y 57) ∈ ab_gt ∧ Cond.selects (ab_R (ab_o 57)) (ab_y 57) (ab_y 57) ∈ ab_gt from ⟨ab_gt_of (List.mem_of_getElem? (i := 394) rfl) rfl, ab_gt_of (List.mem_of_getElem? (i := 395) rfl) rfl⟩)⟩
set_option maxRecDepth 20000 in
theorem ab_pm58 : ab_PM 58 := ⟨ab_gt_of (List.mem_of_getElem? (i := 400) rfl) rfl, ab_gt_of (List.mem_of_getElem? (i := 34) rfl) rfl, (show Cond.instanceMethod (ab_y 58) ∈ ab_gt ∧ Cond.selects (ab_R (ab_o 58)) (ab_y 58) (ab_y 58) ∈ ab_gt from ⟨ab_gt_of (List.mem_of_getElem? (i := 398) rfl) rfl, ab_gt_of (List.mem_of_getElem? (i := 399) rfl) rfl⟩)⟩
set_option maxRecDepth 20000 in
theorem ab_pm59 : ab_PM 59 := ⟨ab_gt_of (List.mem_of_getElem? (i := 408) rfl) rfl, ab_gt_of (List.mem_of_getElem? (i := 34) rfl) rfl, (show Cond.instanceMethod (ab_y 59) ∈ ab_gt ∧ Cond.selects (ab_R (ab_o 59)) (ab_y 59) (ab_y 59) ∈ ab_gt from ⟨ab_gt_of (List.mem_of_getElem? (i := 406) rfl) rfl, ab_gt_of (List.mem_of_getElem? (i := 407) rfl) rfl⟩)⟩
set_option maxRecDepth 20000 in
theorem ab_pm60 : ab_PM 60 := ⟨ab_gt_of (List.mem_of_getElem? (i := 430) rfl) rfl, ab_gt_of (List.mem_of_getElem? (i := 34) rfl) rfl, (show Cond.instanceMethod (ab_y 60) ∈ ab_gt ∧ Cond.selects (ab_R (ab_o 60)) (ab_y 60) (ab_y 60) ∈ ab_gt from ⟨ab_gt_of (List.mem_of_getElem? (i := 428) rfl) rfl, ab_gt_of (List.mem_of_getElem? (i := 429) rfl) rfl⟩)⟩
set_option maxRecDepth 20000 in
theorem ab_pm61 : ab_PM 61 := ⟨ab_gt_of (List.mem_of_getElem? (i := 439) rfl) rfl, ab_gt_of (List.mem_of_getElem? (i := 34) rfl) rfl, (show Cond.instanceMethod (ab_y 61) ∈ ab_gt ∧ Cond.selects (ab_R (ab_o 61)) (ab_y 61) (ab_y 61) ∈ ab_gt from ⟨ab_gt_of (List.mem_of_getElem? (i := 437) rfl) rfl, ab_gt_of (List.mem_of_getElem? (i := 438) rfl) rfl⟩)⟩
set_option maxRecDepth 20000 in
theorem ab_pm62 : ab_PM 62 := ⟨ab_gt_of (List.mem_of_getElem? (i := 447) rfl) rfl, ab_gt_of (List.mem_of_getElem? (i := 34) rfl) rfl, (show Cond.instanceMethod (ab_y 62) ∈ ab_gt ∧ Cond.selects (ab_R (ab_o 62)) (ab_y 62) (ab_y 62) ∈ ab_gt from ⟨ab_gt_of (List.mem_of_getElem? (i := 445) rfl) rfl, ab_gt_of (List.mem_of_getElem? (i := 446) rfl) rfl⟩)⟩
set_option maxRecDepth 20000 in
theorem ab_pm63 : ab_PM 63 := ⟨ab_gt_of (List.mem_of_getElem? (i := 455) rfl) rfl, ab_gt_of (List.mem_of_getElem? (i := 34) rfl) rfl, (show Cond.instanceMethod (ab_y 63) ∈ ab_gt ∧ Cond.selects (ab_R (ab_o 63)) (ab_y 63) (ab_y 63) ∈ ab_gt from ⟨ab_gt_of (List.mem_of_getElem? (i := 453) rfl) rfl, ab_gt_of (List.mem_of_getElem? (i := 454) rfl) rfl⟩)⟩
set_option maxRecDepth 20000 in
theorem ab_pm64 : ab_PM 64 := ⟨ab_gt_of (List.mem_of_getElem? (i := 474) rfl) rfl, ab_gt_of (List.mem_of_getElem? (i := 34) rfl) rfl, (show Cond.instanceMethod (ab_y 64) ∈ ab_gt ∧ Cond.selects (ab_R (ab_o 64)) (ab_y 64) (ab_y 64) ∈ ab_gt from ⟨ab_gt_of (List.mem_of_getElem? (i := 472) rfl) rfl, ab_gt_of (List.mem_of_getElem? (i := 473) rfl) rfl⟩)⟩
set_option maxRecDepth 20000 in
theorem ab_pm65 : ab_PM 65 := ⟨ab_gt_of (List.mem_of_getElem? (i := 478) rfl) rfl, ab_gt_of (List.mem_of_getElem? (i := 34) rfl) rfl, (show Cond.instanceMethod (ab_y 65) ∈ ab_gt ∧ Cond.selects (ab_R (ab_o 65)) (ab_y 65) (ab_y 65) ∈ ab_gt from ⟨ab_gt_of (List.mem_of_getElem? (i := 476) rfl) rfl, ab_gt_of (List.mem_of_getElem? (i := 477) rfl) rfl⟩)⟩
set_option maxRecDepth 20000 in
theorem ab_pm66 : ab_PM 66 := ⟨ab_gt_of (List.mem_of_getElem? (i := 486) rfl) rfl, ab_gt_of (List.mem_of_getElem? (i := 34) rfl) rfl, (show Cond.instanceMethod (ab_y 66) ∈ ab_gt ∧ Cond.selects (ab_R (ab_o 66)) (ab_y 66) (ab_y 66) ∈ ab_gt from ⟨ab_gt_of (List.mem_of_getElem? (i := 484) rfl) rfl, ab_gt_of (List.mem_of_getElem? (i := 485) rfl) rfl⟩)⟩
set_option maxRecDepth 20000 in
theorem ab_pm67 : ab_PM 67 := ⟨ab_gt_of (List.mem_of_getElem? (i := 494) rfl) rfl, ab_gt_of (List.mem_of_getElem? (i := 34) rfl) rfl, (show Cond.instanceMethod (ab_y 67) ∈ ab_gt ∧ Cond.selects (ab_R (ab_o 67)) (ab_y 67) (ab_y 67) ∈ ab_gt from ⟨ab_gt_of (List.mem_of_getElem? (i := 492) rfl) rfl, ab_gt_of (List.mem_of_getElem? (i := 493) rfl) rfl⟩)⟩
set_option maxRecDepth 20000 in
theorem ab_pm68 : ab_PM 68 := ⟨ab_gt_of (List.mem_of_getElem? (i := 179) rfl) rfl, ab_gt_of (List.mem_of_getElem? (i := 34) rfl) rfl, (show Cond.static (ab_y 68) ∈ ab_gt from ab_gt_of (List.mem_of_getElem? (i := 178) rfl) rfl)⟩
set_option maxRecDepth 20000 in
theorem ab_pm69 : ab_PM 69 := ⟨ab_gt_of (List.mem_of_getElem? (i := 305) rfl) rfl, ab_gt_of (List.mem_of_getElem? (i := 34) rfl) rfl, (show Cond.static (ab_y 69) ∈ ab_gt from ab_gt_of (List.mem_of_getElem? (i := 304) rfl) rfl)⟩
set_option maxRecDepth 20000 in
theorem ab_pm70 : ab_PM 70 := ⟨ab_gt_of (List.mem_of_getElem? (i := 217) rfl) rfl, ab_gt_of (List.mem_of_getElem? (i := 34) rfl) rfl, (show Cond.instanceMethod (ab_y 70) ∈ ab_gt ∧ Cond.selects (ab_R (ab_o 70)) (ab_y 70) (ab_y 70) ∈ ab_gt from ⟨ab_gt_of (List.mem_of_getElem? (i := 216) rfl) rfl, ab_gt_of (List.mem_of_getElem? (i := 0) rfl) rfl⟩)⟩
set_option maxRecDepth 20000 in
theorem ab_pm71 : ab_PM 71 := ⟨ab_gt_of (List.mem_of_getElem? (i := 225) rfl) rfl, ab_gt_of (List.mem_of_getElem? (i := 34) rfl) rfl, (show Cond.instanceMethod (ab_y 71) ∈ ab_gt ∧ Cond.selects (ab_R (ab_o 71)) (ab_y 71) (ab_y 71) ∈ ab_gt from ⟨ab_gt_of (List.mem_of_getElem? (i := 224) rfl) rfl, ab_gt_of (List.mem_of_getElem? (i := 1) rfl) rfl⟩)⟩
set_option maxRecDepth 20000 in
theorem ab_pm72 : ab_PM 72 := ⟨ab_gt_of (List.mem_of_getElem? (i := 256) rfl) rfl, ab_gt_of (List.mem_of_getElem? (i := 34) rfl) rfl, (show Cond.instanceMethod (ab_y 72) ∈ ab_gt ∧ Cond.selects (ab_R (ab_o 72)) (ab_y 72) (ab_y 72) ∈ ab_gt from ⟨ab_gt_of (List.mem_of_getElem? (i := 255) rfl) rfl, ab_gt_of (List.mem_of_getElem? (i := 4) rfl) rfl⟩)⟩
set_option maxRecDepth 20000 in
theorem ab_pm73 : ab_PM 73 := ⟨ab_gt_of (List.mem_of_getElem? (i := 281) rfl) rfl, ab_gt_of (List.mem_of_getElem? (i := 34) rfl) rfl, (show Cond.instanceMethod (ab_y 73) ∈ ab_gt ∧ Cond.selects (ab_R (ab_o 73)) (ab_y 73) (ab_y 73) ∈ ab_gt from ⟨ab_gt_of (List.mem_of_getElem? (i := 280) rfl) rfl, ab_gt_of (List.mem_of_getElem? (i := 6) rfl) rfl⟩)⟩
set_option maxRecDepth 20000 in
theorem ab_pm74 : ab_PM 74 := ⟨ab_gt_of (List.mem_of_getElem? (i := 388) rfl) rfl, ab_gt_of (List.mem_of_getElem? (i := 34) rfl) rfl, (show Cond.instanceMethod (ab_y 74) ∈ ab_gt ∧ Cond.selects (ab_R (ab_o 74)) (ab_y 74) (ab_y 74) ∈ ab_gt from ⟨ab_gt_of (List.mem_of_getElem? (i := 387) rfl) rfl, ab_gt_of (List.mem_of_getElem? (i := 10) rfl) rfl⟩)⟩
set_option maxRecDepth 20000 in
theorem ab_pm75 : ab_PM 75 := ⟨ab_gt_of (List.mem_of_getElem? (i := 368) rfl) rfl, ab_gt_of (List.mem_of_getElem? (i := 34) rfl) rfl, (show Cond.instanceMethod (ab_y 75) ∈ ab_gt ∧ Cond.selects (ab_R (ab_o 75)) (ab_y 75) (ab_y 75) ∈ ab_gt from ⟨ab_gt_of (List.mem_of_getElem? (i := 367) rfl) rfl, ab_gt_of (List.mem_of_getElem? (i := 8) rfl) rfl⟩)⟩
set_option maxRecDepth 20000 in
theorem ab_pm76 : ab_PM 76 := ⟨ab_gt_of (List.mem_of_getElem? (i := 372) rfl) rfl, ab_gt_of (List.mem_of_getElem? (i := 34) rfl) rfl, (show Cond.instanceMethod (ab_y 76) ∈ ab_gt ∧ Cond.selects (ab_R (ab_o 76)) (ab_y 76) (ab_y 76) ∈ ab_gt from ⟨ab_gt_of (List.mem_of_getElem? (i := 371) rfl) rfl, ab_gt_of (List.mem_of_getElem? (i := 9) rfl) rfl⟩)⟩
set_option maxRecDepth 20000 in
theorem ab_pm77 : ab_PM 77 := ⟨ab_gt_of (List.mem_of_getElem? (i := 502) rfl) rfl, ab_gt_of (List.mem_of_getElem? (i := 34) rfl) rfl, (show Cond.instanceMethod (ab_y 77) ∈ ab_gt ∧ Cond.selects (ab_R (ab_o 77)) (ab_y 77) (ab_y 77) ∈ ab_gt from ⟨ab_gt_of (List.mem_of_getElem? (i := 501) rfl) rfl, ab_gt_of (List.mem_of_getElem? (i := 13) rfl) rfl⟩)⟩
set_option maxRecDepth 20000 in
theorem ab_pm78 : ab_PM 78 := ⟨ab_gt_of (List.mem_of_getElem? (i := 498) rfl) rfl, ab_gt_of (List.mem_of_getElem? (i := 34) rfl) rfl, (show Cond.instanceMethod (ab_y 78) ∈ ab_gt ∧ Cond.selects (ab_R (ab_o 78)) (ab_y 78) (ab_y 78) ∈ ab_gt from ⟨ab_gt_of (List.mem_of_getElem? (i := 497) rfl) rfl, ab_gt_of (List.mem_of_getElem? (i := 12) rfl) rfl⟩)⟩
set_option maxRecDepth 20000 in
theorem ab_pm79 : ab_PM 79 := ⟨ab_gt_of (List.mem_of_getElem? (i := 589) rfl) rfl, ab_gt_of (List.mem_of_getElem? (i := 40) rfl) rfl, (show Cond.static (ab_y 79) ∈ ab_gt from ab_gt_of (List.mem_of_getElem? (i := 588) rfl) rfl)⟩
set_option maxRecDepth 20000 in
theorem ab_pm80 : ab_PM 80 := ⟨ab_gt_of (List.mem_of_getElem? (i := 644) rfl) rfl, ab_gt_of (List.mem_of_getElem? (i := 40) rfl) rfl, (show Cond.static (ab_y 80) ∈ ab_gt from ab_gt_of (List.mem_of_getElem? (i := 643) rfl) rfl)⟩
set_option maxRecDepth 20000 in
theorem ab_pm81 : ab_PM 81 := ⟨ab_gt_of (List.mem_of_getElem? (i := 586) rfl) rfl, ab_gt_of (List.mem_of_getElem? (i := 40) rfl) rfl, (show Cond.instanceMethod (ab_y 81) ∈ ab_gt ∧ Cond.selects (ab_R (ab_o 81)) (ab_y 81) (ab_y 81) ∈ ab_gt from ⟨ab_gt_of (List.mem_of_getElem? (i := 584) rfl) rfl, ab_gt_of (List.mem_of_getElem? (i := 585) rfl) rfl⟩)⟩
set_option maxRecDepth 20000 in
theorem ab_pm82 : ab_PM 82 := ⟨ab_gt_of (List.mem_of_getElem? (i := 593) rfl) rfl, ab_gt_of (List.mem_of_getElem? (i := 40) rfl) rfl, (show Cond.instanceMethod (ab_y 82) ∈ ab_gt ∧ Cond.selects (ab_R (ab_o 82)) (ab_y 82) (ab_y 82) ∈ ab_gt from ⟨ab_gt_of (List.mem_of_getElem? (i := 591) rfl) rfl, ab_gt_of (List.mem_of_getElem? (i := 592) rfl) rfl⟩)⟩
set_option maxRecDepth 20000 in
theorem ab_pm83 : ab_PM 83 := ⟨ab_gt_of (List.mem_of_getElem? (i := 597) rfl) rfl, ab_gt_of (List.mem_of_getElem? (i := 40) rfl) rfl, (show Cond.instanceMethod (ab_y 83) ∈ ab_gt ∧ Cond.selects (ab_R (ab_o 83)) (ab_y 83) (ab_y 83) ∈ ab_gt from ⟨ab_gt_of (List.mem_of_getElem? (i := 595) rfl) rfl, ab_gt_of (List.mem_of_getElem? (i := 596) rfl) rfl⟩)⟩
set_option maxRecDepth 20000 in
theorem ab_pm84 : ab_PM 84 := ⟨ab_gt_of (List.mem_of_getElem? (i := 617) rfl) rfl, ab_gt_of (List.mem_of_getElem? (i := 40) rfl) rfl, (show Cond.instanceMethod (ab_y 84) ∈ ab_gt ∧ Cond.selects (ab_R (ab_o 84)) (ab_y 84) (ab_y 84) ∈ ab_gt from ⟨ab_gt_of (List.mem_of_getElem? (i := 616) rfl) rfl, ab_gt_of (List.mem_of_getElem? (i := 17) rfl) rfl⟩)⟩
set_option maxRecDepth 20000 in
theorem ab_pm85 : ab_PM 85 := ⟨ab_gt_of (List.mem_of_getElem? (i := 613) rfl) rfl, ab_gt_of (List.mem_of_getElem? (i := 40) rfl) rfl, (show Cond.instanceMethod (ab_y 85) ∈ ab_gt ∧ Cond.selects (ab_R (ab_o 85)) (ab_y 85) (ab_y 85) ∈ ab_gt from ⟨ab_gt_of (List.mem_of_getElem? (i := 612) rfl) rfl, ab_gt_of (List.mem_of_getElem? (i := 16) rfl) rfl⟩)⟩
set_option maxRecDepth 20000 in
theorem ab_pm86 : ab_PM 86 := ⟨ab_gt_of (List.mem_of_getElem? (i := 629) rfl) rfl, ab_gt_of (List.mem_of_getElem? (i := 40) rfl) rfl, (show Cond.instanceMethod (ab_y 86) ∈ ab_gt ∧ Cond.selects (ab_R (ab_o 86)) (ab_y 86) (ab_y 86) ∈ ab_gt from ⟨ab_gt_of (List.mem_of_getElem? (i := 628) rfl) rfl, ab_gt_of (List.mem_of_getElem? (i := 20) rfl) rfl⟩)⟩
set_option maxRecDepth 20000 in
theorem ab_pm87 : ab_PM 87 := ⟨ab_gt_of (List.mem_of_getElem? (i := 625) rfl) rfl, ab_gt_of (List.mem_of_getElem? (i := 40) rfl) rfl, (show Cond.instanceMethod (ab_y 87) ∈ ab_gt ∧ Cond.selects (ab_R (ab_o 87)) (ab_y 87) (ab_y 87) ∈ ab_gt from ⟨ab_gt_of (List.mem_of_getElem? (i := 624) rfl) rfl, ab_gt_of (List.mem_of_getElem? (i := 19) rfl) rfl⟩)⟩
set_option maxRecDepth 20000 in
theorem ab_pm88 : ab_PM 88 := ⟨ab_gt_of (List.mem_of_getElem? (i := 621) rfl) rfl, ab_gt_of (List.mem_of_getElem? (i := 40) rfl) rfl, (show Cond.instanceMethod (ab_y 88) ∈ ab_gt ∧ Cond.selects (ab_R (ab_o 88)) (ab_y 88) (ab_y 88) ∈ ab_gt from ⟨ab_gt_of (List.mem_of_getElem? (i := 620) rfl) rfl, ab_gt_of (List.mem_of_getElem? (i := 18) rfl) rfl⟩)⟩
set_option maxRecDepth 20000 in
theorem ab_pm89 : ab_PM 89 := ⟨ab_gt_of (List.mem_of_getElem? (i := 633) rfl) rfl, ab_gt_of (List.mem_of_getElem? (i := 40) rfl) rfl, (show Cond.instanceMethod (ab_y 89) ∈ ab_gt ∧ Cond.selects (ab_R (ab_o 89)) (ab_y 89) (ab_y 89) ∈ ab_gt from ⟨ab_gt_of (List.mem_of_getElem? (i := 632) rfl) rfl, ab_gt_of (List.mem_of_getElem? (i := 21) rfl) rfl⟩)⟩
set_option maxRecDepth 20000 in
theorem ab_pm90 : ab_PM 90 := ⟨ab_gt_of (List.mem_of_getElem? (i := 637) rfl) rfl, ab_gt_of (List.mem_of_getElem? (i := 40) rfl) rfl, (show Cond.instanceMethod (ab_y 90) ∈ ab_gt ∧ Cond.selects (ab_R (ab_o 90)) (ab_y 90) (ab_y 90) ∈ ab_gt from ⟨ab_gt_of (List.mem_of_getElem? (i := 636) rfl) rfl, ab_gt_of (List.mem_of_getElem? (i := 22) rfl) rfl⟩)⟩
set_option maxRecDepth 20000 in
theorem ab_pm91 : ab_PM 91 := ⟨ab_gt_of (List.mem_of_getElem? (i := 609) rfl) rfl, ab_gt_of (List.mem_of_getElem? (i := 40) rfl) rfl, (show Cond.instanceMethod (ab_y 91) ∈ ab_gt ∧ Cond.selects (ab_R (ab_o 91)) (ab_y 91) (ab_y 91) ∈ ab_gt from ⟨ab_gt_of (List.mem_of_getElem? (i := 608) rfl) rfl, ab_gt_of (List.mem_of_getElem? (i := 15) rfl) rfl⟩)⟩
set_option maxRecDepth 20000 in
theorem ab_pm92 : ab_PM 92 := ⟨ab_gt_of (List.mem_of_getElem? (i := 605) rfl) rfl, ab_gt_of (List.mem_of_getElem? (i := 40) rfl) rfl, (show Cond.instanceMethod (ab_y 92) ∈ ab_gt ∧ Cond.selects (ab_R (ab_o 92)) (ab_y 92) (ab_y 92) ∈ ab_gt from ⟨ab_gt_of (List.mem_of_getElem? (i := 604) rfl) rfl, ab_gt_of (List.mem_of_getElem? (i := 14) rfl) rfl⟩)⟩
set_option maxRecDepth 20000 in
theorem ab_pm93 : ab_PM 93 := ⟨ab_gt_of (List.mem_of_getElem? (i := 601) rfl) rfl, ab_gt_of (List.mem_of_getElem? (i := 40) rfl) rfl, (show Cond.instanceMethod (ab_y 93) ∈ ab_gt ∧ Cond.selects (ab_R (ab_o 93)) (ab_y 93) (ab_y 93) ∈ ab_gt from ⟨ab_gt_of (List.mem_of_getElem? (i := 599) rfl) rfl, ab_gt_of (List.mem_of_getElem? (i := 600) rfl) rfl⟩)⟩
set_option maxRecDepth 20000 in
theorem ab_pm94 : ab_PM 94 := ⟨ab_gt_of (List.mem_of_getElem? (i := 648) rfl) rfl, ab_gt_of (List.mem_of_getElem? (i := 40) rfl) rfl, (show Cond.instanceMethod (ab_y 94) ∈ ab_gt ∧ Cond.selects (ab_R (ab_o 94)) (ab_y 94) (ab_y 94) ∈ ab_gt from ⟨ab_gt_of (List.mem_of_getElem? (i := 647) rfl) rfl, ab_gt_of (List.mem_of_getElem? (i := 23) rfl) rfl⟩)⟩
set_option maxRecDepth 20000 in
theorem ab_pm95 : ab_PM 95 := ⟨ab_gt_of (List.mem_of_getElem? (i := 652) rfl) rfl, ab_gt_of (List.mem_of_getElem? (i := 40) rfl) rfl, (show Cond.instanceMethod (ab_y 95) ∈ ab_gt ∧ Cond.selects (ab_R (ab_o 95)) (ab_y 95) (ab_y 95) ∈ ab_gt from ⟨ab_gt_of (List.mem_of_getElem? (i := 651) rfl) rfl, ab_gt_of (List.mem_of_getElem? (i := 24) rfl) rfl⟩)⟩
set_option maxRecDepth 20000 in
theorem ab_pm96 : ab_PM 96 := ⟨ab_gt_of (List.mem_of_getElem? (i := 641) rfl) rfl, ab_gt_of (List.mem_of_getElem? (i := 40) rfl) rfl, (show Cond.instanceMethod (ab_y 96) ∈ ab_gt ∧ Cond.selects (ab_R (ab_o 96)) (ab_y 96) (ab_y 96) ∈ ab_gt from ⟨ab_gt_of (List.mem_of_getElem? (i := 639) rfl) rfl, ab_gt_of (List.mem_of_getElem? (i := 640) rfl) rfl⟩)⟩
set_option maxRecDepth 20000 in
theorem ab_pm97 : ab_PM 97 := ⟨ab_gt_of (List.mem_of_getElem? (i := 668) rfl) rfl, ab_gt_of (List.mem_of_getElem? (i := 40) rfl) rfl, (show Cond.instanceMethod (ab_y 97) ∈ ab_gt ∧ Cond.selects (ab_R (ab_o 97)) (ab_y 97) (ab_y 97) ∈ ab_gt from ⟨ab_gt_of (List.mem_of_getElem? (i := 667) rfl) rfl, ab_gt_of (List.mem_of_getElem? (i := 27) rfl) rfl⟩)⟩
set_option maxRecDepth 20000 in
theorem ab_pm98 : ab_PM 98 := ⟨ab_gt_of (List.mem_of_getElem? (i := 664) rfl) rfl, ab_gt_of (List.mem_of_getElem? (i := 40) rfl) rfl, (show Cond.instanceMethod (ab_y 98) ∈ ab_gt ∧ Cond.selects (ab_R (ab_o 98)) (ab_y 98) (ab_y 98) ∈ ab_gt from ⟨ab_gt_of (List.mem_of_getElem? (i := 663) rfl) rfl, ab_gt_of (List.mem_of_getElem? (i := 26) rfl) rfl⟩)⟩
set_option maxRecDepth 20000 in
theorem ab_pm99 : ab_PM 99 := ⟨ab_gt_of (List.mem_of_getElem? (i := 672) rfl) rfl, ab_gt_of (List.mem_of_getElem? (i := 40) rfl) rfl, (show Cond.instanceMethod (ab_y 99) ∈ ab_gt ∧ Cond.selects (ab_R (ab_o 99)) (ab_y 99) (ab_y 99) ∈ ab_gt from ⟨ab_gt_of (List.mem_of_getElem? (i := 671) rfl) rfl, ab_gt_of (List.mem_of_getElem? (i := 28) rfl) rfl⟩)⟩
set_option maxRecDepth 20000 in
theorem ab_pm100 : ab_PM 100 := ⟨ab_gt_of (List.mem_of_getElem? (i := 676) rfl) rfl, ab_gt_of (List.mem_of_getElem? (i := 40) rfl) rfl, (show Cond.instanceMethod (ab_y 100) ∈ ab_gt ∧ Cond.selects (ab_R (ab_o 100)) (ab_y 100) (ab_y 100) ∈ ab_gt from ⟨ab_gt_of (List.mem_of_getElem? (i := 675) rfl) rfl, ab_gt_of (List.mem_of_getElem? (i := 29) rfl) rfl⟩)⟩
set_option maxRecDepth 20000 in
theorem ab_pm101 : ab_PM 101 := ⟨ab_gt_of (List.mem_of_getElem? (i := 660) rfl) rfl, ab_gt_of (List.mem_of_getElem? (i := 40) rfl) rfl, (show Cond.instanceMethod (ab_y 101) ∈ ab_gt ∧ Cond.selects (ab_R (ab_o 101)) (ab_y 101) (ab_y 101) ∈ ab_gt from ⟨ab_gt_of (List.mem_of_getElem? (i := 659) rfl) rfl, ab_gt_of (List.mem_of_getElem? (i := 25) rfl) rfl⟩)⟩
set_option maxRecDepth 20000 in
theorem ab_pm102 : ab_PM 102 := ⟨ab_gt_of (List.mem_of_getElem? (i := 656) rfl) rfl, ab_gt_of (List.mem_of_getElem? (i := 40) rfl) rfl, (show Cond.instanceMethod (ab_y 102) ∈ ab_gt ∧ Cond.selects (ab_R (ab_o 102)) (ab_y 102) (ab_y 102) ∈ ab_gt from ⟨ab_gt_of (List.mem_of_getElem? (i := 654) rfl) rfl, ab_gt_of (List.mem_of_getElem? (i := 655) rfl) rfl⟩)⟩
set_option maxRecDepth 20000 in
theorem ab_pm103 : ab_PM 103 := ⟨ab_gt_of (List.mem_of_getElem? (i := 684) rfl) rfl, ab_gt_of (List.mem_of_getElem? (i := 40) rfl) rfl, (show Cond.instanceMethod (ab_y 103) ∈ ab_gt ∧ Cond.selects (ab_R (ab_o 103)) (ab_y 103) (ab_y 103) ∈ ab_gt from ⟨ab_gt_of (List.mem_of_getElem? (i := 683) rfl) rfl, ab_gt_of (List.mem_of_getElem? (i := 30) rfl) rfl⟩)⟩
set_option maxRecDepth 20000 in
theorem ab_pm104 : ab_PM 104 := ⟨ab_gt_of (List.mem_of_getElem? (i := 680) rfl) rfl, ab_gt_of (List.mem_of_getElem? (i := 40) rfl) rfl, (show Cond.instanceMethod (ab_y 104) ∈ ab_gt ∧ Cond.selects (ab_R (ab_o 104)) (ab_y 104) (ab_y 104) ∈ ab_gt from ⟨ab_gt_of (List.mem_of_getElem? (i := 678) rfl) rfl, ab_gt_of (List.mem_of_getElem? (i := 679) rfl) rfl⟩)⟩
set_option maxRecDepth 20000 in
theorem ab_pm105 : ab_PM 105 := ⟨ab_gt_of (List.mem_of_getElem? (i := 688) rfl) rfl, ab_gt_of (List.mem_of_getElem? (i := 40) rfl) rfl, (show Cond.instanceMethod (ab_y 105) ∈ ab_gt ∧ Cond.selects (ab_R (ab_o 105)) (ab_y 105) (ab_y 105) ∈ ab_gt from ⟨ab_gt_of (List.mem_of_getElem? (i := 686) rfl) rfl, ab_gt_of (List.mem_of_getElem? (i := 687) rfl) rfl⟩)⟩
set_option maxRecDepth 20000 in
theorem ab_pm106 : ab_PM 106 := ⟨ab_gt_of (List.mem_of_getElem? (i := 692) rfl) rfl, ab_gt_of (List.mem_of_getElem? (i := 40) rfl) rfl, (show Cond.instanceMethod (ab_y 106) ∈ ab_gt ∧ Cond.selects (ab_R (ab_o 106)) (ab_y 106) (ab_y 106) ∈ ab_gt from ⟨ab_gt_of (List.mem_of_getElem? (i := 690) rfl) rfl, ab_gt_of (List.mem_of_getElem? (i := 691) rfl) rfl⟩)⟩
set_option maxRecDepth 20000 in
theorem ab_pm107 : ab_PM 107 := ⟨ab_gt_of (List.mem_of_getElem? (i := 700) rfl) rfl, ab_gt_of (List.mem_of_getElem? (i := 40) rfl) rfl, (show Cond.instanceMethod (ab_y 107) ∈ ab_gt ∧ Cond.selects (ab_R (ab_o 107)) (ab_y 107) (ab_y 107) ∈ ab_gt from ⟨ab_gt_of (List.mem_of_getElem? (i := 699) rfl) rfl, ab_gt_of (List.mem_of_getElem? (i := 31) rfl) rfl⟩)⟩
set_option maxRecDepth 20000 in
theorem ab_pm108 : ab_PM 108 := ⟨ab_gt_of (List.mem_of_getElem? (i := 696) rfl) rfl, ab_gt_of (List.mem_of_getElem? (i := 40) rfl) rfl, (show Cond.instanceMethod (ab_y 108) ∈ ab_gt ∧ Cond.selects (ab_R (ab_o 108)) (ab_y 108) (ab_y 108) ∈ ab_gt from ⟨ab_gt_of (List.mem_of_getElem? (i := 694) rfl) rfl, ab_gt_of (List.mem_of_getElem? (i := 695) rfl) rfl⟩)⟩
set_option maxRecDepth 20000 in
theorem ab_pm109 : ab_PM 109 := ⟨ab_gt_of (List.mem_of_getElem? (i := 704) rfl) rfl, ab_gt_of (List.mem_of_getElem? (i := 40) rfl) rfl, (show Cond.instanceMethod (ab_y 109) ∈ ab_gt ∧ Cond.selects (ab_R (ab_o 109)) (ab_y 109) (ab_y 109) ∈ ab_gt from ⟨ab_gt_of (List.mem_of_getElem? (i := 702) rfl) rfl, ab_gt_of (List.mem_of_getElem? (i := 703) rfl) rfl⟩)⟩
set_option maxRecDepth 20000 in
theorem ab_pm110 : ab_PM 110 := ⟨ab_gt_of (List.mem_of_getElem? (i := 708) rfl) rfl, ab_gt_of (List.mem_of_getElem? (i := 40) rfl) rfl, (show Cond.instanceMethod (ab_y 110) ∈ ab_gt ∧ Cond.selects (ab_R (ab_o 110)) (ab_y 110) (ab_y 110) ∈ ab_gt from ⟨ab_gt_of (List.mem_of_getElem? (i := 706) rfl) rfl, ab_gt_of (List.mem_of_getElem? (i := 707) rfl) rfl⟩)⟩
set_option maxRecDepth 20000 in
theorem ab_pm111 : ab_PM 111 := ⟨ab_gt_of (List.mem_of_getElem? (i := 712) rfl) rfl, ab_gt_of (List.mem_of_getElem? (i := 40) rfl) rfl, (show Cond.instanceMethod (ab_y 111) ∈ ab_gt ∧ Cond.selects (ab_R (ab_o 111)) (ab_y 111) (ab_y 111) ∈ ab_gt from ⟨ab_gt_of (List.mem_of_getElem? (i := 710) rfl) rfl, ab_gt_of (List.mem_of_getElem? (i := 711) rfl) rfl⟩)⟩
set_option maxRecDepth 20000 in
theorem ab_pm112 : ab_PM 112 := ⟨ab_gt_of (List.mem_of_getElem? (i := 716) rfl) rfl, ab_gt_of (List.mem_of_getElem? (i := 40) rfl) rfl, (show Cond.instanceMethod (ab_y 112) ∈ ab_gt ∧ Cond.selects (ab_R (ab_o 112)) (ab_y 112) (ab_y 112) ∈ ab_gt from ⟨ab_gt_of (List.mem_of_getElem? (i := 714) rfl) rfl, ab_gt_of (List.mem_of_getElem? (i := 715) rfl) rfl⟩)⟩
set_option maxRecDepth 20000 in
theorem ab_pm113 : ab_PM 113 := ⟨ab_gt_of (List.mem_of_getElem? (i := 720) rfl) rfl, ab_gt_of (List.mem_of_getElem? (i := 40) rfl) rfl, (show Cond.instanceMethod (ab_y 113) ∈ ab_gt ∧ Cond.selects (ab_R (ab_o 113)) (ab_y 113) (ab_y 113) ∈ ab_gt from ⟨ab_gt_of (List.mem_of_getElem? (i := 719) rfl) rfl, ab_gt_of (List.mem_of_getElem? (i := 32) rfl) rfl⟩)⟩
set_option maxRecDepth 20000 in
theorem ab_pm114 : ab_PM 114 := ⟨ab_gt_of (List.mem_of_getElem? (i := 724) rfl) rfl, ab_gt_of (List.mem_of_getElem? (i := 40) rfl) rfl, (show Cond.instanceMethod (ab_y 114) ∈ ab_gt ∧ Cond.selects (ab_R (ab_o 114)) (ab_y 114) (ab_y 114) ∈ ab_gt from ⟨ab_gt_of (List.mem_of_getElem? (i := 722) rfl) rfl, ab_gt_of (List.mem_of_getElem? (i := 723) rfl) rfl⟩)⟩
set_option maxRecDepth 20000 in
theorem ab_pm115 : ab_PM 115 := ⟨ab_gt_of (List.mem_of_getElem? (i := 729) rfl) rfl, ab_gt_of (List.mem_of_getElem? (i := 40) rfl) rfl, (show Cond.instanceMethod (ab_y 115) ∈ ab_gt ∧ Cond.selects (ab_R (ab_o 115)) (ab_y 115) (ab_y 115) ∈ ab_gt from ⟨ab_gt_of (List.mem_of_getElem? (i := 727) rfl) rfl, ab_gt_of (List.mem_of_getElem? (i := 728) rfl) rfl⟩)⟩
set_option maxRecDepth 20000 in
theorem ab_pm116 : ab_PM 116 := ⟨ab_gt_of (List.mem_of_getElem? (i := 733) rfl) rfl, ab_gt_of (List.mem_of_getElem? (i := 40) rfl) rfl, (show Cond.instanceMethod (ab_y 116) ∈ ab_gt ∧ Cond.selects (ab_R (ab_o 116)) (ab_y 116) (ab_y 116) ∈ ab_gt from ⟨ab_gt_of (List.mem_of_getElem? (i := 731) rfl) rfl, ab_gt_of (List.mem_of_getElem? (i := 732) rfl) rfl⟩)⟩
set_option maxRecDepth 20000 in
theorem ab_pm117 : ab_PM 117 := ⟨ab_gt_of (List.mem_of_getElem? (i := 737) rfl) rfl, ab_gt_of (List.mem_of_getElem? (i := 40) rfl) rfl, (show Cond.instanceMethod (ab_y 117) ∈ ab_gt ∧ Cond.selects (ab_R (ab_o 117)) (ab_y 117) (ab_y 117) ∈ ab_gt from ⟨ab_gt_of (List.mem_of_getElem? (i := 735) rfl) rfl, ab_gt_of (List.mem_of_getElem? (i := 736) rfl) rfl⟩)⟩
theorem ab_PMs {t : Nat} (h : t < ab_NM) : ab_PM t := by
  match t, h with
  | 0, _ => exact ab_pm0
  | 1, _ => exact ab_pm1
  | 2, _ => exact ab_pm2
  | 3, _ => exact ab_pm3
  | 4, _ => exact ab_pm4
  | 5, _ => exact ab_pm5
  | 6, _ => exact ab_pm6
  | 7, _ => exact ab_pm7
  | 8, _ => exact ab_pm8
  | 9, _ => exact ab_pm9
  | 10, _ => exact ab_pm10
  | 11, _ => exact ab_pm11
  | 12, _ => exact ab_pm12
  | 13, _ => exact ab_pm13
  | 14, _ => exact ab_pm14
  | 15, _ => exact ab_pm15
  | 16, _ => exact ab_pm16
  | 17, _ => exact ab_pm17
  | 18, _ => exact ab_pm18
  | 19, _ => exact ab_pm19
  | 20, _ => exact ab_pm20
  | 21, _ => exact ab_pm21
  | 22, _ => exact ab_pm22
  | 23, _ => exact ab_pm23
  | 24, _ => exact ab_pm24
  | 25, _ => exact ab_pm25
  | 26, _ => exact ab_pm26
  | 27, _ => exact ab_pm27
  | 28, _ => exact ab_pm28
  | 29, _ => exact ab_pm29
  | 30, _ => exact ab_pm30
  | 31, _ => exact ab_pm31
  | 32, _ => exact ab_pm32
  | 33, _ => exact ab_pm33
  | 34, _ => exact ab_pm34
  | 35, _ => exact ab_pm35
  | 36, _ => exact ab_pm36
  | 37, _ => exact ab_pm37
  | 38, _ => exact ab_pm38
  | 39, _ => exact ab_pm39
  | 40, _ => exact ab_pm40
  | 41, _ => exact ab_pm41
  | 42, _ => exact ab_pm42
  | 43, _ => exact ab_pm43
  | 44, _ => exact ab_pm44
  | 45, _ => exact ab_pm45
  | 46, _ => exact ab_pm46
  | 47, _ => exact ab_pm47
  | 48, _ => exact ab_pm48
  | 49, _ => exact ab_pm49
  | 50, _ => exact ab_pm50
  | 51, _ => exact ab_pm51
  | 52, _ => exact ab_pm52
  | 53, _ => exact ab_pm53
  | 54, _ => exact ab_pm54
  | 55, _ => exact ab_pm55
  | 56, _ => exact ab_pm56
  | 57, _ => exact ab_pm57
  | 58, _ => exact ab_pm58
  | 59, _ => exact ab_pm59
  | 60, _ => exact ab_pm60
  | 61, _ => exact ab_pm61
  | 62, _ => exact ab_pm62
  | 63, _ => exact ab_pm63
  | 64, _ => exact ab_pm64
  | 65, _ => exact ab_pm65
  | 66, _ => exact ab_pm66
  | 67, _ => exact ab_pm67
  | 68, _ => exact ab_pm68
  | 69, _ => exact ab_pm69
  | 70, _ => exact ab_pm70
  | 71, _ => exact ab_pm71
  | 72, _ => exact ab_pm72
  | 73, _ => exact ab_pm73
  | 74, _ => exact ab_pm74
  | 75, _ => exact ab_pm75
  | 76, _ => exact ab_pm76
  | 77, _ => exact ab_pm77
  | 78, _ => exact ab_pm78
  | 79, _ => exact ab_pm79
  | 80, _ => exact ab_pm80
  | 81, _ => exact ab_pm81
  | 82, _ => exact ab_pm82
  | 83, _ => exact ab_pm83
  | 84, _ => exact ab_pm84
  | 85, _ => exact ab_pm85
  | 86, _ => exact ab_pm86
  | 87, _ => exact ab_pm87
  | 88, _ => exact ab_pm88
  | 89, _ => exact ab_pm89
  | 90, _ => exact ab_pm90
  | 91, _ => exact ab_pm91
  | 92, _ => exact ab_pm92
  | 93, _ => exact ab_pm93
  | 94, _ => exact ab_pm94
  | 95, _ => exact ab_pm95
  | 96, _ => exact ab_pm96
  | 97, _ => exact ab_pm97
  | 98, _ => exact ab_pm98
  | 99, _ => exact ab_pm99
  | 100, _ => exact ab_pm100
  | 101, _ => exact ab_pm101
  | 102, _ => exact ab_pm102
  | 103, _ => exact ab_pm103
  | 104, _ => exact ab_pm104
  | 105, _ => exact ab_pm105
  | 106, _ => exact ab_pm106
  | 107, _ => exact ab_pm107
  | 108, _ => exact ab_pm108
  | 109, _ => exact ab_pm109
  | 110, _ => exact ab_pm110
  | 111, _ => exact ab_pm111
  | 112, _ => exact ab_pm112
  | 113, _ => exact ab_pm113
  | 114, _ => exact ab_pm114
  | 115, _ => exact ab_pm115
  | 116, _ => exact ab_pm116
  | 117, _ => exact ab_pm117
  | n + 118, h => exact absurd h (by show ¬ n + 118 < 118; omega)
def ab_okq (t : Nat) : Bool := decide ((ab_y t).cls = ab_R (ab_o t)) && plainName (ab_y t).cls && decide ((ab_y t).cls ≠ "java/lang/invoke/MethodHandle") && decide ((ab_y t).cls ≠ "java/lang/invoke/VarHandle") && decide ((parseMethodDescriptor (ab_y t).desc).map (fun d => d.parameters.length) = some (if ab_s t then ab_n t else ab_n t - 1))
def ab_okn (t : Nat) : Bool := decide (ab_n t ≤ ab_L t) && decide (ab_L t ≤ 17) && decide (ab_o t < 8) && ((decide (ab_r t = none) && decide (ab_b t = 0)) || (decide (ab_r t = some .int) && decide (ab_b t = 1)) || (decide (ab_r t = some .boolean) && decide (ab_b t = 2))) && (decide (ab_s t = true) || (decide (0 < ab_n t) && decide (ab_o t < 7)))
theorem ab_okns : ((List.range ab_NM).all ab_okn) = true := by decide +kernel
theorem ab_okM0 : ((List.range 20).all (fun j => ab_okq (0 + j))) = true := by decide +kernel
theorem ab_okM20 : ((List.range 20).all (fun j => ab_okq (20 + j))) = true := by decide +kernel
theorem ab_okM40 : ((List.range 20).all (fun j => ab_okq (40 + j))) = true := by decide +kernel
theorem ab_okM60 : ((List.range 20).all (fun j => ab_okq (60 + j))) = true := by decide +kernel
theorem ab_okM80 : ((List.range 20).all (fun j => ab_okq (80 + j))) = true := by decide +kernel
theorem ab_okM100 : ((List.range 18).all (fun j => ab_okq (100 + j))) = true := by decide +kernel
theorem ab_okn_at {t : Nat} (h : t < ab_NM) : ab_okn t = true := List.all_eq_true.mp ab_okns t (List.mem_range.mpr h)
theorem ab_okM_at {t : Nat} (h : t < ab_NM) : ab_okq t = true := by
  have h : t < 118 := h
  rcases Nat.lt_or_ge t 20 with h0 | h0
  · have := List.all_eq_true.mp ab_okM0 (t - 0) (List.mem_range.mpr (by omega))
    rw [show 0 + (t - 0) = t by omega] at this
    exact this
  rcases Nat.lt_or_ge t 40 with h20 | h20
  · have := List.all_eq_true.mp ab_okM20 (t - 20) (List.mem_range.mpr (by omega))
    rw [show 20 + (t - 20) = t by omega] at this
    exact this
  rcases Nat.lt_or_ge t 60 with h40 | h40
  · have := List.all_eq_true.mp ab_okM40 (t - 40) (List.mem_range.mpr (by omega))
    rw [show 40 + (t - 40) = t by omega] at this
    exact this
  rcases Nat.lt_or_ge t 80 with h60 | h60
  · have := List.all_eq_true.mp ab_okM60 (t - 60) (List.mem_range.mpr (by omega))
    rw [show 60 + (t - 60) = t by omega] at this
    exact this
  rcases Nat.lt_or_ge t 100 with h80 | h80
  · have := List.all_eq_true.mp ab_okM80 (t - 80) (List.mem_range.mpr (by omega))
    rw [show 80 + (t - 80) = t by omega] at this
    exact this
  rcases Nat.lt_or_ge t 118 with h100 | h100
  · have := List.all_eq_true.mp ab_okM100 (t - 100) (List.mem_range.mpr (by omega))
    rw [show 100 + (t - 100) = t by omega] at this
    exact this
  exact absurd h (by omega)
set_option maxRecDepth 20000 in
theorem ab_okV_0 : (Cond.methodLink (ab_R 0) 27 (ab_y 10) ∈ ab_gt) ∧ 10 < ab_NM ∧ ab_s 10 = false := ⟨ab_gt_of (List.mem_of_getElem? (i := 460) rfl) rfl, by decide, rfl⟩
set_option maxRecDepth 20000 in
theorem ab_okV_1 : (Cond.methodLink (ab_R 0) 37 (ab_y 4) ∈ ab_gt) ∧ 4 < ab_NM ∧ ab_s 4 = false := ⟨ab_gt_of (List.mem_of_getElem? (i := 462) rfl) rfl, by decide, rfl⟩
set_option maxRecDepth 20000 in
theorem ab_okV_2 : (Cond.methodLink (ab_R 0) 41 (ab_y 13) ∈ ab_gt) ∧ 13 < ab_NM ∧ ab_s 13 = false := ⟨ab_gt_of (List.mem_of_getElem? (i := 466) rfl) rfl, by decide, rfl⟩
set_option maxRecDepth 20000 in
theorem ab_okV_3 : (Cond.methodLink (ab_R 0) 48 (ab_y 12) ∈ ab_gt) ∧ 12 < ab_NM ∧ ab_s 12 = false := ⟨ab_gt_of (List.mem_of_getElem? (i := 470) rfl) rfl, by decide, rfl⟩
set_option maxRecDepth 20000 in
theorem ab_okV_4 : (Cond.methodLink (ab_R 2) 25 (ab_y 11) ∈ ab_gt) ∧ 11 < ab_NM ∧ ab_s 11 = false := ⟨ab_gt_of (List.mem_of_getElem? (i := 314) rfl) rfl, by decide, rfl⟩
set_option maxRecDepth 20000 in
theorem ab_okV_5 : (Cond.methodLink (ab_R 2) 33 (ab_y 16) ∈ ab_gt) ∧ 16 < ab_NM ∧ ab_s 16 = false := ⟨ab_gt_of (List.mem_of_getElem? (i := 338) rfl) rfl, by decide, rfl⟩
set_option maxRecDepth 20000 in
theorem ab_okV_6 : (Cond.methodLink (ab_R 2) 40 (ab_y 29) ∈ ab_gt) ∧ 29 < ab_NM ∧ ab_s 29 = false := ⟨ab_gt_of (List.mem_of_getElem? (i := 327) rfl) rfl, by decide, rfl⟩
set_option maxRecDepth 20000 in
theorem ab_okV_7 : (Cond.methodLink (ab_R 2) 48 (ab_y 17) ∈ ab_gt) ∧ 17 < ab_NM ∧ ab_s 17 = false := ⟨ab_gt_of (List.mem_of_getElem? (i := 354) rfl) rfl, by decide, rfl⟩
set_option maxRecDepth 20000 in
theorem ab_okV_8 : (Cond.methodLink (ab_R 2) 51 (ab_y 18) ∈ ab_gt) ∧ 18 < ab_NM ∧ ab_s 18 = false := ⟨ab_gt_of (List.mem_of_getElem? (i := 425) rfl) rfl, by decide, rfl⟩
set_option maxRecDepth 20000 in
theorem ab_okV_9 : (Cond.methodLink (ab_R 2) 54 (ab_y 19) ∈ ab_gt) ∧ 19 < ab_NM ∧ ab_s 19 = false := ⟨ab_gt_of (List.mem_of_getElem? (i := 426) rfl) rfl, by decide, rfl⟩
set_option maxRecDepth 20000 in
theorem ab_okV_10 : (Cond.methodLink (ab_R 2) 57 (ab_y 32) ∈ ab_gt) ∧ 32 < ab_NM ∧ ab_s 32 = false := ⟨ab_gt_of (List.mem_of_getElem? (i := 242) rfl) rfl, by decide, rfl⟩
set_option maxRecDepth 20000 in
theorem ab_okV_11 : (Cond.methodLink (ab_R 2) 60 (ab_y 28) ∈ ab_gt) ∧ 28 < ab_NM ∧ ab_s 28 = false := ⟨ab_gt_of (List.mem_of_getElem? (i := 269) rfl) rfl, by decide, rfl⟩
set_option maxRecDepth 20000 in
theorem ab_okV_12 : (Cond.methodLink (ab_R 2) 64 (ab_y 22) ∈ ab_gt) ∧ 22 < ab_NM ∧ ab_s 22 = false := ⟨ab_gt_of (List.mem_of_getElem? (i := 277) rfl) rfl, by decide, rfl⟩
set_option maxRecDepth 20000 in
theorem ab_okV_13 : (Cond.methodLink (ab_R 4) 32 (ab_y 49) ∈ ab_gt) ∧ 49 < ab_NM ∧ ab_s 49 = false := ⟨ab_gt_of (List.mem_of_getElem? (i := 230) rfl) rfl, by decide, rfl⟩
set_option maxRecDepth 20000 in
theorem ab_okV_14 : (Cond.methodLink (ab_R 4) 36 (ab_y 44) ∈ ab_gt) ∧ 44 < ab_NM ∧ ab_s 44 = false := ⟨ab_gt_of (List.mem_of_getElem? (i := 298) rfl) rfl, by decide, rfl⟩
set_option maxRecDepth 20000 in
theorem ab_okV_15 : (Cond.methodLink (ab_R 5) 64 (ab_y 40) ∈ ab_gt) ∧ 40 < ab_NM ∧ ab_s 40 = false := ⟨ab_gt_of (List.mem_of_getElem? (i := 183) rfl) rfl, by decide, rfl⟩
set_option maxRecDepth 20000 in
theorem ab_okV_16 : (Cond.methodLink (ab_R 5) 71 (ab_y 41) ∈ ab_gt) ∧ 41 < ab_NM ∧ ab_s 41 = false := ⟨ab_gt_of (List.mem_of_getElem? (i := 195) rfl) rfl, by decide, rfl⟩
set_option maxRecDepth 20000 in
theorem ab_okV_17 : (Cond.methodLink (ab_R 5) 77 (ab_y 42) ∈ ab_gt) ∧ 42 < ab_NM ∧ ab_s 42 = false := ⟨ab_gt_of (List.mem_of_getElem? (i := 206) rfl) rfl, by decide, rfl⟩
set_option maxRecDepth 20000 in
theorem ab_okV_18 : (Cond.methodLink (ab_R 5) 80 (ab_y 70) ∈ ab_gt) ∧ 70 < ab_NM ∧ ab_s 70 = false := ⟨ab_gt_of (List.mem_of_getElem? (i := 214) rfl) rfl, by decide, rfl⟩
set_option maxRecDepth 20000 in
theorem ab_okV_19 : (Cond.methodLink (ab_R 5) 86 (ab_y 11) ∈ ab_gt) ∧ 11 < ab_NM ∧ ab_s 11 = false := ⟨ab_gt_of (List.mem_of_getElem? (i := 306) rfl) rfl, by decide, rfl⟩
set_option maxRecDepth 20000 in
theorem ab_okV_20 : (Cond.methodLink (ab_R 5) 89 (ab_y 12) ∈ ab_gt) ∧ 12 < ab_NM ∧ ab_s 12 = false := ⟨ab_gt_of (List.mem_of_getElem? (i := 310) rfl) rfl, by decide, rfl⟩
set_option maxRecDepth 20000 in
theorem ab_okV_21 : (Cond.methodLink (ab_R 5) 93 (ab_y 13) ∈ ab_gt) ∧ 13 < ab_NM ∧ ab_s 13 = false := ⟨ab_gt_of (List.mem_of_getElem? (i := 315) rfl) rfl, by decide, rfl⟩
set_option maxRecDepth 20000 in
theorem ab_okV_22 : (Cond.methodLink (ab_R 5) 96 (ab_y 14) ∈ ab_gt) ∧ 14 < ab_NM ∧ ab_s 14 = false := ⟨ab_gt_of (List.mem_of_getElem? (i := 319) rfl) rfl, by decide, rfl⟩
set_option maxRecDepth 20000 in
theorem ab_okV_23 : (Cond.methodLink (ab_R 5) 99 (ab_y 16) ∈ ab_gt) ∧ 16 < ab_NM ∧ ab_s 16 = false := ⟨ab_gt_of (List.mem_of_getElem? (i := 323) rfl) rfl, by decide, rfl⟩
set_option maxRecDepth 20000 in
theorem ab_okV_24 : (Cond.methodLink (ab_R 5) 102 (ab_y 15) ∈ ab_gt) ∧ 15 < ab_NM ∧ ab_s 15 = false := ⟨ab_gt_of (List.mem_of_getElem? (i := 331) rfl) rfl, by decide, rfl⟩
set_option maxRecDepth 20000 in
theorem ab_okV_25 : (Cond.methodLink (ab_R 5) 105 (ab_y 10) ∈ ab_gt) ∧ 10 < ab_NM ∧ ab_s 10 = false := ⟨ab_gt_of (List.mem_of_getElem? (i := 346) rfl) rfl, by decide, rfl⟩
set_option maxRecDepth 20000 in
theorem ab_okV_26 : (Cond.methodLink (ab_R 5) 109 (ab_y 18) ∈ ab_gt) ∧ 18 < ab_NM ∧ ab_s 18 = false := ⟨ab_gt_of (List.mem_of_getElem? (i := 350) rfl) rfl, by decide, rfl⟩
set_option maxRecDepth 20000 in
theorem ab_okV_27 : (Cond.methodLink (ab_R 5) 112 (ab_y 19) ∈ ab_gt) ∧ 19 < ab_NM ∧ ab_s 19 = false := ⟨ab_gt_of (List.mem_of_getElem? (i := 361) rfl) rfl, by decide, rfl⟩
set_option maxRecDepth 20000 in
theorem ab_okV_28 : (Cond.methodLink (ab_R 5) 115 (ab_y 75) ∈ ab_gt) ∧ 75 < ab_NM ∧ ab_s 75 = false := ⟨ab_gt_of (List.mem_of_getElem? (i := 365) rfl) rfl, by decide, rfl⟩
set_option maxRecDepth 20000 in
theorem ab_okV_29 : (Cond.methodLink (ab_R 5) 118 (ab_y 17) ∈ ab_gt) ∧ 17 < ab_NM ∧ ab_s 17 = false := ⟨ab_gt_of (List.mem_of_getElem? (i := 375) rfl) rfl, by decide, rfl⟩
set_option maxRecDepth 20000 in
theorem ab_okV_30 : (Cond.methodLink (ab_R 5) 121 (ab_y 33) ∈ ab_gt) ∧ 33 < ab_NM ∧ ab_s 33 = false := ⟨ab_gt_of (List.mem_of_getElem? (i := 380) rfl) rfl, by decide, rfl⟩
set_option maxRecDepth 20000 in
theorem ab_okV_31 : (Cond.methodLink (ab_R 5) 125 (ab_y 74) ∈ ab_gt) ∧ 74 < ab_NM ∧ ab_s 74 = false := ⟨ab_gt_of (List.mem_of_getElem? (i := 385) rfl) rfl, by decide, rfl⟩
set_option maxRecDepth 20000 in
theorem ab_okV_32 : (Cond.methodLink (ab_R 5) 129 (ab_y 6) ∈ ab_gt) ∧ 6 < ab_NM ∧ ab_s 6 = false := ⟨ab_gt_of (List.mem_of_getElem? (i := 401) rfl) rfl, by decide, rfl⟩
set_option maxRecDepth 20000 in
theorem ab_okV_33 : (Cond.methodLink (ab_R 5) 132 (ab_y 5) ∈ ab_gt) ∧ 5 < ab_NM ∧ ab_s 5 = false := ⟨ab_gt_of (List.mem_of_getElem? (i := 409) rfl) rfl, by decide, rfl⟩
set_option maxRecDepth 20000 in
theorem ab_okV_34 : (Cond.methodLink (ab_R 5) 135 (ab_y 7) ∈ ab_gt) ∧ 7 < ab_NM ∧ ab_s 7 = false := ⟨ab_gt_of (List.mem_of_getElem? (i := 413) rfl) rfl, by decide, rfl⟩
set_option maxRecDepth 20000 in
theorem ab_okV_35 : (Cond.methodLink (ab_R 5) 138 (ab_y 8) ∈ ab_gt) ∧ 8 < ab_NM ∧ ab_s 8 = false := ⟨ab_gt_of (List.mem_of_getElem? (i := 417) rfl) rfl, by decide, rfl⟩
set_option maxRecDepth 20000 in
theorem ab_okV_36 : (Cond.methodLink (ab_R 5) 141 (ab_y 20) ∈ ab_gt) ∧ 20 < ab_NM ∧ ab_s 20 = false := ⟨ab_gt_of (List.mem_of_getElem? (i := 421) rfl) rfl, by decide, rfl⟩
set_option maxRecDepth 20000 in
theorem ab_okV_37 : (Cond.methodLink (ab_R 5) 145 (ab_y 9) ∈ ab_gt) ∧ 9 < ab_NM ∧ ab_s 9 = false := ⟨ab_gt_of (List.mem_of_getElem? (i := 431) rfl) rfl, by decide, rfl⟩
set_option maxRecDepth 20000 in
theorem ab_okV_38 : (Cond.methodLink (ab_R 5) 148 (ab_y 1) ∈ ab_gt) ∧ 1 < ab_NM ∧ ab_s 1 = false := ⟨ab_gt_of (List.mem_of_getElem? (i := 440) rfl) rfl, by decide, rfl⟩
set_option maxRecDepth 20000 in
theorem ab_okV_39 : (Cond.methodLink (ab_R 5) 151 (ab_y 2) ∈ ab_gt) ∧ 2 < ab_NM ∧ ab_s 2 = false := ⟨ab_gt_of (List.mem_of_getElem? (i := 448) rfl) rfl, by decide, rfl⟩
set_option maxRecDepth 20000 in
theorem ab_okV_40 : (Cond.methodLink (ab_R 5) 154 (ab_y 3) ∈ ab_gt) ∧ 3 < ab_NM ∧ ab_s 3 = false := ⟨ab_gt_of (List.mem_of_getElem? (i := 456) rfl) rfl, by decide, rfl⟩
set_option maxRecDepth 20000 in
theorem ab_okV_41 : (Cond.methodLink (ab_R 5) 158 (ab_y 34) ∈ ab_gt) ∧ 34 < ab_NM ∧ ab_s 34 = false := ⟨ab_gt_of (List.mem_of_getElem? (i := 479) rfl) rfl, by decide, rfl⟩
set_option maxRecDepth 20000 in
theorem ab_okV_42 : (Cond.methodLink (ab_R 5) 161 (ab_y 35) ∈ ab_gt) ∧ 35 < ab_NM ∧ ab_s 35 = false := ⟨ab_gt_of (List.mem_of_getElem? (i := 487) rfl) rfl, by decide, rfl⟩
set_option maxRecDepth 20000 in
theorem ab_okV_43 : (Cond.methodLink (ab_R 5) 164 (ab_y 78) ∈ ab_gt) ∧ 78 < ab_NM ∧ ab_s 78 = false := ⟨ab_gt_of (List.mem_of_getElem? (i := 495) rfl) rfl, by decide, rfl⟩
set_option maxRecDepth 20000 in
theorem ab_okV_44 : (Cond.methodLink (ab_R 5) 167 (ab_y 77) ∈ ab_gt) ∧ 77 < ab_NM ∧ ab_s 77 = false := ⟨ab_gt_of (List.mem_of_getElem? (i := 499) rfl) rfl, by decide, rfl⟩
set_option maxRecDepth 20000 in
theorem ab_okV_45 : (Cond.methodLink (ab_R 5) 170 (ab_y 0) ∈ ab_gt) ∧ 0 < ab_NM ∧ ab_s 0 = false := ⟨ab_gt_of (List.mem_of_getElem? (i := 503) rfl) rfl, by decide, rfl⟩
set_option maxRecDepth 20000 in
theorem ab_okV_46 : (Cond.methodLink (ab_R 5) 173 (ab_y 36) ∈ ab_gt) ∧ 36 < ab_NM ∧ ab_s 36 = false := ⟨ab_gt_of (List.mem_of_getElem? (i := 218) rfl) rfl, by decide, rfl⟩
set_option maxRecDepth 20000 in
theorem ab_okV_47 : (Cond.methodLink (ab_R 5) 176 (ab_y 71) ∈ ab_gt) ∧ 71 < ab_NM ∧ ab_s 71 = false := ⟨ab_gt_of (List.mem_of_getElem? (i := 222) rfl) rfl, by decide, rfl⟩
set_option maxRecDepth 20000 in
theorem ab_okV_48 : (Cond.methodLink (ab_R 5) 179 (ab_y 45) ∈ ab_gt) ∧ 45 < ab_NM ∧ ab_s 45 = false := ⟨ab_gt_of (List.mem_of_getElem? (i := 249) rfl) rfl, by decide, rfl⟩
set_option maxRecDepth 20000 in
theorem ab_okV_49 : (Cond.methodLink (ab_R 5) 183 (ab_y 72) ∈ ab_gt) ∧ 72 < ab_NM ∧ ab_s 72 = false := ⟨ab_gt_of (List.mem_of_getElem? (i := 253) rfl) rfl, by decide, rfl⟩
set_option maxRecDepth 20000 in
theorem ab_okV_50 : (Cond.methodLink (ab_R 5) 186 (ab_y 73) ∈ ab_gt) ∧ 73 < ab_NM ∧ ab_s 73 = false := ⟨ab_gt_of (List.mem_of_getElem? (i := 278) rfl) rfl, by decide, rfl⟩
set_option maxRecDepth 20000 in
theorem ab_okV_51 : (Cond.methodLink (ab_R 5) 189 (ab_y 48) ∈ ab_gt) ∧ 48 < ab_NM ∧ ab_s 48 = false := ⟨ab_gt_of (List.mem_of_getElem? (i := 294) rfl) rfl, by decide, rfl⟩
set_option maxRecDepth 20000 in
theorem ab_okV_52 : (Cond.methodLink (ab_R 5) 190 (ab_y 43) ∈ ab_gt) ∧ 43 < ab_NM ∧ ab_s 43 = false := ⟨ab_gt_of (List.mem_of_getElem? (i := 226) rfl) rfl, by decide, rfl⟩
set_option maxRecDepth 20000 in
theorem ab_okV_53 : (Cond.methodLink (ab_R 5) 193 (ab_y 21) ∈ ab_gt) ∧ 21 < ab_NM ∧ ab_s 21 = false := ⟨ab_gt_of (List.mem_of_getElem? (i := 234) rfl) rfl, by decide, rfl⟩
set_option maxRecDepth 20000 in
theorem ab_okV_54 : (Cond.methodLink (ab_R 5) 196 (ab_y 22) ∈ ab_gt) ∧ 22 < ab_NM ∧ ab_s 22 = false := ⟨ab_gt_of (List.mem_of_getElem? (i := 238) rfl) rfl, by decide, rfl⟩
set_option maxRecDepth 20000 in
theorem ab_okV_55 : (Cond.methodLink (ab_R 5) 199 (ab_y 46) ∈ ab_gt) ∧ 46 < ab_NM ∧ ab_s 46 = false := ⟨ab_gt_of (List.mem_of_getElem? (i := 257) rfl) rfl, by decide, rfl⟩
set_option maxRecDepth 20000 in
theorem ab_okV_56 : (Cond.methodLink (ab_R 5) 202 (ab_y 47) ∈ ab_gt) ∧ 47 < ab_NM ∧ ab_s 47 = false := ⟨ab_gt_of (List.mem_of_getElem? (i := 261) rfl) rfl, by decide, rfl⟩
set_option maxRecDepth 20000 in
theorem ab_okV_57 : (Cond.methodLink (ab_R 5) 205 (ab_y 23) ∈ ab_gt) ∧ 23 < ab_NM ∧ ab_s 23 = false := ⟨ab_gt_of (List.mem_of_getElem? (i := 265) rfl) rfl, by decide, rfl⟩
set_option maxRecDepth 20000 in
theorem ab_okV_58 : (Cond.methodLink (ab_R 5) 208 (ab_y 24) ∈ ab_gt) ∧ 24 < ab_NM ∧ ab_s 24 = false := ⟨ab_gt_of (List.mem_of_getElem? (i := 273) rfl) rfl, by decide, rfl⟩
set_option maxRecDepth 20000 in
theorem ab_okV_59 : (Cond.methodLink (ab_R 5) 211 (ab_y 44) ∈ ab_gt) ∧ 44 < ab_NM ∧ ab_s 44 = false := ⟨ab_gt_of (List.mem_of_getElem? (i := 282) rfl) rfl, by decide, rfl⟩
set_option maxRecDepth 20000 in
theorem ab_okV_60 : (Cond.methodLink (ab_R 5) 214 (ab_y 25) ∈ ab_gt) ∧ 25 < ab_NM ∧ ab_s 25 = false := ⟨ab_gt_of (List.mem_of_getElem? (i := 286) rfl) rfl, by decide, rfl⟩
set_option maxRecDepth 20000 in
theorem ab_okV_61 : (Cond.methodLink (ab_R 5) 217 (ab_y 26) ∈ ab_gt) ∧ 26 < ab_NM ∧ ab_s 26 = false := ⟨ab_gt_of (List.mem_of_getElem? (i := 290) rfl) rfl, by decide, rfl⟩
set_option maxRecDepth 20000 in
theorem ab_okV_62 : (Cond.methodLink (ab_R 5) 220 (ab_y 27) ∈ ab_gt) ∧ 27 < ab_NM ∧ ab_s 27 = false := ⟨ab_gt_of (List.mem_of_getElem? (i := 389) rfl) rfl, by decide, rfl⟩
set_option maxRecDepth 20000 in
theorem ab_okV_63 : (Cond.methodLink (ab_R 5) 223 (ab_y 76) ∈ ab_gt) ∧ 76 < ab_NM ∧ ab_s 76 = false := ⟨ab_gt_of (List.mem_of_getElem? (i := 369) rfl) rfl, by decide, rfl⟩
set_option maxRecDepth 20000 in
theorem ab_okV_64 : (Cond.methodLink (ab_R 6) 70 (ab_y 86) ∈ ab_gt) ∧ 86 < ab_NM ∧ ab_s 86 = false := ⟨ab_gt_of (List.mem_of_getElem? (i := 626) rfl) rfl, by decide, rfl⟩
set_option maxRecDepth 20000 in
theorem ab_okV_65 : (Cond.methodLink (ab_R 6) 74 (ab_y 87) ∈ ab_gt) ∧ 87 < ab_NM ∧ ab_s 87 = false := ⟨ab_gt_of (List.mem_of_getElem? (i := 622) rfl) rfl, by decide, rfl⟩
set_option maxRecDepth 20000 in
theorem ab_okV_66 : (Cond.methodLink (ab_R 6) 78 (ab_y 84) ∈ ab_gt) ∧ 84 < ab_NM ∧ ab_s 84 = false := ⟨ab_gt_of (List.mem_of_getElem? (i := 614) rfl) rfl, by decide, rfl⟩
set_option maxRecDepth 20000 in
theorem ab_okV_67 : (Cond.methodLink (ab_R 6) 85 (ab_y 91) ∈ ab_gt) ∧ 91 < ab_NM ∧ ab_s 91 = false := ⟨ab_gt_of (List.mem_of_getElem? (i := 606) rfl) rfl, by decide, rfl⟩
set_option maxRecDepth 20000 in
theorem ab_okV_68 : (Cond.methodLink (ab_R 6) 88 (ab_y 85) ∈ ab_gt) ∧ 85 < ab_NM ∧ ab_s 85 = false := ⟨ab_gt_of (List.mem_of_getElem? (i := 610) rfl) rfl, by decide, rfl⟩
set_option maxRecDepth 20000 in
theorem ab_okV_69 : (Cond.methodLink (ab_R 6) 94 (ab_y 88) ∈ ab_gt) ∧ 88 < ab_NM ∧ ab_s 88 = false := ⟨ab_gt_of (List.mem_of_getElem? (i := 618) rfl) rfl, by decide, rfl⟩
set_option maxRecDepth 20000 in
theorem ab_okV_70 : (Cond.methodLink (ab_R 6) 97 (ab_y 89) ∈ ab_gt) ∧ 89 < ab_NM ∧ ab_s 89 = false := ⟨ab_gt_of (List.mem_of_getElem? (i := 630) rfl) rfl, by decide, rfl⟩
set_option maxRecDepth 20000 in
theorem ab_okV_71 : (Cond.methodLink (ab_R 6) 101 (ab_y 90) ∈ ab_gt) ∧ 90 < ab_NM ∧ ab_s 90 = false := ⟨ab_gt_of (List.mem_of_getElem? (i := 634) rfl) rfl, by decide, rfl⟩
set_option maxRecDepth 20000 in
theorem ab_okV_72 : (Cond.methodLink (ab_R 6) 104 (ab_y 92) ∈ ab_gt) ∧ 92 < ab_NM ∧ ab_s 92 = false := ⟨ab_gt_of (List.mem_of_getElem? (i := 602) rfl) rfl, by decide, rfl⟩
set_option maxRecDepth 20000 in
theorem ab_okV_73 : (Cond.methodLink (ab_R 6) 107 (ab_y 94) ∈ ab_gt) ∧ 94 < ab_NM ∧ ab_s 94 = false := ⟨ab_gt_of (List.mem_of_getElem? (i := 645) rfl) rfl, by decide, rfl⟩
set_option maxRecDepth 20000 in
theorem ab_okV_74 : (Cond.methodLink (ab_R 6) 114 (ab_y 95) ∈ ab_gt) ∧ 95 < ab_NM ∧ ab_s 95 = false := ⟨ab_gt_of (List.mem_of_getElem? (i := 649) rfl) rfl, by decide, rfl⟩
set_option maxRecDepth 20000 in
theorem ab_okV_75 : (Cond.methodLink (ab_R 6) 117 (ab_y 97) ∈ ab_gt) ∧ 97 < ab_NM ∧ ab_s 97 = false := ⟨ab_gt_of (List.mem_of_getElem? (i := 665) rfl) rfl, by decide, rfl⟩
set_option maxRecDepth 20000 in
theorem ab_okV_76 : (Cond.methodLink (ab_R 6) 120 (ab_y 98) ∈ ab_gt) ∧ 98 < ab_NM ∧ ab_s 98 = false := ⟨ab_gt_of (List.mem_of_getElem? (i := 661) rfl) rfl, by decide, rfl⟩
set_option maxRecDepth 20000 in
theorem ab_okV_77 : (Cond.methodLink (ab_R 6) 123 (ab_y 99) ∈ ab_gt) ∧ 99 < ab_NM ∧ ab_s 99 = false := ⟨ab_gt_of (List.mem_of_getElem? (i := 669) rfl) rfl, by decide, rfl⟩
set_option maxRecDepth 20000 in
theorem ab_okV_78 : (Cond.methodLink (ab_R 6) 126 (ab_y 101) ∈ ab_gt) ∧ 101 < ab_NM ∧ ab_s 101 = false := ⟨ab_gt_of (List.mem_of_getElem? (i := 657) rfl) rfl, by decide, rfl⟩
set_option maxRecDepth 20000 in
theorem ab_okV_79 : (Cond.methodLink (ab_R 6) 129 (ab_y 100) ∈ ab_gt) ∧ 100 < ab_NM ∧ ab_s 100 = false := ⟨ab_gt_of (List.mem_of_getElem? (i := 673) rfl) rfl, by decide, rfl⟩
set_option maxRecDepth 20000 in
theorem ab_okV_80 : (Cond.methodLink (ab_R 6) 135 (ab_y 103) ∈ ab_gt) ∧ 103 < ab_NM ∧ ab_s 103 = false := ⟨ab_gt_of (List.mem_of_getElem? (i := 681) rfl) rfl, by decide, rfl⟩
set_option maxRecDepth 20000 in
theorem ab_okV_81 : (Cond.methodLink (ab_R 6) 141 (ab_y 107) ∈ ab_gt) ∧ 107 < ab_NM ∧ ab_s 107 = false := ⟨ab_gt_of (List.mem_of_getElem? (i := 697) rfl) rfl, by decide, rfl⟩
set_option maxRecDepth 20000 in
theorem ab_okV_82 : (Cond.methodLink (ab_R 6) 147 (ab_y 113) ∈ ab_gt) ∧ 113 < ab_NM ∧ ab_s 113 = false := ⟨ab_gt_of (List.mem_of_getElem? (i := 717) rfl) rfl, by decide, rfl⟩
set_option maxRecDepth 20000 in
theorem ab_okV_83 : (Cond.methodLink (ab_R 6) 151 (ab_y 112) ∈ ab_gt) ∧ 112 < ab_NM ∧ ab_s 112 = false := ⟨ab_gt_of (List.mem_of_getElem? (i := 725) rfl) rfl, by decide, rfl⟩
set_option maxRecDepth 20000 in
theorem ab_okV_84 : (Cond.methodLink (ab_R 8) 13 (ab_y 50) ∈ ab_gt) ∧ 50 < ab_NM ∧ ab_s 50 = false := ⟨ab_gt_of (List.mem_of_getElem? (i := 173) rfl) rfl, by decide, rfl⟩
set_option maxRecDepth 20000 in
theorem ab_okV_85 : (Cond.methodLink (ab_R 8) 17 (ab_y 81) ∈ ab_gt) ∧ 81 < ab_NM ∧ ab_s 81 = false := ⟨ab_gt_of (List.mem_of_getElem? (i := 583) rfl) rfl, by decide, rfl⟩
set_option maxRecDepth 20000 in
theorem ab_okV_86 : (Cond.methodLink (ab_R 8) 18 (ab_y 51) ∈ ab_gt) ∧ 51 < ab_NM ∧ ab_s 51 = false := ⟨ab_gt_of (List.mem_of_getElem? (i := 188) rfl) rfl, by decide, rfl⟩
set_option maxRecDepth 20000 in
theorem ab_okV_87 : (Cond.methodLink (ab_R 8) 21 (ab_y 82) ∈ ab_gt) ∧ 82 < ab_NM ∧ ab_s 82 = false := ⟨ab_gt_of (List.mem_of_getElem? (i := 590) rfl) rfl, by decide, rfl⟩
set_option maxRecDepth 20000 in
theorem ab_okV_88 : (Cond.methodLink (ab_R 8) 22 (ab_y 52) ∈ ab_gt) ∧ 52 < ab_NM ∧ ab_s 52 = false := ⟨ab_gt_of (List.mem_of_getElem? (i := 199) rfl) rfl, by decide, rfl⟩
set_option maxRecDepth 20000 in
theorem ab_okV_89 : (Cond.methodLink (ab_R 8) 25 (ab_y 83) ∈ ab_gt) ∧ 83 < ab_NM ∧ ab_s 83 = false := ⟨ab_gt_of (List.mem_of_getElem? (i := 594) rfl) rfl, by decide, rfl⟩
set_option maxRecDepth 20000 in
theorem ab_okV_90 : (Cond.methodLink (ab_R 8) 26 (ab_y 53) ∈ ab_gt) ∧ 53 < ab_NM ∧ ab_s 53 = false := ⟨ab_gt_of (List.mem_of_getElem? (i := 210) rfl) rfl, by decide, rfl⟩
set_option maxRecDepth 20000 in
theorem ab_okV_91 : (Cond.methodLink (ab_R 8) 30 (ab_y 93) ∈ ab_gt) ∧ 93 < ab_NM ∧ ab_s 93 = false := ⟨ab_gt_of (List.mem_of_getElem? (i := 598) rfl) rfl, by decide, rfl⟩
set_option maxRecDepth 20000 in
theorem ab_okV_92 : (Cond.methodLink (ab_R 8) 31 (ab_y 54) ∈ ab_gt) ∧ 54 < ab_NM ∧ ab_s 54 = false := ⟨ab_gt_of (List.mem_of_getElem? (i := 299) rfl) rfl, by decide, rfl⟩
set_option maxRecDepth 20000 in
theorem ab_okV_93 : (Cond.methodLink (ab_R 8) 35 (ab_y 96) ∈ ab_gt) ∧ 96 < ab_NM ∧ ab_s 96 = false := ⟨ab_gt_of (List.mem_of_getElem? (i := 638) rfl) rfl, by decide, rfl⟩
set_option maxRecDepth 20000 in
theorem ab_okV_94 : (Cond.methodLink (ab_R 8) 36 (ab_y 55) ∈ ab_gt) ∧ 55 < ab_NM ∧ ab_s 55 = false := ⟨ab_gt_of (List.mem_of_getElem? (i := 342) rfl) rfl, by decide, rfl⟩
set_option maxRecDepth 20000 in
theorem ab_okV_95 : (Cond.methodLink (ab_R 8) 40 (ab_y 102) ∈ ab_gt) ∧ 102 < ab_NM ∧ ab_s 102 = false := ⟨ab_gt_of (List.mem_of_getElem? (i := 653) rfl) rfl, by decide, rfl⟩
set_option maxRecDepth 20000 in
theorem ab_okV_96 : (Cond.methodLink (ab_R 8) 41 (ab_y 56) ∈ ab_gt) ∧ 56 < ab_NM ∧ ab_s 56 = false := ⟨ab_gt_of (List.mem_of_getElem? (i := 376) rfl) rfl, by decide, rfl⟩
set_option maxRecDepth 20000 in
theorem ab_okV_97 : (Cond.methodLink (ab_R 8) 44 (ab_y 104) ∈ ab_gt) ∧ 104 < ab_NM ∧ ab_s 104 = false := ⟨ab_gt_of (List.mem_of_getElem? (i := 677) rfl) rfl, by decide, rfl⟩
set_option maxRecDepth 20000 in
theorem ab_okV_98 : (Cond.methodLink (ab_R 8) 45 (ab_y 57) ∈ ab_gt) ∧ 57 < ab_NM ∧ ab_s 57 = false := ⟨ab_gt_of (List.mem_of_getElem? (i := 393) rfl) rfl, by decide, rfl⟩
set_option maxRecDepth 20000 in
theorem ab_okV_99 : (Cond.methodLink (ab_R 8) 48 (ab_y 105) ∈ ab_gt) ∧ 105 < ab_NM ∧ ab_s 105 = false := ⟨ab_gt_of (List.mem_of_getElem? (i := 685) rfl) rfl, by decide, rfl⟩
set_option maxRecDepth 20000 in
theorem ab_okV_100 : (Cond.methodLink (ab_R 8) 49 (ab_y 58) ∈ ab_gt) ∧ 58 < ab_NM ∧ ab_s 58 = false := ⟨ab_gt_of (List.mem_of_getElem? (i := 397) rfl) rfl, by decide, rfl⟩
set_option maxRecDepth 20000 in
theorem ab_okV_101 : (Cond.methodLink (ab_R 8) 52 (ab_y 106) ∈ ab_gt) ∧ 106 < ab_NM ∧ ab_s 106 = false := ⟨ab_gt_of (List.mem_of_getElem? (i := 689) rfl) rfl, by decide, rfl⟩
set_option maxRecDepth 20000 in
theorem ab_okV_102 : (Cond.methodLink (ab_R 8) 53 (ab_y 59) ∈ ab_gt) ∧ 59 < ab_NM ∧ ab_s 59 = false := ⟨ab_gt_of (List.mem_of_getElem? (i := 405) rfl) rfl, by decide, rfl⟩
set_option maxRecDepth 20000 in
theorem ab_okV_103 : (Cond.methodLink (ab_R 8) 57 (ab_y 108) ∈ ab_gt) ∧ 108 < ab_NM ∧ ab_s 108 = false := ⟨ab_gt_of (List.mem_of_getElem? (i := 693) rfl) rfl, by decide, rfl⟩
set_option maxRecDepth 20000 in
theorem ab_okV_104 : (Cond.methodLink (ab_R 8) 58 (ab_y 60) ∈ ab_gt) ∧ 60 < ab_NM ∧ ab_s 60 = false := ⟨ab_gt_of (List.mem_of_getElem? (i := 427) rfl) rfl, by decide, rfl⟩
set_option maxRecDepth 20000 in
theorem ab_okV_105 : (Cond.methodLink (ab_R 8) 61 (ab_y 109) ∈ ab_gt) ∧ 109 < ab_NM ∧ ab_s 109 = false := ⟨ab_gt_of (List.mem_of_getElem? (i := 701) rfl) rfl, by decide, rfl⟩
set_option maxRecDepth 20000 in
theorem ab_okV_106 : (Cond.methodLink (ab_R 8) 62 (ab_y 61) ∈ ab_gt) ∧ 61 < ab_NM ∧ ab_s 61 = false := ⟨ab_gt_of (List.mem_of_getElem? (i := 436) rfl) rfl, by decide, rfl⟩
set_option maxRecDepth 20000 in
theorem ab_okV_107 : (Cond.methodLink (ab_R 8) 65 (ab_y 110) ∈ ab_gt) ∧ 110 < ab_NM ∧ ab_s 110 = false := ⟨ab_gt_of (List.mem_of_getElem? (i := 705) rfl) rfl, by decide, rfl⟩
set_option maxRecDepth 20000 in
theorem ab_okV_108 : (Cond.methodLink (ab_R 8) 66 (ab_y 62) ∈ ab_gt) ∧ 62 < ab_NM ∧ ab_s 62 = false := ⟨ab_gt_of (List.mem_of_getElem? (i := 444) rfl) rfl, by decide, rfl⟩
set_option maxRecDepth 20000 in
theorem ab_okV_109 : (Cond.methodLink (ab_R 8) 69 (ab_y 111) ∈ ab_gt) ∧ 111 < ab_NM ∧ ab_s 111 = false := ⟨ab_gt_of (List.mem_of_getElem? (i := 709) rfl) rfl, by decide, rfl⟩
set_option maxRecDepth 20000 in
theorem ab_okV_110 : (Cond.methodLink (ab_R 8) 70 (ab_y 63) ∈ ab_gt) ∧ 63 < ab_NM ∧ ab_s 63 = false := ⟨ab_gt_of (List.mem_of_getElem? (i := 452) rfl) rfl, by decide, rfl⟩
set_option maxRecDepth 20000 in
theorem ab_okV_111 : (Cond.methodLink (ab_R 8) 73 (ab_y 112) ∈ ab_gt) ∧ 112 < ab_NM ∧ ab_s 112 = false := ⟨ab_gt_of (List.mem_of_getElem? (i := 713) rfl) rfl, by decide, rfl⟩
set_option maxRecDepth 20000 in
theorem ab_okV_112 : (Cond.methodLink (ab_R 8) 74 (ab_y 64) ∈ ab_gt) ∧ 64 < ab_NM ∧ ab_s 64 = false := ⟨ab_gt_of (List.mem_of_getElem? (i := 471) rfl) rfl, by decide, rfl⟩
set_option maxRecDepth 20000 in
theorem ab_okV_113 : (Cond.methodLink (ab_R 8) 77 (ab_y 114) ∈ ab_gt) ∧ 114 < ab_NM ∧ ab_s 114 = false := ⟨ab_gt_of (List.mem_of_getElem? (i := 721) rfl) rfl, by decide, rfl⟩
set_option maxRecDepth 20000 in
theorem ab_okV_114 : (Cond.methodLink (ab_R 8) 78 (ab_y 65) ∈ ab_gt) ∧ 65 < ab_NM ∧ ab_s 65 = false := ⟨ab_gt_of (List.mem_of_getElem? (i := 475) rfl) rfl, by decide, rfl⟩
set_option maxRecDepth 20000 in
theorem ab_okV_115 : (Cond.methodLink (ab_R 8) 81 (ab_y 115) ∈ ab_gt) ∧ 115 < ab_NM ∧ ab_s 115 = false := ⟨ab_gt_of (List.mem_of_getElem? (i := 726) rfl) rfl, by decide, rfl⟩
set_option maxRecDepth 20000 in
theorem ab_okV_116 : (Cond.methodLink (ab_R 8) 82 (ab_y 66) ∈ ab_gt) ∧ 66 < ab_NM ∧ ab_s 66 = false := ⟨ab_gt_of (List.mem_of_getElem? (i := 483) rfl) rfl, by decide, rfl⟩
set_option maxRecDepth 20000 in
theorem ab_okV_117 : (Cond.methodLink (ab_R 8) 85 (ab_y 116) ∈ ab_gt) ∧ 116 < ab_NM ∧ ab_s 116 = false := ⟨ab_gt_of (List.mem_of_getElem? (i := 730) rfl) rfl, by decide, rfl⟩
set_option maxRecDepth 20000 in
theorem ab_okV_118 : (Cond.methodLink (ab_R 8) 86 (ab_y 67) ∈ ab_gt) ∧ 67 < ab_NM ∧ ab_s 67 = false := ⟨ab_gt_of (List.mem_of_getElem? (i := 491) rfl) rfl, by decide, rfl⟩
set_option maxRecDepth 20000 in
theorem ab_okV_119 : (Cond.methodLink (ab_R 8) 89 (ab_y 117) ∈ ab_gt) ∧ 117 < ab_NM ∧ ab_s 117 = false := ⟨ab_gt_of (List.mem_of_getElem? (i := 734) rfl) rfl, by decide, rfl⟩
set_option maxRecDepth 20000 in
theorem ab_okV : ∀ e ∈ ab_cV, (Cond.methodLink (ab_R e.1) e.2.1 (ab_y e.2.2) ∈ ab_gt) ∧ e.2.2 < ab_NM ∧ ab_s e.2.2 = false := List.forall_mem_cons.mpr ⟨ab_okV_0, List.forall_mem_cons.mpr ⟨ab_okV_1, List.forall_mem_cons.mpr ⟨ab_okV_2, List.forall_mem_cons.mpr ⟨ab_okV_3, List.forall_mem_cons.mpr ⟨ab_okV_4, List.forall_mem_cons.mpr ⟨ab_okV_5, List.forall_mem_cons.mpr ⟨ab_okV_6, List.forall_mem_cons.mpr ⟨ab_okV_7, List.forall_mem_cons.mpr ⟨ab_okV_8, List.forall_mem_cons.mpr ⟨ab_okV_9, List.forall_mem_cons.mpr ⟨ab_okV_10, List.forall_mem_cons.mpr ⟨ab_okV_11, List.forall_mem_cons.mpr ⟨ab_okV_12, List.forall_mem_cons.mpr ⟨ab_okV_13, List.forall_mem_cons.mpr ⟨ab_okV_14, List.forall_mem_cons.mpr ⟨ab_okV_15, List.forall_mem_cons.mpr ⟨ab_okV_16, List.forall_mem_cons.mpr ⟨ab_okV_17, List.forall_mem_cons.mpr ⟨ab_okV_18, List.forall_mem_cons.mpr ⟨ab_okV_19, List.forall_mem_cons.mpr ⟨ab_okV_20, List.forall_mem_cons.mpr ⟨ab_okV_21, List.forall_mem_cons.mpr ⟨ab_okV_22, List.forall_mem_cons.mpr ⟨ab_okV_23, List.forall_mem_cons.mpr ⟨ab_okV_24, List.forall_mem_cons.mpr ⟨ab_okV_25, List.forall_mem_cons.mpr ⟨ab_okV_26, List.forall_mem_cons.mpr ⟨ab_okV_27, List.forall_mem_cons.mpr ⟨ab_okV_28, List.forall_mem_cons.mpr ⟨ab_okV_29, List.forall_mem_cons.mpr ⟨ab_okV_30, List.forall_mem_cons.mpr ⟨ab_okV_31, List.forall_mem_cons.mpr ⟨ab_okV_32, List.forall_mem_cons.mpr ⟨ab_okV_33, List.forall_mem_cons.mpr ⟨ab_okV_34, List.forall_mem_cons.mpr ⟨ab_okV_35, List.forall_mem_cons.mpr ⟨ab_okV_36, List.forall_mem_cons.mpr ⟨ab_okV_37, List.forall_mem_cons.mpr ⟨ab_okV_38, List.forall_mem_cons.mpr ⟨ab_okV_39, List.forall_mem_cons.mpr ⟨ab_okV_40, List.forall_mem_cons.mpr ⟨ab_okV_41, List.forall_mem_cons.mpr ⟨ab_okV_42, List.forall_mem_cons.mpr ⟨ab_okV_43, List.forall_mem_cons.mpr ⟨ab_okV_44, List.forall_mem_cons.mpr ⟨ab_okV_45, List.forall_mem_cons.mpr ⟨ab_okV_46, List.forall_mem_cons.mpr ⟨ab_okV_47, List.forall_mem_cons.mpr ⟨ab_okV_48, List.forall_mem_cons.mpr ⟨ab_okV_49, List.forall_mem_cons.mpr ⟨ab_okV_50, List.forall_mem_cons.mpr ⟨ab_okV_51, List.forall_mem_cons.mpr ⟨ab_okV_52, List.forall_mem_cons.mpr ⟨ab_okV_53, List.forall_mem_cons.mpr ⟨ab_okV_54, List.forall_mem_cons.mpr ⟨ab_okV_55, List.forall_mem_cons.mpr ⟨ab_okV_56, List.forall_mem_cons.mpr ⟨ab_okV_57, List.forall_mem_cons.mpr ⟨ab_okV_58, List.forall_mem_cons.mpr ⟨ab_okV_59, List.forall_mem_cons.mpr ⟨ab_okV_60, List.forall_mem_cons.mpr ⟨ab_okV_61, List.forall_mem_cons.mpr ⟨ab_okV_62, List.forall_mem_cons.mpr ⟨ab_okV_63, List.forall_mem_cons.mpr ⟨ab_okV_64, List.forall_mem_cons.mpr ⟨ab_okV_65, List.forall_mem_cons.mpr ⟨ab_okV_66, List.forall_mem_cons.mpr ⟨ab_okV_67, List.forall_mem_cons.mpr ⟨ab_okV_68, List.forall_mem_cons.mpr ⟨ab_okV_69, List.forall_mem_cons.mpr ⟨ab_okV_70, List.forall_mem_cons.mpr ⟨ab_okV_71, List.forall_mem_cons.mpr ⟨ab_okV_72, List.forall_mem_cons.mpr ⟨ab_okV_73, List.forall_mem_cons.mpr ⟨ab_okV_74, List.forall_mem_cons.mpr ⟨ab_okV_75, List.forall_mem_cons.mpr ⟨ab_okV_76, List.forall_mem_cons.mpr ⟨ab_okV_77, List.forall_mem_cons.mpr ⟨ab_okV_78, List.forall_mem_cons.mpr ⟨ab_okV_79, List.forall_mem_cons.mpr ⟨ab_okV_80, List.forall_mem_cons.mpr ⟨ab_okV_81, List.forall_mem_cons.mpr ⟨ab_okV_82, List.forall_mem_cons.mpr ⟨ab_okV_83, List.forall_mem_cons.mpr ⟨ab_okV_84, List.forall_mem_cons.mpr ⟨ab_okV_85, List.forall_mem_cons.mpr ⟨ab_okV_86, List.forall_mem_cons.mpr ⟨ab_okV_87, List.forall_mem_cons.mpr ⟨ab_okV_88, List.forall_mem_cons.mpr ⟨ab_okV_89, List.forall_mem_cons.mpr ⟨ab_okV_90, List.forall_mem_cons.mpr ⟨ab_okV_91, List.forall_mem_cons.mpr ⟨ab_okV_92, List.forall_mem_cons.mpr ⟨ab_okV_93, List.forall_mem_cons.mpr ⟨ab_okV_94, List.forall_mem_cons.mpr ⟨ab_okV_95, List.forall_mem_cons.mpr ⟨ab_okV_96, List.forall_mem_cons.mpr ⟨ab_okV_97, List.forall_mem_cons.mpr ⟨ab_okV_98, List.forall_mem_cons.mpr ⟨ab_okV_99, List.forall_mem_cons.mpr ⟨ab_okV_100, List.forall_mem_cons.mpr ⟨ab_okV_101, List.forall_mem_cons.mpr ⟨ab_okV_102, List.forall_mem_cons.mpr ⟨ab_okV_103, List.forall_mem_cons.mpr ⟨ab_okV_104, List.forall_mem_cons.mpr ⟨ab_okV_105, List.forall_mem_cons.mpr ⟨ab_okV_106, List.forall_mem_cons.mpr ⟨ab_okV_107, List.forall_mem_cons.mpr ⟨ab_okV_108, List.forall_mem_cons.mpr ⟨ab_okV_109, List.forall_mem_cons.mpr ⟨ab_okV_110, List.forall_mem_cons.mpr ⟨ab_okV_111, List.forall_mem_cons.mpr ⟨ab_okV_112, List.forall_mem_cons.mpr ⟨ab_okV_113, List.forall_mem_cons.mpr ⟨ab_okV_114, List.forall_mem_cons.mpr ⟨ab_okV_115, List.forall_mem_cons.mpr ⟨ab_okV_116, List.forall_mem_cons.mpr ⟨ab_okV_117, List.forall_mem_cons.mpr ⟨ab_okV_118, List.forall_mem_cons.mpr ⟨ab_okV_119, fun _ h => absurd h List.not_mem_nil⟩⟩⟩⟩⟩⟩⟩⟩⟩⟩⟩⟩⟩⟩⟩⟩⟩⟩⟩⟩⟩⟩⟩⟩⟩⟩⟩⟩⟩⟩⟩⟩⟩⟩⟩⟩⟩⟩⟩⟩⟩⟩⟩⟩⟩⟩⟩⟩⟩⟩⟩⟩⟩⟩⟩⟩⟩⟩⟩⟩⟩⟩⟩⟩⟩⟩⟩⟩⟩⟩⟩⟩⟩⟩⟩⟩⟩⟩⟩⟩⟩⟩⟩⟩⟩⟩⟩⟩⟩⟩⟩⟩⟩⟩⟩⟩⟩⟩⟩⟩⟩⟩⟩⟩⟩⟩⟩⟩⟩⟩⟩⟩⟩⟩⟩⟩⟩⟩⟩⟩
set_option maxRecDepth 20000 in
theorem ab_okS_0 : (Cond.methodLink (ab_R 2) 29 (ab_y 31) ∈ ab_gt) ∧ 31 < ab_NM ∧ ab_s 31 = true := ⟨ab_gt_of (List.mem_of_getElem? (i := 335) rfl) rfl, by decide, rfl⟩
set_option maxRecDepth 20000 in
theorem ab_okS_1 : (Cond.methodLink (ab_R 2) 37 (ab_y 30) ∈ ab_gt) ∧ 30 < ab_NM ∧ ab_s 30 = true := ⟨ab_gt_of (List.mem_of_getElem? (i := 339) rfl) rfl, by decide, rfl⟩
set_option maxRecDepth 20000 in
theorem ab_okS_2 : (Cond.methodLink (ab_R 5) 57 (ab_y 68) ∈ ab_gt) ∧ 68 < ab_NM ∧ ab_s 68 = true := ⟨ab_gt_of (List.mem_of_getElem? (i := 177) rfl) rfl, by decide, rfl⟩
set_option maxRecDepth 20000 in
theorem ab_okS_3 : (Cond.methodLink (ab_R 5) 61 (ab_y 37) ∈ ab_gt) ∧ 37 < ab_NM ∧ ab_s 37 = true := ⟨ab_gt_of (List.mem_of_getElem? (i := 180) rfl) rfl, by decide, rfl⟩
set_option maxRecDepth 20000 in
theorem ab_okS_4 : (Cond.methodLink (ab_R 5) 68 (ab_y 38) ∈ ab_gt) ∧ 38 < ab_NM ∧ ab_s 38 = true := ⟨ab_gt_of (List.mem_of_getElem? (i := 192) rfl) rfl, by decide, rfl⟩
set_option maxRecDepth 20000 in
theorem ab_okS_5 : (Cond.methodLink (ab_R 5) 74 (ab_y 39) ∈ ab_gt) ∧ 39 < ab_NM ∧ ab_s 39 = true := ⟨ab_gt_of (List.mem_of_getElem? (i := 203) rfl) rfl, by decide, rfl⟩
set_option maxRecDepth 20000 in
theorem ab_okS_6 : (Cond.methodLink (ab_R 5) 83 (ab_y 69) ∈ ab_gt) ∧ 69 < ab_NM ∧ ab_s 69 = true := ⟨ab_gt_of (List.mem_of_getElem? (i := 303) rfl) rfl, by decide, rfl⟩
set_option maxRecDepth 20000 in
theorem ab_okS_7 : (Cond.methodLink (ab_R 6) 56 (ab_y 79) ∈ ab_gt) ∧ 79 < ab_NM ∧ ab_s 79 = true := ⟨ab_gt_of (List.mem_of_getElem? (i := 587) rfl) rfl, by decide, rfl⟩
set_option maxRecDepth 20000 in
theorem ab_okS_8 : (Cond.methodLink (ab_R 6) 111 (ab_y 80) ∈ ab_gt) ∧ 80 < ab_NM ∧ ab_s 80 = true := ⟨ab_gt_of (List.mem_of_getElem? (i := 642) rfl) rfl, by decide, rfl⟩
set_option maxRecDepth 20000 in
theorem ab_okS : ∀ e ∈ ab_cS, (Cond.methodLink (ab_R e.1) e.2.1 (ab_y e.2.2) ∈ ab_gt) ∧ e.2.2 < ab_NM ∧ ab_s e.2.2 = true := List.forall_mem_cons.mpr ⟨ab_okS_0, List.forall_mem_cons.mpr ⟨ab_okS_1, List.forall_mem_cons.mpr ⟨ab_okS_2, List.forall_mem_cons.mpr ⟨ab_okS_3, List.forall_mem_cons.mpr ⟨ab_okS_4, List.forall_mem_cons.mpr ⟨ab_okS_5, List.forall_mem_cons.mpr ⟨ab_okS_6, List.forall_mem_cons.mpr ⟨ab_okS_7, List.forall_mem_cons.mpr ⟨ab_okS_8, fun _ h => absurd h List.not_mem_nil⟩⟩⟩⟩⟩⟩⟩⟩⟩
theorem ab_okN : ∀ e ∈ ab_cN, (Cond.methodLinkNest (ab_R e.1) e.2.1 (ab_y e.2.2) RX5 ∈ ab_nw) ∧ e.2.2 < ab_NM ∧ ab_s e.2.2 = true := List.forall_mem_cons.mpr ⟨⟨List.mem_of_getElem? (i := 0) rfl, by decide, rfl⟩, List.forall_mem_cons.mpr ⟨⟨List.mem_of_getElem? (i := 1) rfl, by decide, rfl⟩, fun _ h => absurd h List.not_mem_nil⟩⟩
def ab_mn (f : Nat) : MethodName := match f with
  | 0 => Lib.Math.abs.name
  | 1 => Lib.Math.max.name
  | _ => Lib.Math.min.name
set_option maxRecDepth 20000 in
theorem ab_okS_m0 : (Cond.methodLink (ab_R 0) 31 (ab_mn 2) ∈ ab_gt) ∧ 2 < 3 := ⟨ab_gt_of (List.mem_of_getElem? (i := 461) rfl) rfl, by decide⟩
set_option maxRecDepth 20000 in
theorem ab_okS_m1 : (Cond.methodLink (ab_R 0) 45 (ab_mn 0) ∈ ab_gt) ∧ 0 < 3 := ⟨ab_gt_of (List.mem_of_getElem? (i := 467) rfl) rfl, by decide⟩
set_option maxRecDepth 20000 in
theorem ab_okS_m2 : (Cond.methodLink (ab_R 1) 22 (ab_mn 2) ∈ ab_gt) ∧ 2 < 3 := ⟨ab_gt_of (List.mem_of_getElem? (i := 435) rfl) rfl, by decide⟩
set_option maxRecDepth 20000 in
theorem ab_okS_m3 : (Cond.methodLink (ab_R 2) 43 (ab_mn 2) ∈ ab_gt) ∧ 2 < 3 := ⟨ab_gt_of (List.mem_of_getElem? (i := 358) rfl) rfl, by decide⟩
set_option maxRecDepth 20000 in
theorem ab_okS_m4 : (Cond.methodLink (ab_R 2) 68 (ab_mn 1) ∈ ab_gt) ∧ 1 < 3 := ⟨ab_gt_of (List.mem_of_getElem? (i := 246) rfl) rfl, by decide⟩
set_option maxRecDepth 20000 in
theorem ab_okS_m5 : (Cond.methodLink (ab_R 5) 226 (ab_mn 2) ∈ ab_gt) ∧ 2 < 3 := ⟨ab_gt_of (List.mem_of_getElem? (i := 373) rfl) rfl, by decide⟩
set_option maxRecDepth 20000 in
theorem ab_okS_m6 : (Cond.methodLink (ab_R 5) 231 (ab_mn 1) ∈ ab_gt) ∧ 1 < 3 := ⟨ab_gt_of (List.mem_of_getElem? (i := 374) rfl) rfl, by decide⟩
theorem ab_okM : ∀ e ∈ ab_cM, (Cond.methodLink (ab_R e.1) e.2.1 (ab_mn e.2.2) ∈ ab_gt) ∧ e.2.2 < 3 := List.forall_mem_cons.mpr ⟨ab_okS_m0, List.forall_mem_cons.mpr ⟨ab_okS_m1, List.forall_mem_cons.mpr ⟨ab_okS_m2, List.forall_mem_cons.mpr ⟨ab_okS_m3, List.forall_mem_cons.mpr ⟨ab_okS_m4, List.forall_mem_cons.mpr ⟨ab_okS_m5, List.forall_mem_cons.mpr ⟨ab_okS_m6, fun _ h => absurd h List.not_mem_nil⟩⟩⟩⟩⟩⟩⟩
set_option maxRecDepth 20000 in
theorem ab_okS_s0 : Cond.static (ab_mn 0) ∈ ab_gt := ab_gt_of (List.mem_of_getElem? (i := 468) rfl) rfl
set_option maxRecDepth 20000 in
theorem ab_okS_s1 : Cond.static (ab_mn 1) ∈ ab_gt := ab_gt_of (List.mem_of_getElem? (i := 247) rfl) rfl
set_option maxRecDepth 20000 in
theorem ab_okS_s2 : Cond.static (ab_mn 2) ∈ ab_gt := ab_gt_of (List.mem_of_getElem? (i := 359) rfl) rfl
set_option maxRecDepth 20000 in
theorem ab_okS_i : Cond.initialized "java/lang/Math" ∈ ab_gt := ab_gt_of (List.mem_of_getElem? (i := 41) rfl) rfl
set_option maxRecDepth 20000 in
theorem ab_okS_c0 : Cond.code Lib.Math.abs.name Lib.Math.abs.code 1 (some .int) ∈ ab_gt := ab_gt_of (List.mem_of_getElem? (i := 469) rfl) rfl
set_option maxRecDepth 20000 in
theorem ab_okS_c1 : Cond.code Lib.Math.max.name Lib.Math.max.code 2 (some .int) ∈ ab_gt := ab_gt_of (List.mem_of_getElem? (i := 248) rfl) rfl
set_option maxRecDepth 20000 in
theorem ab_okS_c2 : Cond.code Lib.Math.min.name Lib.Math.min.code 2 (some .int) ∈ ab_gt := ab_gt_of (List.mem_of_getElem? (i := 360) rfl) rfl
set_option maxRecDepth 20000 in
theorem ab_okF_0 : (Cond.fieldLink (ab_R 0) 11 (ab_T 0 0).1 (ab_T 0 0).2.1 (ab_T 0 0).2.2.1 ∈ ab_gt) ∧ 0 < 7 ∧ 0 < ab_nf 0 := ⟨ab_gt_of (List.mem_of_getElem? (i := 97) rfl) rfl, by decide, by decide⟩
set_option maxRecDepth 20000 in
theorem ab_okF_1 : (Cond.fieldLink (ab_R 0) 15 (ab_T 0 1).1 (ab_T 0 1).2.1 (ab_T 0 1).2.2.1 ∈ ab_gt) ∧ 0 < 7 ∧ 1 < ab_nf 0 := ⟨ab_gt_of (List.mem_of_getElem? (i := 98) rfl) rfl, by decide, by decide⟩
set_option maxRecDepth 20000 in
theorem ab_okF_2 : (Cond.fieldLink (ab_R 0) 20 (ab_T 0 2).1 (ab_T 0 2).2.1 (ab_T 0 2).2.2.1 ∈ ab_gt) ∧ 0 < 7 ∧ 2 < ab_nf 0 := ⟨ab_gt_of (List.mem_of_getElem? (i := 99) rfl) rfl, by decide, by decide⟩
set_option maxRecDepth 20000 in
theorem ab_okF_3 : (Cond.fieldLink (ab_R 0) 23 (ab_T 0 3).1 (ab_T 0 3).2.1 (ab_T 0 3).2.2.1 ∈ ab_gt) ∧ 0 < 7 ∧ 3 < ab_nf 0 := ⟨ab_gt_of (List.mem_of_getElem? (i := 100) rfl) rfl, by decide, by decide⟩
set_option maxRecDepth 20000 in
theorem ab_okF_4 : (Cond.fieldLink (ab_R 1) 11 (ab_T 1 0).1 (ab_T 1 0).2.1 (ab_T 1 0).2.2.1 ∈ ab_gt) ∧ 1 < 7 ∧ 0 < ab_nf 1 := ⟨ab_gt_of (List.mem_of_getElem? (i := 81) rfl) rfl, by decide, by decide⟩
set_option maxRecDepth 20000 in
theorem ab_okF_5 : (Cond.fieldLink (ab_R 1) 15 (ab_T 1 1).1 (ab_T 1 1).2.1 (ab_T 1 1).2.2.1 ∈ ab_gt) ∧ 1 < 7 ∧ 1 < ab_nf 1 := ⟨ab_gt_of (List.mem_of_getElem? (i := 82) rfl) rfl, by decide, by decide⟩
set_option maxRecDepth 20000 in
theorem ab_okF_6 : (Cond.fieldLink (ab_R 1) 18 (ab_T 1 2).1 (ab_T 1 2).2.1 (ab_T 1 2).2.2.1 ∈ ab_gt) ∧ 1 < 7 ∧ 2 < ab_nf 1 := ⟨ab_gt_of (List.mem_of_getElem? (i := 83) rfl) rfl, by decide, by decide⟩
set_option maxRecDepth 20000 in
theorem ab_okF_7 : (Cond.fieldLink (ab_R 2) 11 (ab_T 2 0).1 (ab_T 2 0).2.1 (ab_T 2 0).2.2.1 ∈ ab_gt) ∧ 2 < 7 ∧ 0 < ab_nf 2 := ⟨ab_gt_of (List.mem_of_getElem? (i := 132) rfl) rfl, by decide, by decide⟩
set_option maxRecDepth 20000 in
theorem ab_okF_8 : (Cond.fieldLink (ab_R 2) 15 (ab_T 2 1).1 (ab_T 2 1).2.1 (ab_T 2 1).2.2.1 ∈ ab_gt) ∧ 2 < 7 ∧ 1 < ab_nf 2 := ⟨ab_gt_of (List.mem_of_getElem? (i := 133) rfl) rfl, by decide, by decide⟩
set_option maxRecDepth 20000 in
theorem ab_okF_9 : (Cond.fieldLink (ab_R 2) 18 (ab_T 2 2).1 (ab_T 2 2).2.1 (ab_T 2 2).2.2.1 ∈ ab_gt) ∧ 2 < 7 ∧ 2 < ab_nf 2 := ⟨ab_gt_of (List.mem_of_getElem? (i := 134) rfl) rfl, by decide, by decide⟩
set_option maxRecDepth 20000 in
theorem ab_okF_10 : (Cond.fieldLink (ab_R 2) 21 (ab_T 2 3).1 (ab_T 2 3).2.1 (ab_T 2 3).2.2.1 ∈ ab_gt) ∧ 2 < 7 ∧ 3 < ab_nf 2 := ⟨ab_gt_of (List.mem_of_getElem? (i := 135) rfl) rfl, by decide, by decide⟩
set_option maxRecDepth 20000 in
theorem ab_okF_11 : (Cond.fieldLink (ab_R 3) 9 (ab_T 3 0).1 (ab_T 3 0).2.1 (ab_T 3 0).2.2.1 ∈ ab_gt) ∧ 3 < 7 ∧ 0 < ab_nf 3 := ⟨ab_gt_of (List.mem_of_getElem? (i := 116) rfl) rfl, by decide, by decide⟩
set_option maxRecDepth 20000 in
theorem ab_okF_12 : (Cond.fieldLink (ab_R 3) 15 (ab_T 3 1).1 (ab_T 3 1).2.1 (ab_T 3 1).2.2.1 ∈ ab_gt) ∧ 3 < 7 ∧ 1 < ab_nf 3 := ⟨ab_gt_of (List.mem_of_getElem? (i := 117) rfl) rfl, by decide, by decide⟩
set_option maxRecDepth 20000 in
theorem ab_okF_13 : (Cond.fieldLink (ab_R 3) 19 (ab_T 3 2).1 (ab_T 3 2).2.1 (ab_T 3 2).2.2.1 ∈ ab_gt) ∧ 3 < 7 ∧ 2 < ab_nf 3 := ⟨ab_gt_of (List.mem_of_getElem? (i := 118) rfl) rfl, by decide, by decide⟩
set_option maxRecDepth 20000 in
theorem ab_okF_14 : (Cond.fieldLink (ab_R 4) 9 (ab_T 4 0).1 (ab_T 4 0).2.1 (ab_T 4 0).2.2.1 ∈ ab_gt) ∧ 4 < 7 ∧ 0 < ab_nf 4 := ⟨ab_gt_of (List.mem_of_getElem? (i := 58) rfl) rfl, by decide, by decide⟩
set_option maxRecDepth 20000 in
theorem ab_okF_15 : (Cond.fieldLink (ab_R 4) 15 (ab_T 4 1).1 (ab_T 4 1).2.1 (ab_T 4 1).2.2.1 ∈ ab_gt) ∧ 4 < 7 ∧ 1 < ab_nf 4 := ⟨ab_gt_of (List.mem_of_getElem? (i := 59) rfl) rfl, by decide, by decide⟩
set_option maxRecDepth 20000 in
theorem ab_okF_16 : (Cond.fieldLink (ab_R 4) 18 (ab_T 4 2).1 (ab_T 4 2).2.1 (ab_T 4 2).2.2.1 ∈ ab_gt) ∧ 4 < 7 ∧ 2 < ab_nf 4 := ⟨ab_gt_of (List.mem_of_getElem? (i := 60) rfl) rfl, by decide, by decide⟩
set_option maxRecDepth 20000 in
theorem ab_okF_17 : (Cond.fieldLink (ab_R 4) 21 (ab_T 4 3).1 (ab_T 4 3).2.1 (ab_T 4 3).2.2.1 ∈ ab_gt) ∧ 4 < 7 ∧ 3 < ab_nf 4 := ⟨ab_gt_of (List.mem_of_getElem? (i := 61) rfl) rfl, by decide, by decide⟩
set_option maxRecDepth 20000 in
theorem ab_okF_18 : (Cond.fieldLink (ab_R 4) 25 (ab_T 4 4).1 (ab_T 4 4).2.1 (ab_T 4 4).2.2.1 ∈ ab_gt) ∧ 4 < 7 ∧ 4 < ab_nf 4 := ⟨ab_gt_of (List.mem_of_getElem? (i := 62) rfl) rfl, by decide, by decide⟩
set_option maxRecDepth 20000 in
theorem ab_okF_19 : (Cond.fieldLink (ab_R 5) 11 (ab_T 5 0).1 (ab_T 5 0).2.1 (ab_T 5 0).2.2.1 ∈ ab_gt) ∧ 5 < 7 ∧ 0 < ab_nf 5 := ⟨ab_gt_of (List.mem_of_getElem? (i := 145) rfl) rfl, by decide, by decide⟩
set_option maxRecDepth 20000 in
theorem ab_okF_20 : (Cond.fieldLink (ab_R 5) 18 (ab_T 5 1).1 (ab_T 5 1).2.1 (ab_T 5 1).2.2.1 ∈ ab_gt) ∧ 5 < 7 ∧ 1 < ab_nf 5 := ⟨ab_gt_of (List.mem_of_getElem? (i := 146) rfl) rfl, by decide, by decide⟩
set_option maxRecDepth 20000 in
theorem ab_okF_21 : (Cond.fieldLink (ab_R 5) 25 (ab_T 5 2).1 (ab_T 5 2).2.1 (ab_T 5 2).2.2.1 ∈ ab_gt) ∧ 5 < 7 ∧ 2 < ab_nf 5 := ⟨ab_gt_of (List.mem_of_getElem? (i := 147) rfl) rfl, by decide, by decide⟩
set_option maxRecDepth 20000 in
theorem ab_okF_22 : (Cond.fieldLink (ab_R 5) 32 (ab_T 5 3).1 (ab_T 5 3).2.1 (ab_T 5 3).2.2.1 ∈ ab_gt) ∧ 5 < 7 ∧ 3 < ab_nf 5 := ⟨ab_gt_of (List.mem_of_getElem? (i := 148) rfl) rfl, by decide, by decide⟩
set_option maxRecDepth 20000 in
theorem ab_okF_23 : (Cond.fieldLink (ab_R 5) 39 (ab_T 5 4).1 (ab_T 5 4).2.1 (ab_T 5 4).2.2.1 ∈ ab_gt) ∧ 5 < 7 ∧ 4 < ab_nf 5 := ⟨ab_gt_of (List.mem_of_getElem? (i := 149) rfl) rfl, by decide, by decide⟩
set_option maxRecDepth 20000 in
theorem ab_okF_24 : (Cond.fieldLink (ab_R 5) 43 (ab_T 5 5).1 (ab_T 5 5).2.1 (ab_T 5 5).2.2.1 ∈ ab_gt) ∧ 5 < 7 ∧ 5 < ab_nf 5 := ⟨ab_gt_of (List.mem_of_getElem? (i := 150) rfl) rfl, by decide, by decide⟩
set_option maxRecDepth 20000 in
theorem ab_okF_25 : (Cond.fieldLink (ab_R 5) 47 (ab_T 5 6).1 (ab_T 5 6).2.1 (ab_T 5 6).2.2.1 ∈ ab_gt) ∧ 5 < 7 ∧ 6 < ab_nf 5 := ⟨ab_gt_of (List.mem_of_getElem? (i := 151) rfl) rfl, by decide, by decide⟩
set_option maxRecDepth 20000 in
theorem ab_okF_26 : (Cond.fieldLink (ab_R 5) 50 (ab_T 5 7).1 (ab_T 5 7).2.1 (ab_T 5 7).2.2.1 ∈ ab_gt) ∧ 5 < 7 ∧ 7 < ab_nf 5 := ⟨ab_gt_of (List.mem_of_getElem? (i := 152) rfl) rfl, by decide, by decide⟩
set_option maxRecDepth 20000 in
theorem ab_okF_27 : (Cond.fieldLink (ab_R 5) 53 (ab_T 5 8).1 (ab_T 5 8).2.1 (ab_T 5 8).2.2.1 ∈ ab_gt) ∧ 5 < 7 ∧ 8 < ab_nf 5 := ⟨ab_gt_of (List.mem_of_getElem? (i := 153) rfl) rfl, by decide, by decide⟩
set_option maxRecDepth 20000 in
theorem ab_okF_28 : (Cond.fieldLink (ab_R 6) 9 (ab_T 6 1).1 (ab_T 6 1).2.1 (ab_T 6 1).2.2.1 ∈ ab_gt) ∧ 6 < 7 ∧ 1 < ab_nf 6 := ⟨ab_gt_of (List.mem_of_getElem? (i := 514) rfl) rfl, by decide, by decide⟩
set_option maxRecDepth 20000 in
theorem ab_okF_29 : (Cond.fieldLink (ab_R 6) 13 (ab_T 6 2).1 (ab_T 6 2).2.1 (ab_T 6 2).2.2.1 ∈ ab_gt) ∧ 6 < 7 ∧ 2 < ab_nf 6 := ⟨ab_gt_of (List.mem_of_getElem? (i := 515) rfl) rfl, by decide, by decide⟩
set_option maxRecDepth 20000 in
theorem ab_okF_30 : (Cond.fieldLink (ab_R 6) 16 (ab_T 6 3).1 (ab_T 6 3).2.1 (ab_T 6 3).2.2.1 ∈ ab_gt) ∧ 6 < 7 ∧ 3 < ab_nf 6 := ⟨ab_gt_of (List.mem_of_getElem? (i := 516) rfl) rfl, by decide, by decide⟩
set_option maxRecDepth 20000 in
theorem ab_okF_31 : (Cond.fieldLink (ab_R 6) 19 (ab_T 6 4).1 (ab_T 6 4).2.1 (ab_T 6 4).2.2.1 ∈ ab_gt) ∧ 6 < 7 ∧ 4 < ab_nf 6 := ⟨ab_gt_of (List.mem_of_getElem? (i := 517) rfl) rfl, by decide, by decide⟩
set_option maxRecDepth 20000 in
theorem ab_okF_32 : (Cond.fieldLink (ab_R 6) 22 (ab_T 6 5).1 (ab_T 6 5).2.1 (ab_T 6 5).2.2.1 ∈ ab_gt) ∧ 6 < 7 ∧ 5 < ab_nf 6 := ⟨ab_gt_of (List.mem_of_getElem? (i := 518) rfl) rfl, by decide, by decide⟩
set_option maxRecDepth 20000 in
theorem ab_okF_33 : (Cond.fieldLink (ab_R 6) 25 (ab_T 6 6).1 (ab_T 6 6).2.1 (ab_T 6 6).2.2.1 ∈ ab_gt) ∧ 6 < 7 ∧ 6 < ab_nf 6 := ⟨ab_gt_of (List.mem_of_getElem? (i := 519) rfl) rfl, by decide, by decide⟩
set_option maxRecDepth 20000 in
theorem ab_okF_34 : (Cond.fieldLink (ab_R 6) 28 (ab_T 6 7).1 (ab_T 6 7).2.1 (ab_T 6 7).2.2.1 ∈ ab_gt) ∧ 6 < 7 ∧ 7 < ab_nf 6 := ⟨ab_gt_of (List.mem_of_getElem? (i := 520) rfl) rfl, by decide, by decide⟩
set_option maxRecDepth 20000 in
theorem ab_okF_35 : (Cond.fieldLink (ab_R 6) 31 (ab_T 6 13).1 (ab_T 6 13).2.1 (ab_T 6 13).2.2.1 ∈ ab_gt) ∧ 6 < 7 ∧ 13 < ab_nf 6 := ⟨ab_gt_of (List.mem_of_getElem? (i := 526) rfl) rfl, by decide, by decide⟩
set_option maxRecDepth 20000 in
theorem ab_okF_36 : (Cond.fieldLink (ab_R 6) 35 (ab_T 6 14).1 (ab_T 6 14).2.1 (ab_T 6 14).2.2.1 ∈ ab_gt) ∧ 6 < 7 ∧ 14 < ab_nf 6 := ⟨ab_gt_of (List.mem_of_getElem? (i := 527) rfl) rfl, by decide, by decide⟩
set_option maxRecDepth 20000 in
theorem ab_okF_37 : (Cond.fieldLink (ab_R 6) 38 (ab_T 6 15).1 (ab_T 6 15).2.1 (ab_T 6 15).2.2.1 ∈ ab_gt) ∧ 6 < 7 ∧ 15 < ab_nf 6 := ⟨ab_gt_of (List.mem_of_getElem? (i := 528) rfl) rfl, by decide, by decide⟩
set_option maxRecDepth 20000 in
theorem ab_okF_38 : (Cond.fieldLink (ab_R 6) 41 (ab_T 6 17).1 (ab_T 6 17).2.1 (ab_T 6 17).2.2.1 ∈ ab_gt) ∧ 6 < 7 ∧ 17 < ab_nf 6 := ⟨ab_gt_of (List.mem_of_getElem? (i := 530) rfl) rfl, by decide, by decide⟩
set_option maxRecDepth 20000 in
theorem ab_okF_39 : (Cond.fieldLink (ab_R 6) 44 (ab_T 6 18).1 (ab_T 6 18).2.1 (ab_T 6 18).2.2.1 ∈ ab_gt) ∧ 6 < 7 ∧ 18 < ab_nf 6 := ⟨ab_gt_of (List.mem_of_getElem? (i := 531) rfl) rfl, by decide, by decide⟩
set_option maxRecDepth 20000 in
theorem ab_okF_40 : (Cond.fieldLink (ab_R 6) 47 (ab_T 6 20).1 (ab_T 6 20).2.1 (ab_T 6 20).2.2.1 ∈ ab_gt) ∧ 6 < 7 ∧ 20 < ab_nf 6 := ⟨ab_gt_of (List.mem_of_getElem? (i := 533) rfl) rfl, by decide, by decide⟩
set_option maxRecDepth 20000 in
theorem ab_okF_41 : (Cond.fieldLink (ab_R 6) 50 (ab_T 6 21).1 (ab_T 6 21).2.1 (ab_T 6 21).2.2.1 ∈ ab_gt) ∧ 6 < 7 ∧ 21 < ab_nf 6 := ⟨ab_gt_of (List.mem_of_getElem? (i := 534) rfl) rfl, by decide, by decide⟩
set_option maxRecDepth 20000 in
theorem ab_okF_42 : (Cond.fieldLink (ab_R 6) 53 (ab_T 6 22).1 (ab_T 6 22).2.1 (ab_T 6 22).2.2.1 ∈ ab_gt) ∧ 6 < 7 ∧ 22 < ab_nf 6 := ⟨ab_gt_of (List.mem_of_getElem? (i := 535) rfl) rfl, by decide, by decide⟩
set_option maxRecDepth 20000 in
theorem ab_okF_43 : (Cond.fieldLink (ab_R 6) 60 (ab_T 6 0).1 (ab_T 6 0).2.1 (ab_T 6 0).2.2.1 ∈ ab_gt) ∧ 6 < 7 ∧ 0 < ab_nf 6 := ⟨ab_gt_of (List.mem_of_getElem? (i := 513) rfl) rfl, by decide, by decide⟩
set_option maxRecDepth 20000 in
theorem ab_okF_44 : (Cond.fieldLink (ab_R 6) 64 (ab_T 6 8).1 (ab_T 6 8).2.1 (ab_T 6 8).2.2.1 ∈ ab_gt) ∧ 6 < 7 ∧ 8 < ab_nf 6 := ⟨ab_gt_of (List.mem_of_getElem? (i := 521) rfl) rfl, by decide, by decide⟩
set_option maxRecDepth 20000 in
theorem ab_okF_45 : (Cond.fieldLink (ab_R 6) 67 (ab_T 6 9).1 (ab_T 6 9).2.1 (ab_T 6 9).2.2.1 ∈ ab_gt) ∧ 6 < 7 ∧ 9 < ab_nf 6 := ⟨ab_gt_of (List.mem_of_getElem? (i := 522) rfl) rfl, by decide, by decide⟩
set_option maxRecDepth 20000 in
theorem ab_okF_46 : (Cond.fieldLink (ab_R 6) 82 (ab_T 6 11).1 (ab_T 6 11).2.1 (ab_T 6 11).2.2.1 ∈ ab_gt) ∧ 6 < 7 ∧ 11 < ab_nf 6 := ⟨ab_gt_of (List.mem_of_getElem? (i := 524) rfl) rfl, by decide, by decide⟩
set_option maxRecDepth 20000 in
theorem ab_okF_47 : (Cond.fieldLink (ab_R 6) 91 (ab_T 6 10).1 (ab_T 6 10).2.1 (ab_T 6 10).2.2.1 ∈ ab_gt) ∧ 6 < 7 ∧ 10 < ab_nf 6 := ⟨ab_gt_of (List.mem_of_getElem? (i := 523) rfl) rfl, by decide, by decide⟩
set_option maxRecDepth 20000 in
theorem ab_okF_48 : (Cond.fieldLink (ab_R 6) 132 (ab_T 6 12).1 (ab_T 6 12).2.1 (ab_T 6 12).2.2.1 ∈ ab_gt) ∧ 6 < 7 ∧ 12 < ab_nf 6 := ⟨ab_gt_of (List.mem_of_getElem? (i := 525) rfl) rfl, by decide, by decide⟩
set_option maxRecDepth 20000 in
theorem ab_okF_49 : (Cond.fieldLink (ab_R 6) 138 (ab_T 6 16).1 (ab_T 6 16).2.1 (ab_T 6 16).2.2.1 ∈ ab_gt) ∧ 6 < 7 ∧ 16 < ab_nf 6 := ⟨ab_gt_of (List.mem_of_getElem? (i := 529) rfl) rfl, by decide, by decide⟩
set_option maxRecDepth 20000 in
theorem ab_okF_50 : (Cond.fieldLink (ab_R 6) 144 (ab_T 6 19).1 (ab_T 6 19).2.1 (ab_T 6 19).2.2.1 ∈ ab_gt) ∧ 6 < 7 ∧ 19 < ab_nf 6 := ⟨ab_gt_of (List.mem_of_getElem? (i := 532) rfl) rfl, by decide, by decide⟩
set_option maxRecDepth 20000 in
theorem ab_okF : ∀ e ∈ ab_fT, (Cond.fieldLink (ab_R e.1) e.2.1 (ab_T e.2.2.1 e.2.2.2).1 (ab_T e.2.2.1 e.2.2.2).2.1 (ab_T e.2.2.1 e.2.2.2).2.2.1 ∈ ab_gt) ∧ e.2.2.1 < 7 ∧ e.2.2.2 < ab_nf e.2.2.1 := List.forall_mem_cons.mpr ⟨ab_okF_0, List.forall_mem_cons.mpr ⟨ab_okF_1, List.forall_mem_cons.mpr ⟨ab_okF_2, List.forall_mem_cons.mpr ⟨ab_okF_3, List.forall_mem_cons.mpr ⟨ab_okF_4, List.forall_mem_cons.mpr ⟨ab_okF_5, List.forall_mem_cons.mpr ⟨ab_okF_6, List.forall_mem_cons.mpr ⟨ab_okF_7, List.forall_mem_cons.mpr ⟨ab_okF_8, List.forall_mem_cons.mpr ⟨ab_okF_9, List.forall_mem_cons.mpr ⟨ab_okF_10, List.forall_mem_cons.mpr ⟨ab_okF_11, List.forall_mem_cons.mpr ⟨ab_okF_12, List.forall_mem_cons.mpr ⟨ab_okF_13, List.forall_mem_cons.mpr ⟨ab_okF_14, List.forall_mem_cons.mpr ⟨ab_okF_15, List.forall_mem_cons.mpr ⟨ab_okF_16, List.forall_mem_cons.mpr ⟨ab_okF_17, List.forall_mem_cons.mpr ⟨ab_okF_18, List.forall_mem_cons.mpr ⟨ab_okF_19, List.forall_mem_cons.mpr ⟨ab_okF_20, List.forall_mem_cons.mpr ⟨ab_okF_21, List.forall_mem_cons.mpr ⟨ab_okF_22, List.forall_mem_cons.mpr ⟨ab_okF_23, List.forall_mem_cons.mpr ⟨ab_okF_24, List.forall_mem_cons.mpr ⟨ab_okF_25, List.forall_mem_cons.mpr ⟨ab_okF_26, List.forall_mem_cons.mpr ⟨ab_okF_27, List.forall_mem_cons.mpr ⟨ab_okF_28, List.forall_mem_cons.mpr ⟨ab_okF_29, List.forall_mem_cons.mpr ⟨ab_okF_30, List.forall_mem_cons.mpr ⟨ab_okF_31, List.forall_mem_cons.mpr ⟨ab_okF_32, List.forall_mem_cons.mpr ⟨ab_okF_33, List.forall_mem_cons.mpr ⟨ab_okF_34, List.forall_mem_cons.mpr ⟨ab_okF_35, List.forall_mem_cons.mpr ⟨ab_okF_36, List.forall_mem_cons.mpr ⟨ab_okF_37, List.forall_mem_cons.mpr ⟨ab_okF_38, List.forall_mem_cons.mpr ⟨ab_okF_39, List.forall_mem_cons.mpr ⟨ab_okF_40, List.forall_mem_cons.mpr ⟨ab_okF_41, List.forall_mem_cons.mpr ⟨ab_okF_42, List.forall_mem_cons.mpr ⟨ab_okF_43, List.forall_mem_cons.mpr ⟨ab_okF_44, List.forall_mem_cons.mpr ⟨ab_okF_45, List.forall_mem_cons.mpr ⟨ab_okF_46, List.forall_mem_cons.mpr ⟨ab_okF_47, List.forall_mem_cons.mpr ⟨ab_okF_48, List.forall_mem_cons.mpr ⟨ab_okF_49, List.forall_mem_cons.mpr ⟨ab_okF_50, fun _ h => absurd h List.not_mem_nil⟩⟩⟩⟩⟩⟩⟩⟩⟩⟩⟩⟩⟩⟩⟩⟩⟩⟩⟩⟩⟩⟩⟩⟩⟩⟩⟩⟩⟩⟩⟩⟩⟩⟩⟩⟩⟩⟩⟩⟩⟩⟩⟩⟩⟩⟩⟩⟩⟩⟩⟩
set_option maxRecDepth 20000 in
theorem ab_okT_0_0 : u_lay (ab_R 0) (ab_T 0) 0 ∈ ab_gt := ab_gt_of (List.mem_of_getElem? (i := 101) rfl) rfl
set_option maxRecDepth 20000 in
theorem ab_okT_0_1 : u_lay (ab_R 0) (ab_T 0) 1 ∈ ab_gt := ab_gt_of (List.mem_of_getElem? (i := 103) rfl) rfl
set_option maxRecDepth 20000 in
theorem ab_okT_0_2 : u_lay (ab_R 0) (ab_T 0) 2 ∈ ab_gt := ab_gt_of (List.mem_of_getElem? (i := 105) rfl) rfl
set_option maxRecDepth 20000 in
theorem ab_okT_0_3 : u_lay (ab_R 0) (ab_T 0) 3 ∈ ab_gt := ab_gt_of (List.mem_of_getElem? (i := 107) rfl) rfl
theorem ab_Tin0 : ∀ w ∈ u_ws (ab_R 0) (ab_T 0) (ab_nf 0), w ∈ ab_gt := by
  intro w hw
  obtain ⟨k, hk, rfl⟩ := List.mem_map.mp hw
  have hk : k < 4 := List.mem_range.mp hk
  match k, hk with
  | 0, _ => exact ab_okT_0_0
  | 1, _ => exact ab_okT_0_1
  | 2, _ => exact ab_okT_0_2
  | 3, _ => exact ab_okT_0_3
  | k + 4, h => exact absurd h (by omega)
set_option maxRecDepth 20000 in
theorem ab_okT_1_0 : u_lay (ab_R 1) (ab_T 1) 0 ∈ ab_gt := ab_gt_of (List.mem_of_getElem? (i := 84) rfl) rfl
set_option maxRecDepth 20000 in
theorem ab_okT_1_1 : u_lay (ab_R 1) (ab_T 1) 1 ∈ ab_gt := ab_gt_of (List.mem_of_getElem? (i := 86) rfl) rfl
set_option maxRecDepth 20000 in
theorem ab_okT_1_2 : u_lay (ab_R 1) (ab_T 1) 2 ∈ ab_gt := ab_gt_of (List.mem_of_getElem? (i := 88) rfl) rfl
theorem ab_Tin1 : ∀ w ∈ u_ws (ab_R 1) (ab_T 1) (ab_nf 1), w ∈ ab_gt := by
  intro w hw
  obtain ⟨k, hk, rfl⟩ := List.mem_map.mp hw
  have hk : k < 3 := List.mem_range.mp hk
  match k, hk with
  | 0, _ => exact ab_okT_1_0
  | 1, _ => exact ab_okT_1_1
  | 2, _ => exact ab_okT_1_2
  | k + 3, h => exact absurd h (by omega)
set_option maxRecDepth 20000 in
theorem ab_okT_2_0 : u_lay (ab_R 2) (ab_T 2) 0 ∈ ab_gt := ab_gt_of (List.mem_of_getElem? (i := 136) rfl) rfl
set_option maxRecDepth 20000 in
theorem ab_okT_2_1 : u_lay (ab_R 2) (ab_T 2) 1 ∈ ab_gt := ab_gt_of (List.mem_of_getElem? (i := 138) rfl) rfl
set_option maxRecDepth 20000 in
theorem ab_okT_2_2 : u_lay (ab_R 2) (ab_T 2) 2 ∈ ab_gt := ab_gt_of (List.mem_of_getElem? (i := 140) rfl) rfl
set_option maxRecDepth 20000 in
theorem ab_okT_2_3 : u_lay (ab_R 2) (ab_T 2) 3 ∈ ab_gt := ab_gt_of (List.mem_of_getElem? (i := 142) rfl) rfl
theorem ab_Tin2 : ∀ w ∈ u_ws (ab_R 2) (ab_T 2) (ab_nf 2), w ∈ ab_gt := by
  intro w hw
  obtain ⟨k, hk, rfl⟩ := List.mem_map.mp hw
  have hk : k < 4 := List.mem_range.mp hk
  match k, hk with
  | 0, _ => exact ab_okT_2_0
  | 1, _ => exact ab_okT_2_1
  | 2, _ => exact ab_okT_2_2
  | 3, _ => exact ab_okT_2_3
  | k + 4, h => exact absurd h (by omega)
set_option maxRecDepth 20000 in
theorem ab_okT_3_0 : u_lay (ab_R 3) (ab_T 3) 0 ∈ ab_gt := ab_gt_of (List.mem_of_getElem? (i := 119) rfl) rfl
set_option maxRecDepth 20000 in
theorem ab_okT_3_1 : u_lay (ab_R 3) (ab_T 3) 1 ∈ ab_gt := ab_gt_of (List.mem_of_getElem? (i := 121) rfl) rfl
set_option maxRecDepth 20000 in
theorem ab_okT_3_2 : u_lay (ab_R 3) (ab_T 3) 2 ∈ ab_gt := ab_gt_of (List.mem_of_getElem? (i := 123) rfl) rfl
theorem ab_Tin3 : ∀ w ∈ u_ws (ab_R 3) (ab_T 3) (ab_nf 3), w ∈ ab_gt := by
  intro w hw
  obtain ⟨k, hk, rfl⟩ := List.mem_map.mp hw
  have hk : k < 3 := List.mem_range.mp hk
  match k, hk with
  | 0, _ => exact ab_okT_3_0
  | 1, _ => exact ab_okT_3_1
  | 2, _ => exact ab_okT_3_2
  | k + 3, h => exact absurd h (by omega)
set_option maxRecDepth 20000 in
theorem ab_okT_4_0 : u_lay (ab_R 4) (ab_T 4) 0 ∈ ab_gt := ab_gt_of (List.mem_of_getElem? (i := 63) rfl) rfl
set_option maxRecDepth 20000 in
theorem ab_okT_4_1 : u_lay (ab_R 4) (ab_T 4) 1 ∈ ab_gt := ab_gt_of (List.mem_of_getElem? (i := 65) rfl) rfl
set_option maxRecDepth 20000 in
theorem ab_okT_4_2 : u_lay (ab_R 4) (ab_T 4) 2 ∈ ab_gt := ab_gt_of (List.mem_of_getElem? (i := 67) rfl) rfl
set_option maxRecDepth 20000 in
theorem ab_okT_4_3 : u_lay (ab_R 4) (ab_T 4) 3 ∈ ab_gt := ab_gt_of (List.mem_of_getElem? (i := 69) rfl) rfl
set_option maxRecDepth 20000 in
theorem ab_okT_4_4 : u_lay (ab_R 4) (ab_T 4) 4 ∈ ab_gt := ab_gt_of (List.mem_of_getElem? (i := 71) rfl) rfl
theorem ab_Tin4 : ∀ w ∈ u_ws (ab_R 4) (ab_T 4) (ab_nf 4), w ∈ ab_gt := by
  intro w hw
  obtain ⟨k, hk, rfl⟩ := List.mem_map.mp hw
  have hk : k < 5 := List.mem_range.mp hk
  match k, hk with
  | 0, _ => exact ab_okT_4_0
  | 1, _ => exact ab_okT_4_1
  | 2, _ => exact ab_okT_4_2
  | 3, _ => exact ab_okT_4_3
  | 4, _ => exact ab_okT_4_4
  | k + 5, h => exact absurd h (by omega)
set_option maxRecDepth 20000 in
theorem ab_okT_5_0 : u_lay (ab_R 5) (ab_T 5) 0 ∈ ab_gt := ab_gt_of (List.mem_of_getElem? (i := 154) rfl) rfl
set_option maxRecDepth 20000 in
theorem ab_okT_5_1 : u_lay (ab_R 5) (ab_T 5) 1 ∈ ab_gt := ab_gt_of (List.mem_of_getElem? (i := 156) rfl) rfl
set_option maxRecDepth 20000 in
theorem ab_okT_5_2 : u_lay (ab_R 5) (ab_T 5) 2 ∈ ab_gt := ab_gt_of (List.mem_of_getElem? (i := 158) rfl) rfl
set_option maxRecDepth 20000 in
theorem ab_okT_5_3 : u_lay (ab_R 5) (ab_T 5) 3 ∈ ab_gt := ab_gt_of (List.mem_of_getElem? (i := 160) rfl) rfl
set_option maxRecDepth 20000 in
theorem ab_okT_5_4 : u_lay (ab_R 5) (ab_T 5) 4 ∈ ab_gt := ab_gt_of (List.mem_of_getElem? (i := 162) rfl) rfl
set_option maxRecDepth 20000 in
theorem ab_okT_5_5 : u_lay (ab_R 5) (ab_T 5) 5 ∈ ab_gt := ab_gt_of (List.mem_of_getElem? (i := 164) rfl) rfl
set_option maxRecDepth 20000 in
theorem ab_okT_5_6 : u_lay (ab_R 5) (ab_T 5) 6 ∈ ab_gt := ab_gt_of (List.mem_of_getElem? (i := 166) rfl) rfl
set_option maxRecDepth 20000 in
theorem ab_okT_5_7 : u_lay (ab_R 5) (ab_T 5) 7 ∈ ab_gt := ab_gt_of (List.mem_of_getElem? (i := 168) rfl) rfl
set_option maxRecDepth 20000 in
theorem ab_okT_5_8 : u_lay (ab_R 5) (ab_T 5) 8 ∈ ab_gt := ab_gt_of (List.mem_of_getElem? (i := 170) rfl) rfl
theorem ab_Tin5 : ∀ w ∈ u_ws (ab_R 5) (ab_T 5) (ab_nf 5), w ∈ ab_gt := by
  intro w hw
  obtain ⟨k, hk, rfl⟩ := List.mem_map.mp hw
  have hk : k < 9 := List.mem_range.mp hk
  match k, hk with
  | 0, _ => exact ab_okT_5_0
  | 1, _ => exact ab_okT_5_1
  | 2, _ => exact ab_okT_5_2
  | 3, _ => exact ab_okT_5_3
  | 4, _ => exact ab_okT_5_4
  | 5, _ => exact ab_okT_5_5
  | 6, _ => exact ab_okT_5_6
  | 7, _ => exact ab_okT_5_7
  | 8, _ => exact ab_okT_5_8
  | k + 9, h => exact absurd h (by omega)
set_option maxRecDepth 20000 in
theorem ab_okT_6_0 : u_lay (ab_R 6) (ab_T 6) 0 ∈ ab_gt := ab_gt_of (List.mem_of_getElem? (i := 536) rfl) rfl
set_option maxRecDepth 20000 in
theorem ab_okT_6_1 : u_lay (ab_R 6) (ab_T 6) 1 ∈ ab_gt := ab_gt_of (List.mem_of_getElem? (i := 538) rfl) rfl
set_option maxRecDepth 20000 in
theorem ab_okT_6_2 : u_lay (ab_R 6) (ab_T 6) 2 ∈ ab_gt := ab_gt_of (List.mem_of_getElem? (i := 540) rfl) rfl
set_option maxRecDepth 20000 in
theorem ab_okT_6_3 : u_lay (ab_R 6) (ab_T 6) 3 ∈ ab_gt := ab_gt_of (List.mem_of_getElem? (i := 542) rfl) rfl
set_option maxRecDepth 20000 in
theorem ab_okT_6_4 : u_lay (ab_R 6) (ab_T 6) 4 ∈ ab_gt := ab_gt_of (List.mem_of_getElem? (i := 544) rfl) rfl
set_option maxRecDepth 20000 in
theorem ab_okT_6_5 : u_lay (ab_R 6) (ab_T 6) 5 ∈ ab_gt := ab_gt_of (List.mem_of_getElem? (i := 546) rfl) rfl
set_option maxRecDepth 20000 in
theorem ab_okT_6_6 : u_lay (ab_R 6) (ab_T 6) 6 ∈ ab_gt := ab_gt_of (List.mem_of_getElem? (i := 548) rfl) rfl
set_option maxRecDepth 20000 in
theorem ab_okT_6_7 : u_lay (ab_R 6) (ab_T 6) 7 ∈ ab_gt := ab_gt_of (List.mem_of_getElem? (i := 550) rfl) rfl
set_option maxRecDepth 20000 in
theorem ab_okT_6_8 : u_lay (ab_R 6) (ab_T 6) 8 ∈ ab_gt := ab_gt_of (List.mem_of_getElem? (i := 552) rfl) rfl
set_option maxRecDepth 20000 in
theorem ab_okT_6_9 : u_lay (ab_R 6) (ab_T 6) 9 ∈ ab_gt := ab_gt_of (List.mem_of_getElem? (i := 554) rfl) rfl
set_option maxRecDepth 20000 in
theorem ab_okT_6_10 : u_lay (ab_R 6) (ab_T 6) 10 ∈ ab_gt := ab_gt_of (List.mem_of_getElem? (i := 556) rfl) rfl
set_option maxRecDepth 20000 in
theorem ab_okT_6_11 : u_lay (ab_R 6) (ab_T 6) 11 ∈ ab_gt := ab_gt_of (List.mem_of_getElem? (i := 558) rfl) rfl
set_option maxRecDepth 20000 in
theorem ab_okT_6_12 : u_lay (ab_R 6) (ab_T 6) 12 ∈ ab_gt := ab_gt_of (List.mem_of_getElem? (i := 560) rfl) rfl
set_option maxRecDepth 20000 in
theorem ab_okT_6_13 : u_lay (ab_R 6) (ab_T 6) 13 ∈ ab_gt := ab_gt_of (List.mem_of_getElem? (i := 562) rfl) rfl
set_option maxRecDepth 20000 in
theorem ab_okT_6_14 : u_lay (ab_R 6) (ab_T 6) 14 ∈ ab_gt := ab_gt_of (List.mem_of_getElem? (i := 564) rfl) rfl
set_option maxRecDepth 20000 in
theorem ab_okT_6_15 : u_lay (ab_R 6) (ab_T 6) 15 ∈ ab_gt := ab_gt_of (List.mem_of_getElem? (i := 566) rfl) rfl
set_option maxRecDepth 20000 in
theorem ab_okT_6_16 : u_lay (ab_R 6) (ab_T 6) 16 ∈ ab_gt := ab_gt_of (List.mem_of_getElem? (i := 568) rfl) rfl
set_option maxRecDepth 20000 in
theorem ab_okT_6_17 : u_lay (ab_R 6) (ab_T 6) 17 ∈ ab_gt := ab_gt_of (List.mem_of_getElem? (i := 570) rfl) rfl
set_option maxRecDepth 20000 in
theorem ab_okT_6_18 : u_lay (ab_R 6) (ab_T 6) 18 ∈ ab_gt := ab_gt_of (List.mem_of_getElem? (i := 572) rfl) rfl
set_option maxRecDepth 20000 in
theorem ab_okT_6_19 : u_lay (ab_R 6) (ab_T 6) 19 ∈ ab_gt := ab_gt_of (List.mem_of_getElem? (i := 574) rfl) rfl
set_option maxRecDepth 20000 in
theorem ab_okT_6_20 : u_lay (ab_R 6) (ab_T 6) 20 ∈ ab_gt := ab_gt_of (List.mem_of_getElem? (i := 576) rfl) rfl
set_option maxRecDepth 20000 in
theorem ab_okT_6_21 : u_lay (ab_R 6) (ab_T 6) 21 ∈ ab_gt := ab_gt_of (List.mem_of_getElem? (i := 578) rfl) rfl
set_option maxRecDepth 20000 in
theorem ab_okT_6_22 : u_lay (ab_R 6) (ab_T 6) 22 ∈ ab_gt := ab_gt_of (List.mem_of_getElem? (i := 580) rfl) rfl
theorem ab_Tin6 : ∀ w ∈ u_ws (ab_R 6) (ab_T 6) (ab_nf 6), w ∈ ab_gt := by
  intro w hw
  obtain ⟨k, hk, rfl⟩ := List.mem_map.mp hw
  have hk : k < 23 := List.mem_range.mp hk
  match k, hk with
  | 0, _ => exact ab_okT_6_0
  | 1, _ => exact ab_okT_6_1
  | 2, _ => exact ab_okT_6_2
  | 3, _ => exact ab_okT_6_3
  | 4, _ => exact ab_okT_6_4
  | 5, _ => exact ab_okT_6_5
  | 6, _ => exact ab_okT_6_6
  | 7, _ => exact ab_okT_6_7
  | 8, _ => exact ab_okT_6_8
  | 9, _ => exact ab_okT_6_9
  | 10, _ => exact ab_okT_6_10
  | 11, _ => exact ab_okT_6_11
  | 12, _ => exact ab_okT_6_12
  | 13, _ => exact ab_okT_6_13
  | 14, _ => exact ab_okT_6_14
  | 15, _ => exact ab_okT_6_15
  | 16, _ => exact ab_okT_6_16
  | 17, _ => exact ab_okT_6_17
  | 18, _ => exact ab_okT_6_18
  | 19, _ => exact ab_okT_6_19
  | 20, _ => exact ab_okT_6_20
  | 21, _ => exact ab_okT_6_21
  | 22, _ => exact ab_okT_6_22
  | k + 23, h => exact absurd h (by omega)
theorem ab_Tin {ci : Nat} (h : ci < 7) : ∀ w ∈ u_ws (ab_R ci) (ab_T ci) (ab_nf ci), w ∈ ab_gt := by
  match ci, h with
  | 0, _ => exact ab_Tin0
  | 1, _ => exact ab_Tin1
  | 2, _ => exact ab_Tin2
  | 3, _ => exact ab_Tin3
  | 4, _ => exact ab_Tin4
  | 5, _ => exact ab_Tin5
  | 6, _ => exact ab_Tin6
  | n + 7, h => omega
theorem ab_vw {ci : Nat} (h : ci < 7) : vwCl[ci]? = some (ab_R ci, ab_T ci, ab_nf ci) := by
  match ci, h with
  | 0, _ => rfl
  | 1, _ => rfl
  | 2, _ => rfl
  | 3, _ => rfl
  | 4, _ => rfl
  | 5, _ => rfl
  | 6, _ => rfl
  | n + 7, h => omega
theorem ab_tyok {ci : Nat} (h : ci < 7) : ∀ k, k < ab_nf ci → parseFieldDescriptor (ab_T ci k).2.2.1 = some (ab_tt ci k) := by
  match ci, h with
  | 0, _ => exact tyX0_ok
  | 1, _ => exact tyX1_ok
  | 2, _ => exact tyX2_ok
  | 3, _ => exact tyX3_ok
  | 4, _ => exact tyX4_ok
  | 5, _ => exact tyX5_ok
  | 6, _ => exact tyX6_ok
  | n + 7, h => omega
theorem ab_nmok {ci : Nat} (h : ci < 7) : ∀ a, a < ab_nf ci → ∀ b, b < ab_nf ci → a ≠ b → (ab_T ci a).2.1 ≠ (ab_T ci b).2.1 := by
  match ci, h with
  | 0, _ => exact nmX0
  | 1, _ => exact nmX1
  | 2, _ => exact nmX2
  | 3, _ => exact nmX3
  | 4, _ => exact nmX4
  | 5, _ => exact nmX5
  | 6, _ => exact nmX6
  | n + 7, h => omega

