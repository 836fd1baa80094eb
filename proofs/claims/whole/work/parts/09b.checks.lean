/-! EVERY METHOD STANDS AS ITS ITEMS SAY: looked at by program -/
def jMokC (M : JM) (a n : Nat) : Bool := (List.range n).all fun j => match M.its[a + j]? with
  | some t => jchk M (a + j) t
  | none => false
theorem jMokC_all {M : JM} {a b : Nat} (h : ∀ i, i < a → (match M.its[i]? with
  | some t => jchk M i t
  | none => false) = true) (h2 : jMokC M a b = true) : ∀ i, i < a + b → (match M.its[i]? with
  | some t => jchk M i t
  | none => false) = true := by
  intro i hi
  by_cases hl : i < a
  · exact h i hl
  · have := List.all_eq_true.mp h2 (i - a) (List.mem_range.mpr (by omega))
    rwa [show a + (i - a) = i by omega] at this
theorem jMokC_ok {M : JM} {n : Nat} (hn : M.its.length = n) (h0 : (decide (M.own = jON M.oi) && decide (M.own = M.y.cls) && plainName M.y.cls && (jpc M 0 == 0)) = true) (h : ∀ i, i < n → (match M.its[i]? with
  | some t => jchk M i t
  | none => false) = true) : jMok M = true := by
  unfold jMok
  rw [h0, Bool.true_and]
  exact List.all_eq_true.mpr fun i hi => h i (by rw [← hn]; exact List.mem_range.mp hi)
set_option maxRecDepth 100000 in
theorem okX0_init : jMok mX0_init = true := by decide +kernel
set_option maxRecDepth 100000 in
theorem okX0_aboutRock : jMok mX0_aboutRock = true := by decide +kernel
set_option maxRecDepth 100000 in
theorem okX0_aboutBoat : jMok mX0_aboutBoat = true := by decide +kernel
set_option maxRecDepth 100000 in
theorem okX0_told : jMok mX0_told = true := by decide +kernel
set_option maxRecDepth 100000 in
theorem okX0_isBarred : jMok mX0_isBarred = true := by decide +kernel
set_option maxRecDepth 100000 in
theorem okX0_work : jMok mX0_work = true := by decide +kernel
set_option maxRecDepth 100000 in
theorem okX0_push : jMok mX0_push = true := by decide +kernel
set_option maxRecDepth 100000 in
theorem okX0_combine : jMok mX0_combine = true := by decide +kernel
set_option maxRecDepth 100000 in
theorem okX1_init : jMok mX1_init = true := by decide +kernel
set_option maxRecDepth 100000 in
theorem okX1_forget : jMok mX1_forget = true := by decide +kernel
set_option maxRecDepth 100000 in
theorem okX1_learnAll : jMok mX1_learnAll = true := by decide +kernel
set_option maxRecDepth 100000 in
theorem okX1_learnFrom : jMok mX1_learnFrom = true := by decide +kernel
set_option maxRecDepth 100000 in
theorem okX1_learnDangers : jMok mX1_learnDangers = true := by decide +kernel
set_option maxRecDepth 100000 in
theorem okX1_learnDanger : jMok mX1_learnDanger = true := by decide +kernel
set_option maxRecDepth 100000 in
theorem okX1_sails : jMok mX1_sails = true := by decide +kernel
set_option maxRecDepth 100000 in
theorem okX1_steps : jMok mX1_steps = true := by decide +kernel
set_option maxRecDepth 100000 in
theorem okX1_stepsOfAll : jMok mX1_stepsOfAll = true := by decide +kernel
set_option maxRecDepth 100000 in
theorem okX1_danger : jMok mX1_danger = true := by decide +kernel
set_option maxRecDepth 100000 in
theorem okX1_allDanger : jMok mX1_allDanger = true := by decide +kernel
set_option maxRecDepth 100000 in
theorem okX1_willFor : jMok mX1_willFor = true := by decide +kernel
set_option maxRecDepth 100000 in
theorem okX2_init : jMok mX2_init = true := by decide +kernel
set_option maxRecDepth 100000 in
theorem okX2_weigh : jMok mX2_weigh = true := by decide +kernel
set_option maxRecDepth 100000 in
theorem okX2_mostBehind : jMok mX2_mostBehind = true := by decide +kernel
set_option maxRecDepth 100000 in
theorem okX2_bestStep : jMok mX2_bestStep = true := by decide +kernel
set_option maxRecDepth 100000 in
theorem okX2_leastUnwarned : jMok mX2_leastUnwarned = true := by decide +kernel
set_option maxRecDepth 100000 in
theorem okX2_rockOfWay : jMok mX2_rockOfWay = true := by decide +kernel
set_option maxRecDepth 100000 in
theorem okX3_init : jMok mX3_init = true := by decide +kernel
set_option maxRecDepth 100000 in
theorem okX4_init : jMok mX4_init = true := by decide +kernel
set_option maxRecDepth 100000 in
theorem okX4_lookTimes : jMok mX4_lookTimes = true := by decide +kernel
set_option maxRecDepth 100000 in
theorem okX4_lookOnce : jMok mX4_lookOnce = true := by decide +kernel
set_option maxRecDepth 100000 in
theorem okX4_likeliest : jMok mX4_likeliest = true := by decide +kernel
set_option maxRecDepth 100000 in
theorem okX5_init : jMok mX5_init = true := by decide +kernel
set_option maxRecDepth 100000 in
theorem okX5_putFour : jMok mX5_putFour = true := by decide +kernel
set_option maxRecDepth 100000 in
theorem okX5_readLaw : jMok mX5_readLaw = true := by decide +kernel
set_option maxRecDepth 100000 in
theorem okX5_faultPlace : jMok mX5_faultPlace = true := by decide +kernel
set_option maxRecDepth 100000 in
theorem okX5_readClause : jMok mX5_readClause = true := by decide +kernel
set_option maxRecDepth 100000 in
theorem okX5_readTest : jMok mX5_readTest = true := by decide +kernel
set_option maxRecDepth 100000 in
theorem okX5_readBoth : jMok mX5_readBoth = true := by decide +kernel
set_option maxRecDepth 100000 in
theorem okX5_readPlain : jMok mX5_readPlain = true := by decide +kernel
set_option maxRecDepth 100000 in
theorem okX5_readRoundBracket : jMok mX5_readRoundBracket = true := by decide +kernel
set_option maxRecDepth 100000 in
theorem okX5_readComparison : jMok mX5_readComparison = true := by decide +kernel
set_option maxRecDepth 100000 in
theorem okX5_readSum : jMok mX5_readSum = true := by decide +kernel
set_option maxRecDepth 100000 in
theorem okX5_readTerm : jMok mX5_readTerm = true := by decide +kernel
set_option maxRecDepth 100000 in
theorem okX5_readPart : jMok mX5_readPart = true := by decide +kernel
set_option maxRecDepth 100000 in
theorem okX5_pass : jMok mX5_pass = true := by decide +kernel
set_option maxRecDepth 100000 in
theorem okX5_goTo : jMok mX5_goTo = true := by decide +kernel
set_option maxRecDepth 100000 in
theorem okX5_emit : jMok mX5_emit = true := by decide +kernel
set_option maxRecDepth 100000 in
theorem okX5_landHere : jMok mX5_landHere = true := by decide +kernel
set_option maxRecDepth 100000 in
theorem okX5_cutTokens : jMok mX5_cutTokens = true := by decide +kernel
set_option maxRecDepth 100000 in
theorem okX5_endOfToken : jMok mX5_endOfToken = true := by decide +kernel
set_option maxRecDepth 100000 in
theorem okX5_tokenOf : jMok mX5_tokenOf = true := by decide +kernel
set_option maxRecDepth 100000 in
theorem okX5_numberToken : jMok mX5_numberToken = true := by decide +kernel
set_option maxRecDepth 100000 in
theorem okX5_signOfWord : jMok mX5_signOfWord = true := by decide +kernel
set_option maxRecDepth 100000 in
theorem okX5_signOfPart : jMok mX5_signOfPart = true := by decide +kernel
set_option maxRecDepth 100000 in
theorem okX5_isWord : jMok mX5_isWord = true := by decide +kernel
set_option maxRecDepth 100000 in
theorem okX5_isLetter : jMok mX5_isLetter = true := by decide +kernel
set_option maxRecDepth 100000 in
theorem okX5_isDigit : jMok mX5_isDigit = true := by decide +kernel
set_option maxRecDepth 100000 in
theorem okX5_signOfMark : jMok mX5_signOfMark = true := by decide +kernel
set_option maxRecDepth 100000 in
theorem okX6_init : jMok mX6_init = true := by decide +kernel
set_option maxRecDepth 100000 in
theorem okX6_earliest : jMok mX6_earliest = true := by decide +kernel
set_option maxRecDepth 100000 in
theorem okX6_isEndedIn : jMok mX6_isEndedIn = true := by decide +kernel
set_option maxRecDepth 100000 in
theorem okX6_spread : jMok mX6_spread = true := by decide +kernel
set_option maxRecDepth 100000 in
theorem okX6_carry : jMok mX6_carry = true := by decide +kernel
set_option maxRecDepth 100000 in
theorem okX6_rockOfWay : jMok mX6_rockOfWay = true := by decide +kernel
set_option maxRecDepth 100000 in
theorem okX6_firstStep : jMok mX6_firstStep = true := by decide +kernel
set_option maxRecDepth 100000 in
theorem okX6_lookBack : jMok mX6_lookBack = true := by decide +kernel
set_option maxRecDepth 100000 in
theorem okX6_fetch : jMok mX6_fetch = true := by decide +kernel
set_option maxRecDepth 100000 in
theorem okX6_put : jMok mX6_put = true := by decide +kernel
set_option maxRecDepth 100000 in
theorem okX6_isIn : jMok mX6_isIn = true := by decide +kernel
set_option maxRecDepth 100000 in
theorem okX6_wordOf : jMok mX6_wordOf = true := by decide +kernel
set_option maxRecDepth 100000 in
theorem okX7_init : jMok mX7_init = true := by decide +kernel
set_option maxRecDepth 100000 in
theorem okX7_solve : jMok mX7_solve = true := by decide +kernel
set_option maxRecDepth 100000 in
theorem okX7_countLying : jMok mX7_countLying = true := by decide +kernel
set_option maxRecDepth 100000 in
theorem okX7_weigh : jMok mX7_weigh = true := by decide +kernel
set_option maxRecDepth 100000 in
theorem okX7_chooseStart : jMok mX7_chooseStart = true := by decide +kernel
set_option maxRecDepth 100000 in
theorem okX7_followLikely : jMok mX7_followLikely = true := by decide +kernel
set_option maxRecDepth 100000 in
theorem okX7_followFirst : jMok mX7_followFirst = true := by decide +kernel
set_option maxRecDepth 100000 in
theorem okX7_bestSteps : jMok mX7_bestSteps = true := by decide +kernel
set_option maxRecDepth 100000 in
theorem okX7_lowestOf : jMok mX7_lowestOf = true := by decide +kernel
set_option maxRecDepth 100000 in
theorem okX7_lyingReports : jMok mX7_lyingReports = true := by decide +kernel
set_option maxRecDepth 100000 in
theorem okX8_init : jMok mX8_init = true := by decide +kernel
set_option maxRecDepth 100000 in
theorem okX8_isFull : jMok mX8_isFull = true := by decide +kernel
set_option maxRecDepth 100000 in
theorem okX8_has : jMok mX8_has = true := by decide +kernel
set_option maxRecDepth 100000 in
theorem okX8_put : jMok mX8_put = true := by decide +kernel
set_option maxRecDepth 100000 in
theorem okX8_drop : jMok mX8_drop = true := by decide +kernel
set_option maxRecDepth 100000 in
theorem okX8_become : jMok mX8_become = true := by decide +kernel
set_option maxRecDepth 100000 in
theorem okX9_init : jMok mX9_init = true := by decide +kernel
set_option maxRecDepth 100000 in
theorem okX9_hasRock : jMok mX9_hasRock = true := by decide +kernel
set_option maxRecDepth 100000 in
theorem okX9_glassRock : jMok mX9_glassRock = true := by decide +kernel
set_option maxRecDepth 100000 in
theorem okX9_stormOn : jMok mX9_stormOn = true := by decide +kernel
set_option maxRecDepth 100000 in
theorem okX9_setStorm : jMok mX9_setStorm = true := by decide +kernel
set_option maxRecDepth 100000 in
theorem okX9_isWeddingOn : jMok mX9_isWeddingOn = true := by decide +kernel
set_option maxRecDepth 100000 in
theorem okX9_ruling : jMok mX9_ruling = true := by decide +kernel
set_option maxRecDepth 100000 in
theorem okX9_beginAnew : jMok mX9_beginAnew = true := by decide +kernel
set_option maxRecDepth 100000 in
theorem okX9_become : jMok mX9_become = true := by decide +kernel
set_option maxRecDepth 100000 in
theorem okX10_init : jMok mX10_init = true := by decide +kernel
set_option maxRecDepth 100000 in
theorem okX10_pass : jMok mX10_pass = true := by decide +kernel
set_option maxRecDepth 100000 in
theorem okX10_nextRock : jMok mX10_nextRock = true := by decide +kernel
set_option maxRecDepth 100000 in
theorem okX10_draw : jMok mX10_draw = true := by decide +kernel
set_option maxRecDepth 100000 in
theorem okX10_rocksHad : jMok mX10_rocksHad = true := by decide +kernel
set_option maxRecDepth 100000 in
theorem okX11_init : jMok mX11_init = true := by decide +kernel
set_option maxRecDepth 100000 in
theorem okX11_terms : jMok mX11_terms = true := by decide +kernel
set_option maxRecDepth 100000 in
theorem okX11_storm : jMok mX11_storm = true := by decide +kernel
set_option maxRecDepth 100000 in
theorem okX11_wed : jMok mX11_wed = true := by decide +kernel
set_option maxRecDepth 100000 in
theorem okX11_jilt : jMok mX11_jilt = true := by decide +kernel
set_option maxRecDepth 100000 in
theorem okX11_feed : jMok mX11_feed = true := by decide +kernel
set_option maxRecDepth 100000 in
theorem okX11_end : jMok mX11_end = true := by decide +kernel
set_option maxRecDepth 100000 in
theorem okX11_row : jMok mX11_row = true := by decide +kernel
set_option maxRecDepth 100000 in
theorem okX11_spray : jMok mX11_spray = true := by decide +kernel
set_option maxRecDepth 100000 in
theorem okX11_law : jMok mX11_law = true := by decide +kernel
set_option maxRecDepth 100000 in
theorem okX11_fault : jMok mX11_fault = true := by decide +kernel
set_option maxRecDepth 100000 in
theorem okX11_force : jMok mX11_force = true := by decide +kernel
set_option maxRecDepth 100000 in
theorem okX11_goes : jMok mX11_goes = true := by decide +kernel
set_option maxRecDepth 100000 in
theorem okX11_of : jMok mX11_of = true := by decide +kernel
set_option maxRecDepth 100000 in
theorem okX11_will : jMok mX11_will = true := by decide +kernel
set_option maxRecDepth 100000 in
theorem okX11_oar : jMok mX11_oar = true := by decide +kernel
set_option maxRecDepth 100000 in
theorem okX11_unrow : jMok mX11_unrow = true := by decide +kernel
set_option maxRecDepth 100000 in
theorem okX11_trail : jMok mX11_trail = true := by decide +kernel
set_option maxRecDepth 100000 in
theorem okX11_unwarned : jMok mX11_unwarned = true := by decide +kernel
set_option maxRecDepth 100000 in
theorem okX11_report : jMok mX11_report = true := by decide +kernel
set_option maxRecDepth 100000 in
theorem okX11_burn : jMok mX11_burn = true := by decide +kernel
set_option maxRecDepth 100000 in
theorem okX11_could : jMok mX11_could = true := by decide +kernel
set_option maxRecDepth 100000 in
theorem okX11_lies : jMok mX11_lies = true := by decide +kernel
set_option maxRecDepth 100000 in
theorem okX11_ways : jMok mX11_ways = true := by decide +kernel
set_option maxRecDepth 100000 in
theorem okX11_likely : jMok mX11_likely = true := by decide +kernel
set_option maxRecDepth 100000 in
theorem okX11_liars : jMok mX11_liars = true := by decide +kernel
set_option maxRecDepth 100000 in
theorem okX11_round : jMok mX11_round = true := by decide +kernel
set_option maxRecDepth 100000 in
theorem okX11_reach : jMok mX11_reach = true := by decide +kernel
set_option maxRecDepth 100000 in
theorem okX11_guard : jMok mX11_guard = true := by decide +kernel
set_option maxRecDepth 100000 in
theorem okX11_sea : jMok mX11_sea = true := by decide +kernel
set_option maxRecDepth 100000 in
theorem okX11_search : jMok mX11_search = true := by decide +kernel
set_option maxRecDepth 100000 in
theorem okX11_year : jMok mX11_year = true := by decide +kernel
set_option maxRecDepth 100000 in
theorem okX11_drawn : jMok mX11_drawn = true := by decide +kernel
set_option maxRecDepth 100000 in
theorem okX11_image : jMok mX11_image = true := by decide +kernel
set_option maxRecDepth 100000 in
theorem okX11_back : jMok mX11_back = true := by decide +kernel
set_option maxRecDepth 100000 in
theorem okX11_count : jMok mX11_count = true := by decide +kernel
set_option maxRecDepth 100000 in
theorem okX11_status : jMok mX11_status = true := by decide +kernel
set_option maxRecDepth 100000 in
theorem okX11_refuse : jMok mX11_refuse = true := by decide +kernel
set_option maxRecDepth 100000 in
theorem okX11_accept : jMok mX11_accept = true := by decide +kernel
set_option maxRecDepth 100000 in
theorem okX11_solveSightings : jMok mX11_solveSightings = true := by decide +kernel
set_option maxRecDepth 100000 in
theorem okX11_isBoat : jMok mX11_isBoat = true := by decide +kernel
set_option maxRecDepth 100000 in
theorem okX11_termNow : jMok mX11_termNow = true := by decide +kernel
set_option maxRecDepth 100000 in
theorem okX11_mostOfTerm : jMok mX11_mostOfTerm = true := by decide +kernel
set_option maxRecDepth 100000 in
theorem okX11_isNight : jMok mX11_isNight = true := by decide +kernel
set_option maxRecDepth 100000 in
theorem okX11_isBit : jMok mX11_isBit = true := by decide +kernel
set_option maxRecDepth 100000 in
theorem okX11_hasBit : jMok mX11_hasBit = true := by decide +kernel
set_option maxRecDepth 100000 in
theorem okX11_placeOf : jMok mX11_placeOf = true := by decide +kernel
set_option maxRecDepth 100000 in
theorem okX12_init : jMok mX12_init = true := by decide +kernel
set_option maxRecDepth 100000 in
theorem okX12_in : jMok mX12_in = true := by decide +kernel
set_option maxRecDepth 100000 in
theorem okX12_is : jMok mX12_is = true := by decide +kernel
set_option maxRecDepth 100000 in
theorem okX12_tell : jMok mX12_tell = true := by decide +kernel
set_option maxRecDepth 100000 in
theorem okX12_change : jMok mX12_change = true := by decide +kernel
set_option maxRecDepth 100000 in
theorem okX12_image : jMok mX12_image = true := by decide +kernel
set_option maxRecDepth 100000 in
theorem okX12_back : jMok mX12_back = true := by decide +kernel
set_option maxRecDepth 100000 in
theorem okX12_rocks : jMok mX12_rocks = true := by decide +kernel
set_option maxRecDepth 100000 in
theorem okX12_isRock : jMok mX12_isRock = true := by decide +kernel
set_option maxRecDepth 100000 in
theorem okX12_isNight : jMok mX12_isNight = true := by decide +kernel
set_option maxRecDepth 100000 in
theorem okX12_terms : jMok mX12_terms = true := by decide +kernel
set_option maxRecDepth 100000 in
theorem okX12_storm : jMok mX12_storm = true := by decide +kernel
set_option maxRecDepth 100000 in
theorem okX12_wed : jMok mX12_wed = true := by decide +kernel
set_option maxRecDepth 100000 in
theorem okX12_jilt : jMok mX12_jilt = true := by decide +kernel
set_option maxRecDepth 100000 in
theorem okX12_row : jMok mX12_row = true := by decide +kernel
set_option maxRecDepth 100000 in
theorem okX12_spray : jMok mX12_spray = true := by decide +kernel
set_option maxRecDepth 100000 in
theorem okX12_four : jMok mX12_four = true := by decide +kernel
set_option maxRecDepth 100000 in
theorem okX12_feed : jMok mX12_feed = true := by decide +kernel
set_option maxRecDepth 100000 in
theorem okX12_end : jMok mX12_end = true := by decide +kernel
set_option maxRecDepth 100000 in
theorem okX12_isSmall : jMok mX12_isSmall = true := by decide +kernel
set_option maxRecDepth 100000 in
theorem okX12_isDigit : jMok mX12_isDigit = true := by decide +kernel
set_option maxRecDepth 100000 in
theorem okX12_begin : jMok mX12_begin = true := by decide +kernel
set_option maxRecDepth 100000 in
theorem okX12_next : jMok mX12_next = true := by decide +kernel
set_option maxRecDepth 100000 in
theorem okX12_isWord : jMok mX12_isWord = true := by decide +kernel
set_option maxRecDepth 100000 in
theorem okX12_isSign : jMok mX12_isSign = true := by decide +kernel
set_option maxRecDepth 100000 in
theorem okX12_must : jMok mX12_must = true := by decide +kernel
set_option maxRecDepth 100000 in
theorem okX12_fault : jMok mX12_fault = true := by decide +kernel
set_option maxRecDepth 100000 in
theorem okX12_emit : jMok mX12_emit = true := by decide +kernel
set_option maxRecDepth 100000 in
theorem okX12_push : jMok mX12_push = true := by decide +kernel
set_option maxRecDepth 100000 in
theorem okX12_binds : jMok mX12_binds = true := by decide +kernel
set_option maxRecDepth 100000 in
theorem okX12_settle : jMok mX12_settle = true := by decide +kernel
set_option maxRecDepth 100000 in
theorem okX12_inner : jMok mX12_inner = true := by decide +kernel
set_option maxRecDepth 100000 in
theorem okX12_isCompared : jMok mX12_isCompared = true := by decide +kernel
set_option maxRecDepth 100000 in
theorem okX12_partAt : jMok mX12_partAt = true := by decide +kernel
set_option maxRecDepth 100000 in
theorem okX12_openBracket : jMok mX12_openBracket = true := by decide +kernel
set_option maxRecDepth 100000 in
theorem okX12_leaf : jMok mX12_leaf = true := by decide +kernel
set_option maxRecDepth 100000 in
theorem okX12_readPart : jMok mX12_readPart = true := by decide +kernel
set_option maxRecDepth 100000 in
theorem okX12_readPlain : jMok mX12_readPlain = true := by decide +kernel
set_option maxRecDepth 100000 in
theorem okX12_behindSum : jMok mX12_behindSum = true := by decide +kernel
set_option maxRecDepth 100000 in
theorem okX12_behindTest : jMok mX12_behindTest = true := by decide +kernel
set_option maxRecDepth 100000 in
theorem okX12_readExpression : jMok mX12_readExpression = true := by decide +kernel
set_option maxRecDepth 100000 in
theorem okX12_readClause : jMok mX12_readClause = true := by decide +kernel
set_option maxRecDepth 100000 in
theorem okX12_law : jMok mX12_law = true := by decide +kernel
set_option maxRecDepth 100000 in
theorem okX12_force : jMok mX12_force = true := by decide +kernel
set_option maxRecDepth 100000 in
theorem okX12_reckon : jMok mX12_reckon = true := by decide +kernel
set_option maxRecDepth 100000 in
theorem okX12_reckonAll : jMok mX12_reckonAll = true := by decide +kernel
set_option maxRecDepth 100000 in
theorem okX12_isSo : jMok mX12_isSo = true := by decide +kernel
set_option maxRecDepth 100000 in
theorem okX12_farBetween : jMok mX12_farBetween = true := by decide +kernel
set_option maxRecDepth 100000 in
theorem okX12_tells : jMok mX12_tells = true := by decide +kernel
set_option maxRecDepth 100000 in
theorem okX12_isWedding : jMok mX12_isWedding = true := by decide +kernel
set_option maxRecDepth 100000 in
theorem okX12_isBoat : jMok mX12_isBoat = true := by decide +kernel
set_option maxRecDepth 100000 in
theorem okX12_isTrip : jMok mX12_isTrip = true := by decide +kernel
set_option maxRecDepth 100000 in
theorem okX12_goes : jMok mX12_goes = true := by decide +kernel
set_option maxRecDepth 100000 in
theorem okX12_of : jMok mX12_of = true := by decide +kernel
set_option maxRecDepth 100000 in
theorem okX12_will : jMok mX12_will = true := by decide +kernel
set_option maxRecDepth 100000 in
theorem okX12_here : jMok mX12_here = true := by decide +kernel
set_option maxRecDepth 100000 in
theorem okX12_oar : jMok mX12_oar = true := by decide +kernel
set_option maxRecDepth 100000 in
theorem okX12_unrow : jMok mX12_unrow = true := by decide +kernel
set_option maxRecDepth 100000 in
theorem okX12_trail : jMok mX12_trail = true := by decide +kernel
set_option maxRecDepth 100000 in
theorem okX12_unwarnedIn : jMok mX12_unwarnedIn = true := by decide +kernel
set_option maxRecDepth 100000 in
theorem okX12_unwarned : jMok mX12_unwarned = true := by decide +kernel
set_option maxRecDepth 100000 in
theorem okX12_report : jMok mX12_report = true := by decide +kernel
set_option maxRecDepth 100000 in
theorem okX12_burn : jMok mX12_burn = true := by decide +kernel
set_option maxRecDepth 100000 in
theorem okX12_layOut : jMok mX12_layOut = true := by decide +kernel
set_option maxRecDepth 100000 in
theorem okX12_liesAt : jMok mX12_liesAt = true := by decide +kernel
set_option maxRecDepth 100000 in
theorem okX12_findLies_0 : jMokC mX12_findLies 0 60 = true := by decide +kernel
set_option maxRecDepth 100000 in
theorem okX12_findLies_60 : jMokC mX12_findLies 60 60 = true := by decide +kernel
set_option maxRecDepth 100000 in
theorem okX12_findLies_120 : jMokC mX12_findLies 120 60 = true := by decide +kernel
set_option maxRecDepth 100000 in
theorem okX12_findLies_180 : jMokC mX12_findLies 180 37 = true := by decide +kernel
set_option maxRecDepth 100000 in
theorem okX12_findLies : jMok mX12_findLies = true := jMokC_ok (n := 217) (by decide +kernel) (by decide +kernel) (jMokC_all (a := 180) (b := 37) (jMokC_all (a := 120) (b := 60) (jMokC_all (a := 60) (b := 60) (jMokC_all (a := 0) (b := 60) (fun i hi => absurd hi (Nat.not_lt_zero i)) okX12_findLies_0) okX12_findLies_60) okX12_findLies_120) okX12_findLies_180)
set_option maxRecDepth 100000 in
theorem okX12_fewest : jMok mX12_fewest = true := by decide +kernel
set_option maxRecDepth 100000 in
theorem okX12_likelyIn : jMok mX12_likelyIn = true := by decide +kernel
set_option maxRecDepth 100000 in
theorem okX12_could : jMok mX12_could = true := by decide +kernel
set_option maxRecDepth 100000 in
theorem okX12_lies : jMok mX12_lies = true := by decide +kernel
set_option maxRecDepth 100000 in
theorem okX12_ways : jMok mX12_ways = true := by decide +kernel
set_option maxRecDepth 100000 in
theorem okX12_likely : jMok mX12_likely = true := by decide +kernel
set_option maxRecDepth 100000 in
theorem okX12_liars : jMok mX12_liars = true := by decide +kernel
set_option maxRecDepth 100000 in
theorem okX12_earliest : jMok mX12_earliest = true := by decide +kernel
set_option maxRecDepth 100000 in
theorem okX12_findDone : jMok mX12_findDone = true := by decide +kernel
set_option maxRecDepth 100000 in
theorem okX12_round : jMok mX12_round = true := by decide +kernel
set_option maxRecDepth 100000 in
theorem okX12_reach : jMok mX12_reach = true := by decide +kernel
set_option maxRecDepth 100000 in
theorem okX12_guard : jMok mX12_guard = true := by decide +kernel
set_option maxRecDepth 100000 in
theorem okX12_sea : jMok mX12_sea = true := by decide +kernel
set_option maxRecDepth 100000 in
theorem okX12_search : jMok mX12_search = true := by decide +kernel
set_option maxRecDepth 100000 in
theorem okX12_year : jMok mX12_year = true := by decide +kernel
set_option maxRecDepth 100000 in
theorem okX12_drawn : jMok mX12_drawn = true := by decide +kernel
set_option maxRecDepth 100000 in
theorem okX12_count : jMok mX12_count = true := by decide +kernel
set_option maxRecDepth 100000 in
theorem okX12_status : jMok mX12_status = true := by decide +kernel
set_option maxRecDepth 100000 in
theorem okJ6_bitCount_0f7a4 : jMok mJ6_bitCount_0f7a4 = true := by decide +kernel
set_option maxRecDepth 100000 in
theorem okJ13_bitCount_95d88 : jMok mJ13_bitCount_95d88 = true := by decide +kernel
set_option maxRecDepth 100000 in
theorem okJ7_fill_d0a16 : jMok mJ7_fill_d0a16 = true := by decide +kernel
set_option maxRecDepth 100000 in
theorem okJ7_fill_53178 : jMok mJ7_fill_53178 = true := by decide +kernel
set_option maxRecDepth 100000 in
theorem okJ7_copyOf_59c91 : jMok mJ7_copyOf_59c91 = true := by decide +kernel
set_option maxRecDepth 100000 in
theorem okL_law_0 : jMokC mL_law 0 60 = true := by decide +kernel
set_option maxRecDepth 100000 in
theorem okL_law_60 : jMokC mL_law 60 60 = true := by decide +kernel
set_option maxRecDepth 100000 in
theorem okL_law_120 : jMokC mL_law 120 60 = true := by decide +kernel
set_option maxRecDepth 100000 in
theorem okL_law_180 : jMokC mL_law 180 60 = true := by decide +kernel
set_option maxRecDepth 100000 in
theorem okL_law_240 : jMokC mL_law 240 60 = true := by decide +kernel
set_option maxRecDepth 100000 in
theorem okL_law_300 : jMokC mL_law 300 60 = true := by decide +kernel
set_option maxRecDepth 100000 in
theorem okL_law_360 : jMokC mL_law 360 60 = true := by decide +kernel
set_option maxRecDepth 100000 in
theorem okL_law_420 : jMokC mL_law 420 60 = true := by decide +kernel
set_option maxRecDepth 100000 in
theorem okL_law_480 : jMokC mL_law 480 60 = true := by decide +kernel
set_option maxRecDepth 100000 in
theorem okL_law_540 : jMokC mL_law 540 60 = true := by decide +kernel
set_option maxRecDepth 100000 in
theorem okL_law_600 : jMokC mL_law 600 60 = true := by decide +kernel
set_option maxRecDepth 100000 in
theorem okL_law_660 : jMokC mL_law 660 60 = true := by decide +kernel
set_option maxRecDepth 100000 in
theorem okL_law_720 : jMokC mL_law 720 60 = true := by decide +kernel
set_option maxRecDepth 100000 in
theorem okL_law_780 : jMokC mL_law 780 50 = true := by decide +kernel
set_option maxRecDepth 100000 in
theorem okL_law : jMok mL_law = true := jMokC_ok (n := 830) (by decide +kernel) (by decide +kernel) (jMokC_all (a := 780) (b := 50) (jMokC_all (a := 720) (b := 60) (jMokC_all (a := 660) (b := 60) (jMokC_all (a := 600) (b := 60) (jMokC_all (a := 540) (b := 60) (jMokC_all (a := 480) (b := 60) (jMokC_all (a := 420) (b := 60) (jMokC_all (a := 360) (b := 60) (jMokC_all (a := 300) (b := 60) (jMokC_all (a := 240) (b := 60) (jMokC_all (a := 180) (b := 60) (jMokC_all (a := 120) (b := 60) (jMokC_all (a := 60) (b := 60) (jMokC_all (a := 0) (b := 60) (fun i hi => absurd hi (Nat.not_lt_zero i)) okL_law_0) okL_law_60) okL_law_120) okL_law_180) okL_law_240) okL_law_300) okL_law_360) okL_law_420) okL_law_480) okL_law_540) okL_law_600) okL_law_660) okL_law_720) okL_law_780)
