/-! The rows' doings are those of the rows -/
def map3 {α β : Type} (g : α → β) (l : List (List (List α))) : List (List (List β)) := l.map (fun a => a.map (fun b => b.map g))
def rowG (l : List (List (List (Option ARow)))) : List (List (List (Option AF))) := map3 (fun r => r.map rowF) l
theorem rowG_nil : rowG [] = [] := rfl
theorem map3_t3 {α β : Type} (g : α → β) (l : List (List (List α))) (i : Nat) : t3 (map3 g l) i = (t3 l i).map g := by
  unfold t3 map3
  rw [List.getElem?_map]
  cases l[i / 256]? with
  | none => rfl
  | some a =>
    show (match (a.map (fun b => b.map g))[i / 16 % 16]? with | some b => b[i % 16]? | none => none) = Option.map g (match a[i / 16 % 16]? with | some b => b[i % 16]? | none => none)
    rw [List.getElem?_map]
    cases a[i / 16 % 16]? with
    | none => rfl
    | some b =>
      show (b.map g)[i % 16]? = _
      rw [List.getElem?_map]
theorem cfe_X0_init : rowG cd_X0_init = cf_X0_init := rfl
theorem cfe_X0_listen : rowG cd_X0_listen = cf_X0_listen := rfl
theorem cfe_X0_followSteps : rowG cd_X0_followSteps = cf_X0_followSteps := rfl
theorem cfe_X0_hear : rowG cd_X0_hear = cf_X0_hear := rfl
theorem cfe_X0_loadAt : rowG cd_X0_loadAt = cf_X0_loadAt := rfl
theorem cfe_X0_findPeak : rowG cd_X0_findPeak = cf_X0_findPeak := rfl
theorem cfe_X0_keptCounts : rowG cd_X0_keptCounts = cf_X0_keptCounts := rfl
theorem cfe_X0_overInAll : rowG cd_X0_overInAll = cf_X0_overInAll := rfl
theorem cfe_X0_leadAt : rowG cd_X0_leadAt = cf_X0_leadAt := rfl
theorem cfe_X0_aheadOf : rowG cd_X0_aheadOf = cf_X0_aheadOf := rfl
theorem cfe_X1_init : rowG cd_X1_init = cf_X1_init := rfl
theorem cfe_X1_add : rowG cd_X1_add = cf_X1_add := rfl
theorem cfe_X1_solve : rowG cd_X1_solve = cf_X1_solve := rfl
theorem cfe_X1_offBack : rowG cd_X1_offBack = cf_X1_offBack := rfl
theorem cfe_X1_anyRow : rowG cd_X1_anyRow = cf_X1_anyRow := rfl
theorem cfe_X1_nextTrial : rowG cd_X1_nextTrial = cf_X1_nextTrial := rfl
theorem cfe_X1_offOf : rowG cd_X1_offOf = cf_X1_offOf := rfl
theorem cfe_X2_init : rowG cd_X2_init = cf_X2_init := rfl
theorem cfe_X2_stands : rowG cd_X2_stands = cf_X2_stands := rfl
theorem cfe_X2_isWhole : rowG cd_X2_isWhole = cf_X2_isWhole := rfl
theorem cfe_X2_measure : rowG cd_X2_measure = cf_X2_measure := rfl
theorem cfe_X2_weigh : rowG cd_X2_weigh = cf_X2_weigh := rfl
theorem cfe_X2_priceNow : rowG cd_X2_priceNow = cf_X2_priceNow := rfl
theorem cfe_X2_seek : rowG cd_X2_seek = cf_X2_seek := rfl
theorem cfe_X2_mayMatter : rowG cd_X2_mayMatter = cf_X2_mayMatter := rfl
theorem cfe_X2_tryCell : rowG cd_X2_tryCell = cf_X2_tryCell := rfl
theorem cfe_X2_compare : rowG cd_X2_compare = cf_X2_compare := rfl
theorem cfe_X3_init : rowG cd_X3_init = cf_X3_init := rfl
theorem cfe_X3_put : rowG cd_X3_put = cf_X3_put := rfl
theorem cfe_X3_putAll : rowG cd_X3_putAll = cf_X3_putAll := rfl
theorem cfe_X3_hasCells : rowG cd_X3_hasCells = cf_X3_hasCells := rfl
theorem cfe_X3_countPieces : rowG cd_X3_countPieces = cf_X3_countPieces := rfl
theorem cfe_X3_countShut : rowG cd_X3_countShut = cf_X3_countShut := rfl
theorem cfe_X3_beside : rowG cd_X3_beside = cf_X3_beside := rfl
theorem cfe_X3_hangs : rowG cd_X3_hangs = cf_X3_hangs := rfl
theorem cfe_X3_reaches : rowG cd_X3_reaches = cf_X3_reaches := rfl
theorem cfe_X3_neckAt : rowG cd_X3_neckAt = cf_X3_neckAt := rfl
theorem cfe_X3_hangsWithout : rowG cd_X3_hangsWithout = cf_X3_hangsWithout := rfl
theorem cfe_X3_countAtEdge : rowG cd_X3_countAtEdge = cf_X3_countAtEdge := rfl
theorem cfe_X3_piecesBeside : rowG cd_X3_piecesBeside = cf_X3_piecesBeside := rfl
theorem cfe_X3_keepMark : rowG cd_X3_keepMark = cf_X3_keepMark := rfl
theorem cfe_X3_goBack : rowG cd_X3_goBack = cf_X3_goBack := rfl
theorem cfe_X4_init : rowG cd_X4_init = cf_X4_init := rfl
theorem cfe_X4_add : rowG cd_X4_add = cf_X4_add := rfl
theorem cfe_X4_needAt : rowG cd_X4_needAt = cf_X4_needAt := rfl
theorem cfe_X4_judge : rowG cd_X4_judge = cf_X4_judge := rfl
theorem cfe_X4_judgeGroup : rowG cd_X4_judgeGroup = cf_X4_judgeGroup := rfl
theorem cfe_X4_addLoads : rowG cd_X4_addLoads = cf_X4_addLoads := rfl
theorem cfe_X4_solve : rowG cd_X4_solve = cf_X4_solve := rfl
theorem cfe_X4_placeOf : rowG cd_X4_placeOf = cf_X4_placeOf := rfl
theorem cfe_X4_fewestBehind : rowG cd_X4_fewestBehind = cf_X4_fewestBehind := rfl
theorem cfe_X4_choose : rowG cd_X4_choose = cf_X4_choose := rfl
theorem cfe_X4_nextOf : rowG cd_X4_nextOf = cf_X4_nextOf := rfl
theorem cfe_X5_init : rowG cd_X5_init = cf_X5_init := rfl
theorem cfe_X5_add : rowG cd_X5_add = cf_X5_add := rfl
theorem cfe_X5_solve : rowG cd_X5_solve = cf_X5_solve := rfl
theorem cfe_X5_hearSubset : rowG cd_X5_hearSubset = cf_X5_hearSubset := rfl
theorem cfe_X5_place : rowG cd_X5_place = cf_X5_place := rfl
theorem cfe_X5_compare : rowG cd_X5_compare = cf_X5_compare := rfl
theorem cfe_X6_init : rowG cd_X6_init = cf_X6_init := rfl
theorem cfe_X6_setWork : rowG cd_X6_setWork = cf_X6_setWork := rfl
theorem cfe_X6_setRest : rowG cd_X6_setRest = cf_X6_setRest := rfl
theorem cfe_X6_run : rowG cd_X6_run = cf_X6_run := rfl
theorem cfe_X6_mayGoOn : rowG cd_X6_mayGoOn = cf_X6_mayGoOn := rfl
theorem cfe_X6_mayBegin : rowG cd_X6_mayBegin = cf_X6_mayBegin := rfl
theorem cfe_X6_fewestOf : rowG cd_X6_fewestOf = cf_X6_fewestOf := rfl
theorem cfe_X6_settle : rowG cd_X6_settle = cf_X6_settle := rfl
theorem cfe_X7_init : rowG cd_X7_init = cf_X7_init := rfl
theorem cfe_X7_read : rowG cd_X7_read = cf_X7_read := rfl
theorem cfe_X7_adopt : rowG cd_X7_adopt = cf_X7_adopt := rfl
theorem cfe_X7_beginOf : rowG cd_X7_beginOf = cf_X7_beginOf := rfl
theorem cfe_X7_readClause : rowG cd_X7_readClause = cf_X7_readClause := rfl
theorem cfe_X7_readEither : rowG cd_X7_readEither = cf_X7_readEither := rfl
theorem cfe_X7_readBoth : rowG cd_X7_readBoth = cf_X7_readBoth := rfl
theorem cfe_X7_readTest : rowG cd_X7_readTest = cf_X7_readTest := rfl
theorem cfe_X7_readSum : rowG cd_X7_readSum = cf_X7_readSum := rfl
theorem cfe_X7_readProduct : rowG cd_X7_readProduct = cf_X7_readProduct := rfl
theorem cfe_X7_readUnit : rowG cd_X7_readUnit = cf_X7_readUnit := rfl
theorem cfe_X7_readOfTwo : rowG cd_X7_readOfTwo = cf_X7_readOfTwo := rfl
theorem cfe_X7_codeOfName : rowG cd_X7_codeOfName = cf_X7_codeOfName := rfl
theorem cfe_X7_enter : rowG cd_X7_enter = cf_X7_enter := rfl
theorem cfe_X7_pass : rowG cd_X7_pass = cf_X7_pass := rfl
theorem cfe_X7_put : rowG cd_X7_put = cf_X7_put := rfl
theorem cfe_X7_joinsHold : rowG cd_X7_joinsHold = cf_X7_joinsHold := rfl
theorem cfe_X7_work : rowG cd_X7_work = cf_X7_work := rfl
theorem cfe_X7_joined : rowG cd_X7_joined = cf_X7_joined := rfl
theorem cfe_X8_init : rowG cd_X8_init = cf_X8_init := rfl
theorem cfe_X8_shut : rowG cd_X8_shut = cf_X8_shut := rfl
theorem cfe_X8_isShut : rowG cd_X8_isShut = cf_X8_isShut := rfl
theorem cfe_X8_findHits : rowG cd_X8_findHits = cf_X8_findHits := rfl
theorem cfe_X8_mendOf : rowG cd_X8_mendOf = cf_X8_mendOf := rfl
theorem cfe_X8_solve : rowG cd_X8_solve = cf_X8_solve := rfl
theorem cfe_X8_layWays : rowG cd_X8_layWays = cf_X8_layWays := rfl
theorem cfe_X8_findRound : rowG cd_X8_findRound = cf_X8_findRound := rfl
theorem cfe_X8_spreadFrom : rowG cd_X8_spreadFrom = cf_X8_spreadFrom := rfl
theorem cfe_X8_nearerThan : rowG cd_X8_nearerThan = cf_X8_nearerThan := rfl
theorem cfe_X8_tryMends : rowG cd_X8_tryMends = cf_X8_tryMends := rfl
theorem cfe_X8_fits : rowG cd_X8_fits = cf_X8_fits := rfl
theorem cfe_X8_anyFull : rowG cd_X8_anyFull = cf_X8_anyFull := rfl
theorem cfe_X9_init : rowG cd_X9_init = cf_X9_init := rfl
theorem cfe_X9_stepFrom : rowG cd_X9_stepFrom = cf_X9_stepFrom := rfl
theorem cfe_X9_goOf : rowG cd_X9_goOf = cf_X9_goOf := rfl
theorem cfe_X9_goBetween : rowG cd_X9_goBetween = cf_X9_goBetween := rfl
theorem cfe_X9_readWay : rowG cd_X9_readWay = cf_X9_readWay := rfl
theorem cfe_X9_readMove : rowG cd_X9_readMove = cf_X9_readMove := rfl
theorem cfe_X9_lengthen : rowG cd_X9_lengthen = cf_X9_lengthen := rfl
theorem cfe_X9_addTrial : rowG cd_X9_addTrial = cf_X9_addTrial := rfl
theorem cfe_X9_setWay : rowG cd_X9_setWay = cf_X9_setWay := rfl
theorem cfe_X9_wipe : rowG cd_X9_wipe = cf_X9_wipe := rfl
theorem cfe_X9_setStep : rowG cd_X9_setStep = cf_X9_setStep := rfl
theorem cfe_X9_pairUp : rowG cd_X9_pairUp = cf_X9_pairUp := rfl
theorem cfe_X9_meetsOf : rowG cd_X9_meetsOf = cf_X9_meetsOf := rfl
theorem cfe_X9_allMeets : rowG cd_X9_allMeets = cf_X9_allMeets := rfl
theorem cfe_X9_cellAt : rowG cd_X9_cellAt = cf_X9_cellAt := rfl
theorem cfe_X9_setCounts : rowG cd_X9_setCounts = cf_X9_setCounts := rfl
theorem cfe_X9_setSpan : rowG cd_X9_setSpan = cf_X9_setSpan := rfl
theorem cfe_X9_retell : rowG cd_X9_retell = cf_X9_retell := rfl
theorem cfe_X9_mostIn : rowG cd_X9_mostIn = cf_X9_mostIn := rfl
theorem cfe_X9_twinOf : rowG cd_X9_twinOf = cf_X9_twinOf := rfl
theorem cfe_X9_shorterThan : rowG cd_X9_shorterThan = cf_X9_shorterThan := rfl
theorem cfe_X9_shortestStretch : rowG cd_X9_shortestStretch = cf_X9_shortestStretch := rfl
theorem cfe_X9_countsAt : rowG cd_X9_countsAt = cf_X9_countsAt := rfl
theorem cfe_X9_isVisited : rowG cd_X9_isVisited = cf_X9_isVisited := rfl
theorem cfe_X9_comesTo : rowG cd_X9_comesTo = cf_X9_comesTo := rfl
theorem cfe_X9_countsOfSteps : rowG cd_X9_countsOfSteps = cf_X9_countsOfSteps := rfl
theorem cfe_X10_init : rowG cd_X10_init = cf_X10_init := rfl
theorem cfe_X10_takeAll : rowG cd_X10_takeAll = cf_X10_takeAll := rfl
theorem cfe_X10_take : rowG cd_X10_take = cf_X10_take := rfl
theorem cfe_X10_open : rowG cd_X10_open = cf_X10_open := rfl
theorem cfe_X10_step : rowG cd_X10_step = cf_X10_step := rfl
theorem cfe_X10_kindOf : rowG cd_X10_kindOf = cf_X10_kindOf := rfl
theorem cfe_X10_says : rowG cd_X10_says = cf_X10_says := rfl
theorem cfe_X10_refuse : rowG cd_X10_refuse = cf_X10_refuse := rfl
theorem cfe_X10_refuseAt : rowG cd_X10_refuseAt = cf_X10_refuseAt := rfl
theorem cfe_X11_init : rowG cd_X11_init = cf_X11_init := rfl
theorem cfe_X11_feed : rowG cd_X11_feed = cf_X11_feed := rfl
theorem cfe_X11_stream : rowG cd_X11_stream = cf_X11_stream := rfl
theorem cfe_X11_rules : rowG cd_X11_rules = cf_X11_rules := rfl
theorem cfe_X11_fault : rowG cd_X11_fault = cf_X11_fault := rfl
theorem cfe_X11_way : rowG cd_X11_way = cf_X11_way := rfl
theorem cfe_X11_flow : rowG cd_X11_flow = cf_X11_flow := rfl
theorem cfe_X11_span : rowG cd_X11_span = cf_X11_span := rfl
theorem cfe_X11_most : rowG cd_X11_most = cf_X11_most := rfl
theorem cfe_X11_assign : rowG cd_X11_assign = cf_X11_assign := rfl
theorem cfe_X11_paint : rowG cd_X11_paint = cf_X11_paint := rfl
theorem cfe_X11_limit : rowG cd_X11_limit = cf_X11_limit := rfl
theorem cfe_X11_hears : rowG cd_X11_hears = cf_X11_hears := rfl
theorem cfe_X11_peak : rowG cd_X11_peak = cf_X11_peak := rfl
theorem cfe_X11_whole : rowG cd_X11_whole = cf_X11_whole := rfl
theorem cfe_X11_neck : rowG cd_X11_neck = cf_X11_neck := rfl
theorem cfe_X11_shorts : rowG cd_X11_shorts = cf_X11_shorts := rfl
theorem cfe_X11_length : rowG cd_X11_length = cf_X11_length := rfl
theorem cfe_X11_edge : rowG cd_X11_edge = cf_X11_edge := rfl
theorem cfe_X11_holds : rowG cd_X11_holds = cf_X11_holds := rfl
theorem cfe_X11_cost : rowG cd_X11_cost = cf_X11_cost := rfl
theorem cfe_X11_better : rowG cd_X11_better = cf_X11_better := rfl
theorem cfe_X11_grow : rowG cd_X11_grow = cf_X11_grow := rfl
theorem cfe_X11_region : rowG cd_X11_region = cf_X11_region := rfl
theorem cfe_X11_parted : rowG cd_X11_parted = cf_X11_parted := rfl
theorem cfe_X11_clear : rowG cd_X11_clear = cf_X11_clear := rfl
theorem cfe_X11_configure : rowG cd_X11_configure = cf_X11_configure := rfl
theorem cfe_X11_pairs : rowG cd_X11_pairs = cf_X11_pairs := rfl
theorem cfe_X11_busy : rowG cd_X11_busy = cf_X11_busy := rfl
theorem cfe_X11_plan : rowG cd_X11_plan = cf_X11_plan := rfl
theorem cfe_X11_hours : rowG cd_X11_hours = cf_X11_hours := rfl
theorem cfe_X11_ill : rowG cd_X11_ill = cf_X11_ill := rfl
theorem cfe_X11_rota : rowG cd_X11_rota = cf_X11_rota := rfl
theorem cfe_X11_lacks : rowG cd_X11_lacks = cf_X11_lacks := rfl
theorem cfe_X11_enough : rowG cd_X11_enough = cf_X11_enough := rfl
theorem cfe_X11_storm : rowG cd_X11_storm = cf_X11_storm := rfl
theorem cfe_X11_mends : rowG cd_X11_mends = cf_X11_mends := rfl
theorem cfe_X11_did : rowG cd_X11_did = cf_X11_did := rfl
theorem cfe_X11_fit : rowG cd_X11_fit = cf_X11_fit := rfl
theorem cfe_X11_lead : rowG cd_X11_lead = cf_X11_lead := rfl
theorem cfe_X11_worth : rowG cd_X11_worth = cf_X11_worth := rfl
theorem cfe_X11_quiet : rowG cd_X11_quiet = cf_X11_quiet := rfl
theorem cfe_X11_mark : rowG cd_X11_mark = cf_X11_mark := rfl
theorem cfe_X11_back : rowG cd_X11_back = cf_X11_back := rfl
theorem cfe_X11_count : rowG cd_X11_count = cf_X11_count := rfl
theorem cfe_X11_listenTo : rowG cd_X11_listenTo = cf_X11_listenTo := rfl
theorem cfe_X11_needStream : rowG cd_X11_needStream = cf_X11_needStream := rfl
theorem cfe_X11_needCell : rowG cd_X11_needCell = cf_X11_needCell := rfl
theorem cfe_X11_needPiece : rowG cd_X11_needPiece = cf_X11_needPiece := rfl
theorem cfe_X11_needQuarter : rowG cd_X11_needQuarter = cf_X11_needQuarter := rfl
theorem cfe_X11_needWithin : rowG cd_X11_needWithin = cf_X11_needWithin := rfl
theorem cfe_X12_init : rowG cd_X12_init = cf_X12_init := rfl
theorem cfe_X12_thrown : rowG cd_X12_thrown = cf_X12_thrown := rfl
theorem cfe_X12_bad : rowG cd_X12_bad = cf_X12_bad := rfl
theorem cfe_X12_in : rowG cd_X12_in = cf_X12_in := rfl
theorem cfe_X12_amount : rowG cd_X12_amount = cf_X12_amount := rfl
theorem cfe_X12_beside : rowG cd_X12_beside = cf_X12_beside := rfl
theorem cfe_X12_feed : rowG cd_X12_feed = cf_X12_feed := rfl
theorem cfe_X12_byteAt : rowG cd_X12_byteAt = cf_X12_byteAt := rfl
theorem cfe_X12_blanks : rowG cd_X12_blanks = cf_X12_blanks := rfl
theorem cfe_X12_wrong : rowG cd_X12_wrong = cf_X12_wrong := rfl
theorem cfe_X12_isDigit : rowG cd_X12_isDigit = cf_X12_isDigit := rfl
theorem cfe_X12_number : rowG cd_X12_number = cf_X12_number := rfl
theorem cfe_X12_beginText : rowG cd_X12_beginText = cf_X12_beginText := rfl
theorem cfe_X12_isTold : rowG cd_X12_isTold = cf_X12_isTold := rfl
theorem cfe_X12_move : rowG cd_X12_move = cf_X12_move := rfl
theorem cfe_X12_stream : rowG cd_X12_stream = cf_X12_stream := rfl
theorem cfe_X12_wordHere : rowG cd_X12_wordHere = cf_X12_wordHere := rfl
theorem cfe_X12_word : rowG cd_X12_word = cf_X12_word := rfl
theorem cfe_X12_skipWord : rowG cd_X12_skipWord = cf_X12_skipWord := rfl
theorem cfe_X12_sign : rowG cd_X12_sign = cf_X12_sign := rfl
theorem cfe_X12_opens : rowG cd_X12_opens = cf_X12_opens := rfl
theorem cfe_X12_nameHere : rowG cd_X12_nameHere = cf_X12_nameHere := rfl
theorem cfe_X12_unit : rowG cd_X12_unit = cf_X12_unit := rfl
theorem cfe_X12_product : rowG cd_X12_product = cf_X12_product := rfl
theorem cfe_X12_sum : rowG cd_X12_sum = cf_X12_sum := rfl
theorem cfe_X12_test : rowG cd_X12_test = cf_X12_test := rfl
theorem cfe_X12_ands : rowG cd_X12_ands = cf_X12_ands := rfl
theorem cfe_X12_ors : rowG cd_X12_ors = cf_X12_ors := rfl
theorem cfe_X12_clause : rowG cd_X12_clause = cf_X12_clause := rfl
theorem cfe_X12_rules : rowG cd_X12_rules = cf_X12_rules := rfl
theorem cfe_X12_fault : rowG cd_X12_fault = cf_X12_fault := rfl
theorem cfe_X12_readsAt : rowG cd_X12_readsAt = cf_X12_readsAt := rfl
theorem cfe_X12_way : rowG cd_X12_way = cf_X12_way := rfl
theorem cfe_X12_flow : rowG cd_X12_flow = cf_X12_flow := rfl
theorem cfe_X12_span : rowG cd_X12_span = cf_X12_span := rfl
theorem cfe_X12_mostOf : rowG cd_X12_mostOf = cf_X12_mostOf := rfl
theorem cfe_X12_most : rowG cd_X12_most = cf_X12_most := rfl
theorem cfe_X12_asTold : rowG cd_X12_asTold = cf_X12_asTold := rfl
theorem cfe_X12_waysAsTold : rowG cd_X12_waysAsTold = cf_X12_waysAsTold := rfl
theorem cfe_X12_numbersIn : rowG cd_X12_numbersIn = cf_X12_numbersIn := rfl
theorem cfe_X12_stepOf : rowG cd_X12_stepOf = cf_X12_stepOf := rfl
theorem cfe_X12_goes : rowG cd_X12_goes = cf_X12_goes := rfl
theorem cfe_X12_listen : rowG cd_X12_listen = cf_X12_listen := rfl
theorem cfe_X12_load : rowG cd_X12_load = cf_X12_load := rfl
theorem cfe_X12_joinsHold : rowG cd_X12_joinsHold = cf_X12_joinsHold := rfl
theorem cfe_X12_setOf : rowG cd_X12_setOf = cf_X12_setOf := rfl
theorem cfe_X12_peakOfSet : rowG cd_X12_peakOfSet = cf_X12_peakOfSet := rfl
theorem cfe_X12_peakOfPiece : rowG cd_X12_peakOfPiece = cf_X12_peakOfPiece := rfl
theorem cfe_X12_hasCells : rowG cd_X12_hasCells = cf_X12_hasCells := rfl
theorem cfe_X12_assign : rowG cd_X12_assign = cf_X12_assign := rfl
theorem cfe_X12_paint : rowG cd_X12_paint = cf_X12_paint := rfl
theorem cfe_X12_limit : rowG cd_X12_limit = cf_X12_limit := rfl
theorem cfe_X12_hears : rowG cd_X12_hears = cf_X12_hears := rfl
theorem cfe_X12_peak : rowG cd_X12_peak = cf_X12_peak := rfl
theorem cfe_X12_hangs : rowG cd_X12_hangs = cf_X12_hangs := rfl
theorem cfe_X12_isWhole : rowG cd_X12_isWhole = cf_X12_isWhole := rfl
theorem cfe_X12_whole : rowG cd_X12_whole = cf_X12_whole := rfl
theorem cfe_X12_neck : rowG cd_X12_neck = cf_X12_neck := rfl
theorem cfe_X12_shorts : rowG cd_X12_shorts = cf_X12_shorts := rfl
theorem cfe_X12_length : rowG cd_X12_length = cf_X12_length := rfl
theorem cfe_X12_isCrossing : rowG cd_X12_isCrossing = cf_X12_isCrossing := rfl
theorem cfe_X12_edge : rowG cd_X12_edge = cf_X12_edge := rfl
theorem cfe_X12_holds : rowG cd_X12_holds = cf_X12_holds := rfl
theorem cfe_X12_total : rowG cd_X12_total = cf_X12_total := rfl
theorem cfe_X12_stepsCost : rowG cd_X12_stepsCost = cf_X12_stepsCost := rfl
theorem cfe_X12_findPeaks : rowG cd_X12_findPeaks = cf_X12_findPeaks := rfl
theorem cfe_X12_costByPeaks : rowG cd_X12_costByPeaks = cf_X12_costByPeaks := rfl
theorem cfe_X12_costOf : rowG cd_X12_costOf = cf_X12_costOf := rfl
theorem cfe_X12_cost : rowG cd_X12_cost = cf_X12_cost := rfl
theorem cfe_X12_findMove : rowG cd_X12_findMove = cf_X12_findMove := rfl
theorem cfe_X12_tries : rowG cd_X12_tries = cf_X12_tries := rfl
theorem cfe_X12_better : rowG cd_X12_better = cf_X12_better := rfl
theorem cfe_X12_grow : rowG cd_X12_grow = cf_X12_grow := rfl
theorem cfe_X12_region : rowG cd_X12_region = cf_X12_region := rfl
theorem cfe_X12_clear : rowG cd_X12_clear = cf_X12_clear := rfl
theorem cfe_X12_findSets : rowG cd_X12_findSets = cf_X12_findSets := rfl
theorem cfe_X12_parts : rowG cd_X12_parts = cf_X12_parts := rfl
theorem cfe_X12_judges : rowG cd_X12_judges = cf_X12_judges := rfl
theorem cfe_X12_parted : rowG cd_X12_parted = cf_X12_parted := rfl
theorem cfe_X12_configure : rowG cd_X12_configure = cf_X12_configure := rfl
theorem cfe_X12_groupOf : rowG cd_X12_groupOf = cf_X12_groupOf := rfl
theorem cfe_X12_pairsOf : rowG cd_X12_pairsOf = cf_X12_pairsOf := rfl
theorem cfe_X12_pairs : rowG cd_X12_pairs = cf_X12_pairs := rfl
theorem cfe_X12_busy : rowG cd_X12_busy = cf_X12_busy := rfl
theorem cfe_X12_isBusy : rowG cd_X12_isBusy = cf_X12_isBusy := rfl
theorem cfe_X12_findPlan : rowG cd_X12_findPlan = cf_X12_findPlan := rfl
theorem cfe_X12_tells : rowG cd_X12_tells = cf_X12_tells := rfl
theorem cfe_X12_plan : rowG cd_X12_plan = cf_X12_plan := rfl
theorem cfe_X12_hours : rowG cd_X12_hours = cf_X12_hours := rfl
theorem cfe_X12_ill : rowG cd_X12_ill = cf_X12_ill := rfl
theorem cfe_X12_findRota : rowG cd_X12_findRota = cf_X12_findRota := rfl
theorem cfe_X12_rota : rowG cd_X12_rota = cf_X12_rota := rfl
theorem cfe_X12_lacks : rowG cd_X12_lacks = cf_X12_lacks := rfl
theorem cfe_X12_enough : rowG cd_X12_enough = cf_X12_enough := rfl
theorem cfe_X12_storm : rowG cd_X12_storm = cf_X12_storm := rfl
theorem cfe_X12_isHit : rowG cd_X12_isHit = cf_X12_isHit := rfl
theorem cfe_X12_findRound : rowG cd_X12_findRound = cf_X12_findRound := rfl
theorem cfe_X12_minutesOf : rowG cd_X12_minutesOf = cf_X12_minutesOf := rfl
theorem cfe_X12_isNoneFull : rowG cd_X12_isNoneFull = cf_X12_isNoneFull := rfl
theorem cfe_X12_asMended : rowG cd_X12_asMended = cf_X12_asMended := rfl
theorem cfe_X12_goThrough : rowG cd_X12_goThrough = cf_X12_goThrough := rfl
theorem cfe_X12_mends : rowG cd_X12_mends = cf_X12_mends := rfl
theorem cfe_X12_did : rowG cd_X12_did = cf_X12_did := rfl
theorem cfe_X12_offOf : rowG cd_X12_offOf = cf_X12_offOf := rfl
theorem cfe_X12_fit : rowG cd_X12_fit = cf_X12_fit := rfl
theorem cfe_X12_lead : rowG cd_X12_lead = cf_X12_lead := rfl
theorem cfe_X12_worth : rowG cd_X12_worth = cf_X12_worth := rfl
theorem cfe_X12_quiet : rowG cd_X12_quiet = cf_X12_quiet := rfl
theorem cfe_X12_mark : rowG cd_X12_mark = cf_X12_mark := rfl
theorem cfe_X12_back : rowG cd_X12_back = cf_X12_back := rfl
theorem cfe_X12_count : rowG cd_X12_count = cf_X12_count := rfl
theorem cfe_J13_lowestOneBit_067f4 : rowG cd_J13_lowestOneBit_067f4 = cf_J13_lowestOneBit_067f4 := rfl
theorem cfe_J13_bitCount_95d88 : rowG cd_J13_bitCount_95d88 = cf_J13_bitCount_95d88 := rfl
theorem cfe_J7_fill_53178 : rowG cd_J7_fill_53178 = cf_J7_fill_53178 := rfl
theorem cfe_L_stream : rowG cd_L_stream = cf_L_stream := rfl
theorem cfe_L_rules : rowG cd_L_rules = cf_L_rules := rfl
theorem cfe_L_way : rowG cd_L_way = cf_L_way := rfl
theorem cfe_L_flow : rowG cd_L_flow = cf_L_flow := rfl
theorem cfe_L_span : rowG cd_L_span = cf_L_span := rfl
theorem cfe_L_most : rowG cd_L_most = cf_L_most := rfl
theorem cfe_L_assign : rowG cd_L_assign = cf_L_assign := rfl
theorem cfe_L_paint : rowG cd_L_paint = cf_L_paint := rfl
theorem cfe_L_limit : rowG cd_L_limit = cf_L_limit := rfl
theorem cfe_L_hears : rowG cd_L_hears = cf_L_hears := rfl
theorem cfe_L_peak : rowG cd_L_peak = cf_L_peak := rfl
theorem cfe_L_whole : rowG cd_L_whole = cf_L_whole := rfl
theorem cfe_L_neck : rowG cd_L_neck = cf_L_neck := rfl
theorem cfe_L_shorts : rowG cd_L_shorts = cf_L_shorts := rfl
theorem cfe_L_length : rowG cd_L_length = cf_L_length := rfl
theorem cfe_L_edge : rowG cd_L_edge = cf_L_edge := rfl
theorem cfe_L_better : rowG cd_L_better = cf_L_better := rfl
theorem cfe_L_grow : rowG cd_L_grow = cf_L_grow := rfl
theorem cfe_L_region : rowG cd_L_region = cf_L_region := rfl
theorem cfe_L_parted : rowG cd_L_parted = cf_L_parted := rfl
theorem cfe_L_configure : rowG cd_L_configure = cf_L_configure := rfl
theorem cfe_L_pairs : rowG cd_L_pairs = cf_L_pairs := rfl
theorem cfe_L_busy : rowG cd_L_busy = cf_L_busy := rfl
theorem cfe_L_plan : rowG cd_L_plan = cf_L_plan := rfl
theorem cfe_L_hours : rowG cd_L_hours = cf_L_hours := rfl
theorem cfe_L_ill : rowG cd_L_ill = cf_L_ill := rfl
theorem cfe_L_rota : rowG cd_L_rota = cf_L_rota := rfl
theorem cfe_L_lacks : rowG cd_L_lacks = cf_L_lacks := rfl
theorem cfe_L_enough : rowG cd_L_enough = cf_L_enough := rfl
theorem cfe_L_storm : rowG cd_L_storm = cf_L_storm := rfl
theorem cfe_L_mends : rowG cd_L_mends = cf_L_mends := rfl
theorem cfe_L_did : rowG cd_L_did = cf_L_did := rfl
theorem cfe_L_fit : rowG cd_L_fit = cf_L_fit := rfl
theorem cfe_L_lead : rowG cd_L_lead = cf_L_lead := rfl
theorem cfe_L_worth : rowG cd_L_worth = cf_L_worth := rfl
theorem cfe_L_quiet : rowG cd_L_quiet = cf_L_quiet := rfl
theorem cfe_L_law : rowG cd_L_law = cf_L_law := rfl
theorem cfe_all : map3 rowG cdAll = cfAll := by
  unfold map3 cdAll cfAll
  simp only [List.map_cons, List.map_nil, rowG_nil, cdS_0, cdS_1, cdS_2, cdS_3, cdS_4, cdS_5, cdS_6, cdS_7, cdS_8, cdS_9, cdS_10, cdS_11, cdS_12, cdS_13, cdS_14, cdS_15, cdS_16, cdS_17, cdS_18, cdS_19, cdS_20, cdS_21, cfe_X0_init, cfe_X0_listen, cfe_X0_followSteps, cfe_X0_hear, cfe_X0_loadAt, cfe_X0_findPeak, cfe_X0_keptCounts, cfe_X0_overInAll, cfe_X0_leadAt, cfe_X0_aheadOf, cfe_X1_init, cfe_X1_add, cfe_X1_solve, cfe_X1_offBack, cfe_X1_anyRow, cfe_X1_nextTrial, cfe_X1_offOf, cfe_X2_init, cfe_X2_stands, cfe_X2_isWhole, cfe_X2_measure, cfe_X2_weigh, cfe_X2_priceNow, cfe_X2_seek, cfe_X2_mayMatter, cfe_X2_tryCell, cfe_X2_compare, cfe_X3_init, cfe_X3_put, cfe_X3_putAll, cfe_X3_hasCells, cfe_X3_countPieces, cfe_X3_countShut, cfe_X3_beside, cfe_X3_hangs, cfe_X3_reaches, cfe_X3_neckAt, cfe_X3_hangsWithout, cfe_X3_countAtEdge, cfe_X3_piecesBeside, cfe_X3_keepMark, cfe_X3_goBack, cfe_X4_init, cfe_X4_add, cfe_X4_needAt, cfe_X4_judge, cfe_X4_judgeGroup, cfe_X4_addLoads, cfe_X4_solve, cfe_X4_placeOf, cfe_X4_fewestBehind, cfe_X4_choose, cfe_X4_nextOf, cfe_X5_init, cfe_X5_add, cfe_X5_solve, cfe_X5_hearSubset, cfe_X5_place, cfe_X5_compare, cfe_X6_init, cfe_X6_setWork, cfe_X6_setRest, cfe_X6_run, cfe_X6_mayGoOn, cfe_X6_mayBegin, cfe_X6_fewestOf, cfe_X6_settle, cfe_X7_init, cfe_X7_read, cfe_X7_adopt, cfe_X7_beginOf, cfe_X7_readClause, cfe_X7_readEither, cfe_X7_readBoth, cfe_X7_readTest, cfe_X7_readSum, cfe_X7_readProduct, cfe_X7_readUnit, cfe_X7_readOfTwo, cfe_X7_codeOfName, cfe_X7_enter, cfe_X7_pass, cfe_X7_put, cfe_X7_joinsHold, cfe_X7_work, cfe_X7_joined, cfe_X8_init, cfe_X8_shut, cfe_X8_isShut, cfe_X8_findHits, cfe_X8_mendOf, cfe_X8_solve, cfe_X8_layWays, cfe_X8_findRound, cfe_X8_spreadFrom, cfe_X8_nearerThan, cfe_X8_tryMends, cfe_X8_fits, cfe_X8_anyFull, cfe_X9_init, cfe_X9_stepFrom, cfe_X9_goOf, cfe_X9_goBetween, cfe_X9_readWay, cfe_X9_readMove, cfe_X9_lengthen, cfe_X9_addTrial, cfe_X9_setWay, cfe_X9_wipe, cfe_X9_setStep, cfe_X9_pairUp, cfe_X9_meetsOf, cfe_X9_allMeets, cfe_X9_cellAt, cfe_X9_setCounts, cfe_X9_setSpan, cfe_X9_retell, cfe_X9_mostIn, cfe_X9_twinOf, cfe_X9_shorterThan, cfe_X9_shortestStretch, cfe_X9_countsAt, cfe_X9_isVisited, cfe_X9_comesTo, cfe_X9_countsOfSteps, cfe_X10_init, cfe_X10_takeAll, cfe_X10_take, cfe_X10_open, cfe_X10_step, cfe_X10_kindOf, cfe_X10_says, cfe_X10_refuse, cfe_X10_refuseAt, cfe_X11_init, cfe_X11_feed, cfe_X11_stream, cfe_X11_rules, cfe_X11_fault, cfe_X11_way, cfe_X11_flow, cfe_X11_span, cfe_X11_most, cfe_X11_assign, cfe_X11_paint, cfe_X11_limit, cfe_X11_hears, cfe_X11_peak, cfe_X11_whole, cfe_X11_neck, cfe_X11_shorts, cfe_X11_length, cfe_X11_edge, cfe_X11_holds, cfe_X11_cost, cfe_X11_better, cfe_X11_grow, cfe_X11_region, cfe_X11_parted, cfe_X11_clear, cfe_X11_configure, cfe_X11_pairs, cfe_X11_busy, cfe_X11_plan, cfe_X11_hours, cfe_X11_ill, cfe_X11_rota, cfe_X11_lacks, cfe_X11_enough, cfe_X11_storm, cfe_X11_mends, cfe_X11_did, cfe_X11_fit, cfe_X11_lead, cfe_X11_worth, cfe_X11_quiet, cfe_X11_mark, cfe_X11_back, cfe_X11_count, cfe_X11_listenTo, cfe_X11_needStream, cfe_X11_needCell, cfe_X11_needPiece, cfe_X11_needQuarter, cfe_X11_needWithin, cfe_X12_init, cfe_X12_thrown, cfe_X12_bad, cfe_X12_in, cfe_X12_amount, cfe_X12_beside, cfe_X12_feed, cfe_X12_byteAt, cfe_X12_blanks, cfe_X12_wrong, cfe_X12_isDigit, cfe_X12_number, cfe_X12_beginText, cfe_X12_isTold, cfe_X12_move, cfe_X12_stream, cfe_X12_wordHere, cfe_X12_word, cfe_X12_skipWord, cfe_X12_sign, cfe_X12_opens, cfe_X12_nameHere, cfe_X12_unit, cfe_X12_product, cfe_X12_sum, cfe_X12_test, cfe_X12_ands, cfe_X12_ors, cfe_X12_clause, cfe_X12_rules, cfe_X12_fault, cfe_X12_readsAt, cfe_X12_way, cfe_X12_flow, cfe_X12_span, cfe_X12_mostOf, cfe_X12_most, cfe_X12_asTold, cfe_X12_waysAsTold, cfe_X12_numbersIn, cfe_X12_stepOf, cfe_X12_goes, cfe_X12_listen, cfe_X12_load, cfe_X12_joinsHold, cfe_X12_setOf, cfe_X12_peakOfSet, cfe_X12_peakOfPiece, cfe_X12_hasCells, cfe_X12_assign, cfe_X12_paint, cfe_X12_limit, cfe_X12_hears, cfe_X12_peak, cfe_X12_hangs, cfe_X12_isWhole, cfe_X12_whole, cfe_X12_neck, cfe_X12_shorts, cfe_X12_length, cfe_X12_isCrossing, cfe_X12_edge, cfe_X12_holds, cfe_X12_total, cfe_X12_stepsCost, cfe_X12_findPeaks, cfe_X12_costByPeaks, cfe_X12_costOf, cfe_X12_cost, cfe_X12_findMove, cfe_X12_tries, cfe_X12_better, cfe_X12_grow, cfe_X12_region, cfe_X12_clear, cfe_X12_findSets, cfe_X12_parts, cfe_X12_judges, cfe_X12_parted, cfe_X12_configure, cfe_X12_groupOf, cfe_X12_pairsOf, cfe_X12_pairs, cfe_X12_busy, cfe_X12_isBusy, cfe_X12_findPlan, cfe_X12_tells, cfe_X12_plan, cfe_X12_hours, cfe_X12_ill, cfe_X12_findRota, cfe_X12_rota, cfe_X12_lacks, cfe_X12_enough, cfe_X12_storm, cfe_X12_isHit, cfe_X12_findRound, cfe_X12_minutesOf, cfe_X12_isNoneFull, cfe_X12_asMended, cfe_X12_goThrough, cfe_X12_mends, cfe_X12_did, cfe_X12_offOf, cfe_X12_fit, cfe_X12_lead, cfe_X12_worth, cfe_X12_quiet, cfe_X12_mark, cfe_X12_back, cfe_X12_count, cfe_J13_lowestOneBit_067f4, cfe_J13_bitCount_95d88, cfe_J7_fill_53178, cfe_L_stream, cfe_L_rules, cfe_L_way, cfe_L_flow, cfe_L_span, cfe_L_most, cfe_L_assign, cfe_L_paint, cfe_L_limit, cfe_L_hears, cfe_L_peak, cfe_L_whole, cfe_L_neck, cfe_L_shorts, cfe_L_length, cfe_L_edge, cfe_L_better, cfe_L_grow, cfe_L_region, cfe_L_parted, cfe_L_configure, cfe_L_pairs, cfe_L_busy, cfe_L_plan, cfe_L_hours, cfe_L_ill, cfe_L_rota, cfe_L_lacks, cfe_L_enough, cfe_L_storm, cfe_L_mends, cfe_L_did, cfe_L_fit, cfe_L_lead, cfe_L_worth, cfe_L_quiet, cfe_L_law]
theorem cf_ok {mn pc : Nat} {f : AF} (h : cfA mn pc = some f) : ∃ r, cdA mn pc = some r ∧ f = rowF r := by
  unfold cfA at h
  unfold cdA
  rw [← cfe_all, map3_t3] at h
  cases h1 : t3 cdAll mn with
  | none => rw [h1] at h; cases h
  | some l =>
    rw [h1] at h
    replace h : (match t3 (rowG l) pc with | some r => r | none => none) = some f := h
    unfold rowG at h
    rw [map3_t3] at h
    show ∃ r, (match t3 l pc with | some r => r | none => none) = some r ∧ f = rowF r
    cases h2 : t3 l pc with
    | none => rw [h2] at h; cases h
    | some o =>
      rw [h2] at h
      cases o with
      | none => cases h
      | some r =>
        cases h
        exact ⟨r, rfl, rfl⟩
