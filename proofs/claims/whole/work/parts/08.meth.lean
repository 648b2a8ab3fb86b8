abbrev M_X2_init : zM := (yX2_init, cX2_init, 1, none, [], ⟨1, 2, 153, 20⟩)
abbrev M_X2_append : zM := (yX2_append, cX2_append, 2, (some .boolean), [], ⟨0, 0, 0, 0⟩)
abbrev M_X2_findFault : zM := (yX2_findFault, cX2_findFault, 3, (some .int), [], ⟨9, 0, 0, 187⟩)
abbrev M_X2_rewind : zM := (yX2_rewind, cX2_rewind, 1, none, [], ⟨0, 0, 0, 0⟩)
abbrev M_X2_readCommand : zM := (yX2_readCommand, cX2_readCommand, 3, (some (.object "SlackRows$Command")), [], ⟨8, 0, 0, 165⟩)
abbrev M_X2_peek : zM := (yX2_peek, cX2_peek, 1, (some .int), [], ⟨0, 0, 0, 0⟩)
abbrev M_X2_isAtLetter : zM := (yX2_isAtLetter, cX2_isAtLetter, 1, (some .boolean), [], ⟨1, 0, 0, 22⟩)
abbrev M_X2_isAtDigit : zM := (yX2_isAtDigit, cX2_isAtDigit, 1, (some .boolean), [], ⟨1, 0, 0, 22⟩)
abbrev M_X2_skipSpaces : zM := (yX2_skipSpaces, cX2_skipSpaces, 2, (some .boolean), [], ⟨1, 0, 0, 20⟩)
abbrev M_X2_readWord : zM := (yX2_readWord, cX2_readWord, 3, (some (.object "SlackRows$Command")), [], ⟨7, 0, 0, 143⟩)
abbrev M_X2_isWordAt : zM := (yX2_isWordAt, cX2_isWordAt, 4, (some .boolean), [], ⟨6, 0, 0, 120⟩)
abbrev M_X2_readNumbers : zM := (yX2_readNumbers, cX2_readNumbers, 3, (some .boolean), [], ⟨3, 0, 0, 64⟩)
abbrev M_X2_readDigits : zM := (yX2_readDigits, cX2_readDigits, 3, (some .int), [], ⟨2, 0, 0, 42⟩)
abbrev M_X2_readSemicolon : zM := (yX2_readSemicolon, cX2_readSemicolon, 1, (some .boolean), [], ⟨2, 0, 0, 41⟩)
abbrev M_X3_init : zM := (yX3_init, cX3_init, 1, none, [], ⟨1, 1, 4, 20⟩)
abbrev M_X3_copyFrom : zM := (yX3_copyFrom, cX3_copyFrom, 2, none, [], ⟨0, 0, 0, 0⟩)
abbrev M_X3_isCritical : zM := (yX3_isCritical, cX3_isCritical, 1, (some .boolean), [], ⟨0, 0, 0, 0⟩)
abbrev M_X3_isCriticalTask : zM := (yX3_isCriticalTask, cX3_isCriticalTask, 1, (some .boolean), [], ⟨1, 0, 0, 20⟩)
abbrev M_X3_runsAt : zM := (yX3_runsAt, cX3_runsAt, 2, (some .boolean), [], ⟨0, 0, 0, 0⟩)
abbrev M_X3_standsIn : zM := (yX3_standsIn, cX3_standsIn, 3, (some .boolean), [], ⟨0, 0, 0, 0⟩)
abbrev M_X3_isWithin : zM := (yX3_isWithin, cX3_isWithin, 3, (some .boolean), [], ⟨0, 0, 0, 0⟩)
abbrev M_X3_whyNotTo : zM := (yX3_whyNotTo, cX3_whyNotTo, 2, (some .int), [], ⟨1, 0, 0, 22⟩)
abbrev M_X3_rowLength : zM := (yX3_rowLength, cX3_rowLength, 2, (some .int), [], ⟨0, 0, 0, 0⟩)
abbrev M_X3_lengthenRow : zM := (yX3_lengthenRow, cX3_lengthenRow, 3, none, [], ⟨0, 0, 0, 0⟩)
abbrev M_X3_longestRowBut : zM := (yX3_longestRowBut, cX3_longestRowBut, 4, (some .int), [], ⟨1, 0, 0, 21⟩)
abbrev M_X3_reserveWith : zM := (yX3_reserveWith, cX3_reserveWith, 3, (some .int), [], ⟨1, 0, 0, 21⟩)
abbrev M_X3_lengthWith : zM := (yX3_lengthWith, cX3_lengthWith, 2, (some .int), [], ⟨2, 0, 0, 43⟩)
abbrev M_X3_endIfLength : zM := (yX3_endIfLength, cX3_endIfLength, 6, (some .int), [], ⟨2, 0, 0, 44⟩)
abbrev M_X3_value : zM := (yX3_value, cX3_value, 2, (some .int), [], ⟨1, 0, 0, 20⟩)
abbrev M_X5_init : zM := (yX5_init, cX5_init, 2, none, [], ⟨2, 50, 504, 40⟩)
abbrev M_X5_copyFrom : zM := (yX5_copyFrom, cX5_copyFrom, 3, none, [], ⟨1, 0, 0, 21⟩)
abbrev M_X5_find : zM := (yX5_find, cX5_find, 3, (some (.object "SlackRows$Node")), [], ⟨0, 0, 0, 0⟩)
abbrev M_X5_plan : zM := (yX5_plan, cX5_plan, 2, none, [], ⟨3, 0, 0, 66⟩)
abbrev M_X5_findOrder : zM := (yX5_findOrder, cX5_findOrder, 6, none, [], ⟨1, 0, 0, 24⟩)
abbrev M_X5_findAhead : zM := (yX5_findAhead, cX5_findAhead, 5, (some (.object "SlackRows$Node")), [], ⟨0, 0, 0, 0⟩)
abbrev M_X5_measureLengths : zM := (yX5_measureLengths, cX5_measureLengths, 3, none, [], ⟨2, 0, 0, 44⟩)
abbrev M_X5_tellTimes : zM := (yX5_tellTimes, cX5_tellTimes, 4, none, [], ⟨1, 0, 0, 21⟩)
abbrev M_X5_refusal : zM := (yX5_refusal, cX5_refusal, 6, (some (.object "SlackRows$Refusal")), [], ⟨4, 0, 0, 87⟩)
abbrev M_X5_areInRange : zM := (yX5_areInRange, cX5_areInRange, 3, (some .boolean), [], ⟨1, 0, 0, 22⟩)
abbrev M_X5_isPossible : zM := (yX5_isPossible, cX5_isPossible, 4, (some .boolean), [], ⟨3, 0, 0, 64⟩)
abbrev M_X5_canMoveTo : zM := (yX5_canMoveTo, cX5_canMoveTo, 2, (some .boolean), [], ⟨2, 0, 0, 43⟩)
abbrev M_X5_carryOut : zM := (yX5_carryOut, cX5_carryOut, 6, (some .int), [], ⟨5, 0, 0, 113⟩)
abbrev M_X5_addNode : zM := (yX5_addNode, cX5_addNode, 6, (some .int), [], ⟨4, 0, 0, 87⟩)
abbrev M_X5_putLast : zM := (yX5_putLast, cX5_putLast, 7, (some .int), [], ⟨4, 0, 0, 87⟩)
abbrev M_X5_dropAll : zM := (yX5_dropAll, cX5_dropAll, 5, (some .int), [], ⟨4, 0, 0, 87⟩)
abbrev M_X5_changeDuration : zM := (yX5_changeDuration, cX5_changeDuration, 3, (some .int), [], ⟨4, 0, 0, 87⟩)
abbrev M_X5_changeReserve : zM := (yX5_changeReserve, cX5_changeReserve, 3, (some .int), [], ⟨4, 0, 0, 87⟩)
abbrev M_X5_end : zM := (yX5_end, cX5_end, 1, (some .int), [], ⟨0, 0, 0, 0⟩)
abbrev M_X5_lateness : zM := (yX5_lateness, cX5_lateness, 1, (some .int), [], ⟨1, 0, 0, 21⟩)
abbrev M_X5_value : zM := (yX5_value, cX5_value, 2, (some .int), [], ⟨4, 0, 0, 91⟩)
abbrev M_X5_countTasks : zM := (yX5_countTasks, cX5_countTasks, 3, (some .int), [], ⟨0, 0, 0, 0⟩)
abbrev M_X5_countCriticalTasks : zM := (yX5_countCriticalTasks, cX5_countCriticalTasks, 3, (some .int), [], ⟨2, 0, 0, 40⟩)
abbrev M_X5_countCriticalRows : zM := (yX5_countCriticalRows, cX5_countCriticalRows, 4, (some .int), [], ⟨3, 0, 0, 68⟩)
abbrev M_X5_sumOfDurations : zM := (yX5_sumOfDurations, cX5_sumOfDurations, 3, (some .int), [], ⟨0, 0, 0, 0⟩)
abbrev M_X5_sumOfReserves : zM := (yX5_sumOfReserves, cX5_sumOfReserves, 3, (some .int), [], ⟨0, 0, 0, 0⟩)
abbrev M_X5_mostRunning : zM := (yX5_mostRunning, cX5_mostRunning, 3, (some .int), [], ⟨2, 0, 0, 44⟩)
abbrev M_X5_countRunning : zM := (yX5_countRunning, cX5_countRunning, 4, (some .int), [], ⟨1, 0, 0, 21⟩)
abbrev M_X5_rowValue : zM := (yX5_rowValue, cX5_rowValue, 4, (some .int), [], ⟨3, 0, 0, 68⟩)
abbrev M_X5_countChildren : zM := (yX5_countChildren, cX5_countChildren, 5, (some .int), [], ⟨1, 0, 0, 22⟩)
abbrev M_X5_isCriticalRow : zM := (yX5_isCriticalRow, cX5_isCriticalRow, 3, (some .boolean), [], ⟨2, 0, 0, 46⟩)
abbrev M_X5_childNumber : zM := (yX5_childNumber, cX5_childNumber, 6, (some .int), [], ⟨1, 0, 0, 22⟩)
abbrev M_X5_criticalNumber : zM := (yX5_criticalNumber, cX5_criticalNumber, 4, (some .int), [], ⟨3, 0, 0, 65⟩)
abbrev M_X5_nextCritical : zM := (yX5_nextCritical, cX5_nextCritical, 6, (some (.object "SlackRows$Node")), [], ⟨2, 0, 0, 40⟩)
abbrev M_X5_startsBefore : zM := (yX5_startsBefore, cX5_startsBefore, 2, (some .boolean), [], ⟨0, 0, 0, 0⟩)
abbrev M_X5_nextNumbered : zM := (yX5_nextNumbered, cX5_nextNumbered, 5, (some (.object "SlackRows$Node")), [], ⟨0, 0, 0, 0⟩)
abbrev M_X5_greatestDuration : zM := (yX5_greatestDuration, cX5_greatestDuration, 3, (some .int), [], ⟨3, 0, 0, 69⟩)
abbrev M_X5_cutNumber : zM := (yX5_cutNumber, cX5_cutNumber, 4, (some .int), [], ⟨3, 0, 0, 69⟩)
abbrev M_X5_slackIfBorrowed : zM := (yX5_slackIfBorrowed, cX5_slackIfBorrowed, 5, (some .int), [], ⟨4, 0, 0, 87⟩)
abbrev M_X5_mixNodes : zM := (yX5_mixNodes, cX5_mixNodes, 7, (some .long), [], ⟨5, 0, 0, 117⟩)
abbrev M_X5_mixNode : zM := (yX5_mixNode, cX5_mixNode, 7, (some .long), [], ⟨4, 0, 0, 91⟩)
abbrev M_X5_mixCritical : zM := (yX5_mixCritical, cX5_mixCritical, 7, (some .long), [], ⟨3, 0, 0, 65⟩)
abbrev M_X6_init : zM := (yX6_init, cX6_init, 2, none, [], ⟨3, 259, 2711, 61⟩)
abbrev M_X6_addGroup : zM := (yX6_addGroup, cX6_addGroup, 3, (some .int), [], ⟨8, 3, 18, 162⟩)
abbrev M_X6_addTask : zM := (yX6_addTask, cX6_addTask, 4, (some .int), [], ⟨8, 3, 18, 162⟩)
abbrev M_X6_move : zM := (yX6_move, cX6_move, 4, (some .int), [], ⟨8, 3, 18, 162⟩)
abbrev M_X6_remove : zM := (yX6_remove, cX6_remove, 2, (some .int), [], ⟨8, 3, 18, 162⟩)
abbrev M_X6_setDuration : zM := (yX6_setDuration, cX6_setDuration, 3, (some .int), [], ⟨8, 3, 18, 162⟩)
abbrev M_X6_borrow : zM := (yX6_borrow, cX6_borrow, 3, (some .int), [], ⟨8, 3, 18, 162⟩)
abbrev M_X6_giveBack : zM := (yX6_giveBack, cX6_giveBack, 3, (some .int), [], ⟨8, 3, 18, 162⟩)
abbrev M_X6_setDeadline : zM := (yX6_setDeadline, cX6_setDeadline, 2, (some .int), [], ⟨8, 3, 18, 162⟩)
abbrev M_X6_node : zM := (yX6_node, cX6_node, 4, (some .int), [], ⟨7, 2, 12, 112⟩)
abbrev M_X6_row : zM := (yX6_row, cX6_row, 5, (some .int), [], ⟨7, 4, 24, 112⟩)
abbrev M_X6_child : zM := (yX6_child, cX6_child, 5, (some .int), [], ⟨7, 4, 24, 112⟩)
abbrev M_X6_critical : zM := (yX6_critical, cX6_critical, 2, (some .int), [], ⟨7, 1, 6, 110⟩)
abbrev M_X6_running : zM := (yX6_running, cX6_running, 2, (some .int), [], ⟨7, 1, 6, 110⟩)
abbrev M_X6_whole : zM := (yX6_whole, cX6_whole, 2, (some .int), [], ⟨7, 1, 6, 133⟩)
abbrev M_X6_endWith : zM := (yX6_endWith, cX6_endWith, 4, (some .int), [], ⟨7, 3, 18, 112⟩)
abbrev M_X6_growsTo : zM := (yX6_growsTo, cX6_growsTo, 3, (some .int), [], ⟨7, 2, 12, 112⟩)
abbrev M_X6_bestCut : zM := (yX6_bestCut, cX6_bestCut, 1, (some .int), [], ⟨4, 0, 0, 92⟩)
abbrev M_X6_slackIf : zM := (yX6_slackIf, cX6_slackIf, 5, (some .int), [], ⟨7, 3, 18, 112⟩)
abbrev M_X6_reason : zM := (yX6_reason, cX6_reason, 3, (some .int), [], ⟨7, 2, 12, 112⟩)
abbrev M_X6_type : zM := (yX6_type, cX6_type, 2, (some .int), [], ⟨7, 2, 12, 112⟩)
abbrev M_X6_clearCommands : zM := (yX6_clearCommands, cX6_clearCommands, 2, (some .int), [], ⟨0, 0, 0, 0⟩)
abbrev M_X6_runCommands : zM := (yX6_runCommands, cX6_runCommands, 2, (some .int), [], ⟨10, 0, 0, 212⟩)
abbrev M_X6_undo : zM := (yX6_undo, cX6_undo, 3, (some .int), [], ⟨6, 1, 6, 90⟩)
abbrev M_X6_digest : zM := (yX6_digest, cX6_digest, 4, (some .long), [], ⟨6, 0, 0, 143⟩)
abbrev M_X6_mix : zM := (yX6_mix, cX6_mix, 3, (some .long), [], ⟨0, 0, 0, 0⟩)
abbrev M_X6_isBetween : zM := (yX6_isBetween, cX6_isBetween, 3, (some .boolean), [], ⟨0, 0, 0, 0⟩)
abbrev M_X6_existing : zM := (yX6_existing, cX6_existing, 3, (some (.object "SlackRows$Node")), [], ⟨6, 1, 6, 90⟩)
abbrev M_X6_requireRange : zM := (yX6_requireRange, cX6_requireRange, 3, none, [], ⟨6, 1, 6, 90⟩)
abbrev M_X6_requireNotNegative : zM := (yX6_requireNotNegative, cX6_requireNotNegative, 1, none, [], ⟨6, 1, 6, 90⟩)
abbrev M_X6_requireGroup : zM := (yX6_requireGroup, cX6_requireGroup, 1, none, [], ⟨6, 1, 6, 90⟩)
abbrev M_X6_requireTask : zM := (yX6_requireTask, cX6_requireTask, 1, none, [], ⟨6, 1, 6, 90⟩)
abbrev M_X6_requireAllowed : zM := (yX6_requireAllowed, cX6_requireAllowed, 1, none, [], ⟨6, 3, 18, 90⟩)
abbrev M_X6_change : zM := (yX6_change, cX6_change, 5, (some .int), [], ⟨7, 3, 18, 138⟩)
abbrev M_X6_save : zM := (yX6_save, cX6_save, 3, none, [], ⟨2, 0, 0, 43⟩)
abbrev M_X6_runFaultless : zM := (yX6_runFaultless, cX6_runFaultless, 6, (some .int), [], ⟨9, 0, 0, 187⟩)
abbrev M_X6_wholeValue : zM := (yX6_wholeValue, cX6_wholeValue, 2, (some .int), [], ⟨5, 0, 0, 112⟩)
abbrev M_X7_init : zM := (yX7_init, cX7_init, 1, none, [], ⟨1, 10, 1347, 20⟩)
abbrev M_X7_in : zM := (yX7_in, cX7_in, 3, (some .boolean), [], ⟨0, 0, 0, 0⟩)
abbrev M_X7_copies : zM := (yX7_copies, cX7_copies, 4, none, [], ⟨0, 0, 0, 0⟩)
abbrev M_X7_saves : zM := (yX7_saves, cX7_saves, 2, none, [], ⟨1, 0, 0, 23⟩)
abbrev M_X7_of : zM := (yX7_of, cX7_of, 3, (some .int), [], ⟨0, 0, 0, 0⟩)
abbrev M_X7_set : zM := (yX7_set, cX7_set, 4, none, [], ⟨0, 0, 0, 0⟩)
abbrev M_X7_find : zM := (yX7_find, cX7_find, 3, (some .int), [], ⟨1, 0, 0, 22⟩)
abbrev M_X7_isTask : zM := (yX7_isTask, cX7_isTask, 2, (some .boolean), [], ⟨2, 0, 0, 44⟩)
abbrev M_X7_thrown : zM := (yX7_thrown, cX7_thrown, 1, (some .int), [], ⟨0, 0, 0, 0⟩)
abbrev M_X7_isRefused : zM := (yX7_isRefused, cX7_isRefused, 2, (some .boolean), [], ⟨0, 0, 0, 0⟩)
abbrev M_X7_isBarred : zM := (yX7_isBarred, cX7_isBarred, 2, (some .boolean), [], ⟨1, 0, 0, 21⟩)
abbrev M_X7_isIn : zM := (yX7_isIn, cX7_isIn, 4, (some .boolean), [], ⟨1, 0, 0, 22⟩)
abbrev M_X7_rowLength : zM := (yX7_rowLength, cX7_rowLength, 5, (some .int), [], ⟨2, 0, 0, 45⟩)
abbrev M_X7_layOrder : zM := (yX7_layOrder, cX7_layOrder, 5, none, [], ⟨1, 0, 0, 22⟩)
abbrev M_X7_lengthOf : zM := (yX7_lengthOf, cX7_lengthOf, 5, (some .int), [], ⟨3, 0, 0, 69⟩)
abbrev M_X7_rowSlack : zM := (yX7_rowSlack, cX7_rowSlack, 3, (some .int), [], ⟨3, 0, 0, 69⟩)
abbrev M_X7_layTimes : zM := (yX7_layTimes, cX7_layTimes, 6, none, [], ⟨4, 0, 0, 91⟩)
abbrev M_X7_lay : zM := (yX7_lay, cX7_lay, 2, none, [], ⟨5, 0, 0, 116⟩)
abbrev M_X7_end : zM := (yX7_end, cX7_end, 1, (some .int), [], ⟨6, 0, 0, 137⟩)
abbrev M_X7_lateness : zM := (yX7_lateness, cX7_lateness, 2, (some .int), [], ⟨7, 0, 0, 157⟩)
abbrev M_X7_childrenOf : zM := (yX7_childrenOf, cX7_childrenOf, 5, (some .int), [], ⟨2, 0, 0, 45⟩)
abbrev M_X7_whyNotAdd : zM := (yX7_whyNotAdd, cX7_whyNotAdd, 4, (some .int), [], ⟨3, 0, 0, 65⟩)
abbrev M_X7_adds : zM := (yX7_adds, cX7_adds, 7, (some .int), [], ⟨3, 0, 0, 69⟩)
abbrev M_X7_addGroup : zM := (yX7_addGroup, cX7_addGroup, 3, (some .int), [], ⟨4, 0, 0, 95⟩)
abbrev M_X7_addTask : zM := (yX7_addTask, cX7_addTask, 4, (some .int), [], ⟨4, 0, 0, 95⟩)
abbrev M_X7_isBelow : zM := (yX7_isBelow, cX7_isBelow, 4, (some .boolean), [], ⟨2, 0, 0, 44⟩)
abbrev M_X7_reasonOf : zM := (yX7_reasonOf, cX7_reasonOf, 3, (some .int), [], ⟨3, 0, 0, 67⟩)
abbrev M_X7_whyNotMove : zM := (yX7_whyNotMove, cX7_whyNotMove, 4, (some .int), [], ⟨4, 0, 0, 89⟩)
abbrev M_X7_leaves : zM := (yX7_leaves, cX7_leaves, 5, none, [], ⟨2, 0, 0, 45⟩)
abbrev M_X7_moves : zM := (yX7_moves, cX7_moves, 6, (some .int), [], ⟨3, 0, 0, 69⟩)
abbrev M_X7_move : zM := (yX7_move, cX7_move, 4, (some .int), [], ⟨5, 0, 0, 112⟩)
abbrev M_X7_whyNotRemove : zM := (yX7_whyNotRemove, cX7_whyNotRemove, 2, (some .int), [], ⟨2, 0, 0, 44⟩)
abbrev M_X7_removes : zM := (yX7_removes, cX7_removes, 6, (some .int), [], ⟨3, 0, 0, 69⟩)
abbrev M_X7_remove : zM := (yX7_remove, cX7_remove, 2, (some .int), [], ⟨4, 0, 0, 94⟩)
abbrev M_X7_whyNotTask : zM := (yX7_whyNotTask, cX7_whyNotTask, 3, (some .int), [], ⟨3, 0, 0, 65⟩)
abbrev M_X7_lasts : zM := (yX7_lasts, cX7_lasts, 6, none, [], ⟨2, 0, 0, 44⟩)
abbrev M_X7_setDuration : zM := (yX7_setDuration, cX7_setDuration, 3, (some .int), [], ⟨7, 0, 0, 157⟩)
abbrev M_X7_slackOf : zM := (yX7_slackOf, cX7_slackOf, 2, (some .int), [], ⟨6, 0, 0, 137⟩)
abbrev M_X7_whyNotBorrow : zM := (yX7_whyNotBorrow, cX7_whyNotBorrow, 4, (some .int), [], ⟨7, 0, 0, 158⟩)
abbrev M_X7_whyNotBack : zM := (yX7_whyNotBack, cX7_whyNotBack, 4, (some .int), [], ⟨4, 0, 0, 87⟩)
abbrev M_X7_reserves : zM := (yX7_reserves, cX7_reserves, 4, (some .int), [], ⟨2, 0, 0, 44⟩)
abbrev M_X7_borrow : zM := (yX7_borrow, cX7_borrow, 3, (some .int), [], ⟨8, 0, 0, 181⟩)
abbrev M_X7_giveBack : zM := (yX7_giveBack, cX7_giveBack, 3, (some .int), [], ⟨5, 0, 0, 110⟩)
abbrev M_X7_whyNotUntil : zM := (yX7_whyNotUntil, cX7_whyNotUntil, 1, (some .int), [], ⟨1, 0, 0, 22⟩)
abbrev M_X7_setDeadline : zM := (yX7_setDeadline, cX7_setDeadline, 2, (some .int), [], ⟨8, 0, 0, 178⟩)
abbrev M_X7_nodeValue : zM := (yX7_nodeValue, cX7_nodeValue, 4, (some .int), [], ⟨4, 0, 0, 91⟩)
abbrev M_X7_node : zM := (yX7_node, cX7_node, 3, (some .int), [], ⟨6, 0, 0, 137⟩)
abbrev M_X7_isCriticalRow : zM := (yX7_isCriticalRow, cX7_isCriticalRow, 3, (some .boolean), [], ⟨4, 0, 0, 91⟩)
abbrev M_X7_whyNotRow : zM := (yX7_whyNotRow, cX7_whyNotRow, 3, (some .int), [], ⟨3, 0, 0, 65⟩)
abbrev M_X7_rowValue : zM := (yX7_rowValue, cX7_rowValue, 4, (some .int), [], ⟨5, 0, 0, 113⟩)
abbrev M_X7_row : zM := (yX7_row, cX7_row, 4, (some .int), [], ⟨6, 0, 0, 137⟩)
abbrev M_X7_child : zM := (yX7_child, cX7_child, 5, (some .int), [], ⟨4, 0, 0, 87⟩)
abbrev M_X7_layCritical : zM := (yX7_layCritical, cX7_layCritical, 4, (some .int), [], ⟨6, 0, 0, 137⟩)
abbrev M_X7_critical : zM := (yX7_critical, cX7_critical, 3, (some .int), [], ⟨7, 0, 0, 160⟩)
abbrev M_X7_runningAt : zM := (yX7_runningAt, cX7_runningAt, 4, (some .int), [], ⟨1, 0, 0, 22⟩)
abbrev M_X7_running : zM := (yX7_running, cX7_running, 2, (some .int), [], ⟨6, 0, 0, 137⟩)
abbrev M_X7_wholeValue : zM := (yX7_wholeValue, cX7_wholeValue, 11, (some .int), [], ⟨8, 0, 0, 178⟩)
abbrev M_X7_whole : zM := (yX7_whole, cX7_whole, 2, (some .int), [], ⟨9, 0, 0, 208⟩)
abbrev M_X7_putAside : zM := (yX7_putAside, cX7_putAside, 1, none, [], ⟨1, 0, 0, 23⟩)
abbrev M_X7_comesBack : zM := (yX7_comesBack, cX7_comesBack, 1, none, [], ⟨1, 0, 0, 23⟩)
abbrev M_X7_endBy : zM := (yX7_endBy, cX7_endBy, 4, (some .int), [], ⟨7, 0, 0, 157⟩)
abbrev M_X7_endWith : zM := (yX7_endWith, cX7_endWith, 3, (some .int), [], ⟨8, 0, 0, 180⟩)
abbrev M_X7_growsTo : zM := (yX7_growsTo, cX7_growsTo, 4, (some .int), [], ⟨8, 0, 0, 180⟩)
abbrev M_X7_cutTask : zM := (yX7_cutTask, cX7_cutTask, 4, (some .int), [], ⟨8, 0, 0, 180⟩)
abbrev M_X7_bestCut : zM := (yX7_bestCut, cX7_bestCut, 1, (some .int), [], ⟨9, 0, 0, 203⟩)
abbrev M_X7_slackIf : zM := (yX7_slackIf, cX7_slackIf, 5, (some .int), [], ⟨7, 0, 0, 158⟩)
abbrev M_X7_reason : zM := (yX7_reason, cX7_reason, 3, (some .int), [], ⟨4, 0, 0, 89⟩)
abbrev M_X7_type : zM := (yX7_type, cX7_type, 2, (some .int), [], ⟨1, 0, 0, 22⟩)
abbrev M_X7_clearCommands : zM := (yX7_clearCommands, cX7_clearCommands, 2, (some .int), [], ⟨0, 0, 0, 0⟩)
abbrev M_X7_here : zM := (yX7_here, cX7_here, 1, (some .int), [], ⟨0, 0, 0, 0⟩)
abbrev M_X7_passSpaces : zM := (yX7_passSpaces, cX7_passSpaces, 1, none, [], ⟨1, 0, 0, 20⟩)
abbrev M_X7_word : zM := (yX7_word, cX7_word, 5, (some .int), [], ⟨1, 0, 0, 22⟩)
abbrev M_X7_numbersOf : zM := (yX7_numbersOf, cX7_numbersOf, 1, (some .int), [], ⟨0, 0, 0, 0⟩)
abbrev M_X7_isNumber : zM := (yX7_isNumber, cX7_isNumber, 3, (some .boolean), [], ⟨2, 0, 0, 40⟩)
abbrev M_X7_command : zM := (yX7_command, cX7_command, 3, (some .int), [], ⟨3, 0, 0, 62⟩)
abbrev M_X7_fault : zM := (yX7_fault, cX7_fault, 1, (some .int), [], ⟨4, 0, 0, 84⟩)
abbrev M_X7_does : zM := (yX7_does, cX7_does, 6, (some .boolean), [], ⟨8, 0, 0, 181⟩)
abbrev M_X7_changes : zM := (yX7_changes, cX7_changes, 5, none, [], ⟨4, 0, 0, 95⟩)
abbrev M_X7_runCommands : zM := (yX7_runCommands, cX7_runCommands, 3, (some .int), [], ⟨9, 0, 0, 206⟩)
abbrev M_X7_undo : zM := (yX7_undo, cX7_undo, 1, (some .int), [], ⟨1, 0, 0, 23⟩)
abbrev M_X7_digest : zM := (yX7_digest, cX7_digest, 6, (some .long), [], ⟨10, 0, 0, 229⟩)
abbrev M_L_addGroup : zM := (yL_addGroup, cL_addGroup, 5, (some .int), [(0, 10, 13, 13), (0, 10, 17, 15), (0, 10, 21, 17)], ⟨9, 3, 18, 184⟩)
abbrev M_L_addTask : zM := (yL_addTask, cL_addTask, 6, (some .int), [(0, 12, 15, 13), (0, 12, 19, 15), (0, 12, 23, 17)], ⟨9, 3, 18, 185⟩)
abbrev M_L_move : zM := (yL_move, cL_move, 6, (some .int), [(0, 12, 15, 13), (0, 12, 19, 15), (0, 12, 23, 17)], ⟨9, 3, 18, 185⟩)
abbrev M_L_remove : zM := (yL_remove, cL_remove, 4, (some .int), [(0, 9, 12, 13), (0, 9, 15, 17)], ⟨9, 3, 18, 183⟩)
abbrev M_L_setDuration : zM := (yL_setDuration, cL_setDuration, 5, (some .int), [(0, 10, 13, 13), (0, 10, 17, 15), (0, 10, 21, 17)], ⟨9, 3, 18, 184⟩)
abbrev M_L_borrow : zM := (yL_borrow, cL_borrow, 5, (some .int), [(0, 10, 13, 13), (0, 10, 17, 15), (0, 10, 21, 17)], ⟨9, 3, 18, 184⟩)
abbrev M_L_giveBack : zM := (yL_giveBack, cL_giveBack, 5, (some .int), [(0, 10, 13, 13), (0, 10, 17, 15), (0, 10, 21, 17)], ⟨9, 3, 18, 184⟩)
abbrev M_L_setDeadline : zM := (yL_setDeadline, cL_setDeadline, 4, (some .int), [(0, 9, 12, 15)], ⟨9, 3, 18, 183⟩)
abbrev M_L_node : zM := (yL_node, cL_node, 5, (some .int), [(0, 10, 13, 13), (0, 10, 17, 15)], ⟨8, 2, 12, 135⟩)
abbrev M_L_row : zM := (yL_row, cL_row, 6, (some .int), [(0, 12, 15, 13), (0, 12, 19, 15), (0, 12, 23, 17)], ⟨8, 4, 24, 136⟩)
abbrev M_L_child : zM := (yL_child, cL_child, 6, (some .int), [(0, 12, 15, 13), (0, 12, 19, 15), (0, 12, 23, 17)], ⟨8, 4, 24, 136⟩)
abbrev M_L_critical : zM := (yL_critical, cL_critical, 4, (some .int), [(0, 9, 12, 15)], ⟨8, 1, 6, 131⟩)
abbrev M_L_running : zM := (yL_running, cL_running, 4, (some .int), [(0, 9, 12, 15)], ⟨8, 1, 6, 131⟩)
abbrev M_L_whole : zM := (yL_whole, cL_whole, 4, (some .int), [(0, 9, 12, 15)], ⟨8, 1, 6, 154⟩)
abbrev M_L_endWith : zM := (yL_endWith, cL_endWith, 5, (some .int), [(0, 10, 13, 13), (0, 10, 17, 15), (0, 10, 21, 17)], ⟨8, 3, 18, 135⟩)
abbrev M_L_growsTo : zM := (yL_growsTo, cL_growsTo, 4, (some .int), [(0, 9, 12, 13), (0, 9, 15, 17)], ⟨8, 2, 12, 134⟩)
abbrev M_L_slackIf : zM := (yL_slackIf, cL_slackIf, 5, (some .int), [(0, 10, 13, 13), (0, 10, 17, 17)], ⟨8, 3, 18, 136⟩)
abbrev M_L_reason : zM := (yL_reason, cL_reason, 5, (some .int), [(0, 10, 13, 13)], ⟨8, 2, 12, 134⟩)
abbrev M_L_type : zM := (yL_type, cL_type, 4, (some .int), [(0, 9, 12, 15), (0, 9, 15, 17)], ⟨8, 2, 12, 133⟩)
abbrev M_L_undo : zM := (yL_undo, cL_undo, 3, (some .int), [(0, 8, 11, 17)], ⟨7, 1, 6, 112⟩)
theorem ok_X2_init : zOk M_X2_init := ⟨rfl, by decide +kernel, zgw_in (List.mem_of_getElem? (i := 123) (by decide +kernel)) rfl, zgw_in (List.mem_of_getElem? (i := 92) (by decide +kernel)) rfl, by decide +kernel, by decide +kernel⟩
theorem ok_X2_append : zOk M_X2_append := ⟨rfl, by decide +kernel, zgw_in (List.mem_of_getElem? (i := 927) (by decide +kernel)) rfl, zgw_in (List.mem_of_getElem? (i := 92) (by decide +kernel)) rfl, by decide +kernel, by decide +kernel⟩
theorem ok_X2_findFault : zOk M_X2_findFault := ⟨rfl, by decide +kernel, zgw_in (List.mem_of_getElem? (i := 295) (by decide +kernel)) rfl, zgw_in (List.mem_of_getElem? (i := 92) (by decide +kernel)) rfl, by decide +kernel, by decide +kernel⟩
theorem ok_X2_rewind : zOk M_X2_rewind := ⟨rfl, by decide +kernel, zgw_in (List.mem_of_getElem? (i := 299) (by decide +kernel)) rfl, zgw_in (List.mem_of_getElem? (i := 92) (by decide +kernel)) rfl, by decide +kernel, by decide +kernel⟩
theorem ok_X2_readCommand : zOk M_X2_readCommand := ⟨rfl, by decide +kernel, zgw_in (List.mem_of_getElem? (i := 303) (by decide +kernel)) rfl, zgw_in (List.mem_of_getElem? (i := 92) (by decide +kernel)) rfl, by decide +kernel, by decide +kernel⟩
theorem ok_X2_peek : zOk M_X2_peek := ⟨rfl, by decide +kernel, zgw_in (List.mem_of_getElem? (i := 311) (by decide +kernel)) rfl, zgw_in (List.mem_of_getElem? (i := 92) (by decide +kernel)) rfl, by decide +kernel, by decide +kernel⟩
theorem ok_X2_isAtLetter : zOk M_X2_isAtLetter := ⟨rfl, by decide +kernel, zgw_in (List.mem_of_getElem? (i := 319) (by decide +kernel)) rfl, zgw_in (List.mem_of_getElem? (i := 92) (by decide +kernel)) rfl, by decide +kernel, by decide +kernel⟩
theorem ok_X2_isAtDigit : zOk M_X2_isAtDigit := ⟨rfl, by decide +kernel, zgw_in (List.mem_of_getElem? (i := 384) (by decide +kernel)) rfl, zgw_in (List.mem_of_getElem? (i := 92) (by decide +kernel)) rfl, by decide +kernel, by decide +kernel⟩
theorem ok_X2_skipSpaces : zOk M_X2_skipSpaces := ⟨rfl, by decide +kernel, zgw_in (List.mem_of_getElem? (i := 307) (by decide +kernel)) rfl, zgw_in (List.mem_of_getElem? (i := 92) (by decide +kernel)) rfl, by decide +kernel, by decide +kernel⟩
theorem ok_X2_readWord : zOk M_X2_readWord := ⟨rfl, by decide +kernel, zgw_in (List.mem_of_getElem? (i := 315) (by decide +kernel)) rfl, zgw_in (List.mem_of_getElem? (i := 92) (by decide +kernel)) rfl, by decide +kernel, by decide +kernel⟩
theorem ok_X2_isWordAt : zOk M_X2_isWordAt := ⟨rfl, by decide +kernel, zgw_in (List.mem_of_getElem? (i := 328) (by decide +kernel)) rfl, zgw_in (List.mem_of_getElem? (i := 92) (by decide +kernel)) rfl, by decide +kernel, by decide +kernel⟩
theorem ok_X2_readNumbers : zOk M_X2_readNumbers := ⟨rfl, by decide +kernel, zgw_in (List.mem_of_getElem? (i := 380) (by decide +kernel)) rfl, zgw_in (List.mem_of_getElem? (i := 92) (by decide +kernel)) rfl, by decide +kernel, by decide +kernel⟩
theorem ok_X2_readDigits : zOk M_X2_readDigits := ⟨rfl, by decide +kernel, zgw_in (List.mem_of_getElem? (i := 388) (by decide +kernel)) rfl, zgw_in (List.mem_of_getElem? (i := 92) (by decide +kernel)) rfl, by decide +kernel, by decide +kernel⟩
theorem ok_X2_readSemicolon : zOk M_X2_readSemicolon := ⟨rfl, by decide +kernel, zgw_in (List.mem_of_getElem? (i := 392) (by decide +kernel)) rfl, zgw_in (List.mem_of_getElem? (i := 92) (by decide +kernel)) rfl, by decide +kernel, by decide +kernel⟩
theorem ok_X3_init : zOk M_X3_init := ⟨rfl, by decide +kernel, zgw_in (List.mem_of_getElem? (i := 156) (by decide +kernel)) rfl, zgw_in (List.mem_of_getElem? (i := 94) (by decide +kernel)) rfl, by decide +kernel, by decide +kernel⟩
theorem ok_X3_copyFrom : zOk M_X3_copyFrom := ⟨rfl, by decide +kernel, zgw_in (List.mem_of_getElem? (i := 407) (by decide +kernel)) rfl, zgw_in (List.mem_of_getElem? (i := 94) (by decide +kernel)) rfl, by decide +kernel, by decide +kernel⟩
theorem ok_X3_isCritical : zOk M_X3_isCritical := ⟨rfl, by decide +kernel, zgw_in (List.mem_of_getElem? (i := 551) (by decide +kernel)) rfl, zgw_in (List.mem_of_getElem? (i := 94) (by decide +kernel)) rfl, by decide +kernel, by decide +kernel⟩
theorem ok_X3_isCriticalTask : zOk M_X3_isCriticalTask := ⟨rfl, by decide +kernel, zgw_in (List.mem_of_getElem? (i := 547) (by decide +kernel)) rfl, zgw_in (List.mem_of_getElem? (i := 94) (by decide +kernel)) rfl, by decide +kernel, by decide +kernel⟩
theorem ok_X3_runsAt : zOk M_X3_runsAt := ⟨rfl, by decide +kernel, zgw_in (List.mem_of_getElem? (i := 588) (by decide +kernel)) rfl, zgw_in (List.mem_of_getElem? (i := 94) (by decide +kernel)) rfl, by decide +kernel, by decide +kernel⟩
theorem ok_X3_standsIn : zOk M_X3_standsIn := ⟨rfl, by decide +kernel, zgw_in (List.mem_of_getElem? (i := 568) (by decide +kernel)) rfl, zgw_in (List.mem_of_getElem? (i := 94) (by decide +kernel)) rfl, by decide +kernel, by decide +kernel⟩
theorem ok_X3_isWithin : zOk M_X3_isWithin := ⟨rfl, by decide +kernel, zgw_in (List.mem_of_getElem? (i := 458) (by decide +kernel)) rfl, zgw_in (List.mem_of_getElem? (i := 94) (by decide +kernel)) rfl, by decide +kernel, by decide +kernel⟩
theorem ok_X3_whyNotTo : zOk M_X3_whyNotTo := ⟨rfl, by decide +kernel, zgw_in (List.mem_of_getElem? (i := 454) (by decide +kernel)) rfl, zgw_in (List.mem_of_getElem? (i := 94) (by decide +kernel)) rfl, by decide +kernel, by decide +kernel⟩
theorem ok_X3_rowLength : zOk M_X3_rowLength := ⟨rfl, by decide +kernel, zgw_in (List.mem_of_getElem? (i := 275) (by decide +kernel)) rfl, zgw_in (List.mem_of_getElem? (i := 94) (by decide +kernel)) rfl, by decide +kernel, by decide +kernel⟩
theorem ok_X3_lengthenRow : zOk M_X3_lengthenRow := ⟨rfl, by decide +kernel, zgw_in (List.mem_of_getElem? (i := 495) (by decide +kernel)) rfl, zgw_in (List.mem_of_getElem? (i := 94) (by decide +kernel)) rfl, by decide +kernel, by decide +kernel⟩
theorem ok_X3_longestRowBut : zOk M_X3_longestRowBut := ⟨rfl, by decide +kernel, zgw_in (List.mem_of_getElem? (i := 279) (by decide +kernel)) rfl, zgw_in (List.mem_of_getElem? (i := 94) (by decide +kernel)) rfl, by decide +kernel, by decide +kernel⟩
theorem ok_X3_reserveWith : zOk M_X3_reserveWith := ⟨rfl, by decide +kernel, zgw_in (List.mem_of_getElem? (i := 264) (by decide +kernel)) rfl, zgw_in (List.mem_of_getElem? (i := 94) (by decide +kernel)) rfl, by decide +kernel, by decide +kernel⟩
theorem ok_X3_lengthWith : zOk M_X3_lengthWith := ⟨rfl, by decide +kernel, zgw_in (List.mem_of_getElem? (i := 260) (by decide +kernel)) rfl, zgw_in (List.mem_of_getElem? (i := 94) (by decide +kernel)) rfl, by decide +kernel, by decide +kernel⟩
theorem ok_X3_endIfLength : zOk M_X3_endIfLength := ⟨rfl, by decide +kernel, zgw_in (List.mem_of_getElem? (i := 271) (by decide +kernel)) rfl, zgw_in (List.mem_of_getElem? (i := 94) (by decide +kernel)) rfl, by decide +kernel, by decide +kernel⟩
theorem ok_X3_value : zOk M_X3_value := ⟨rfl, by decide +kernel, zgw_in (List.mem_of_getElem? (i := 605) (by decide +kernel)) rfl, zgw_in (List.mem_of_getElem? (i := 94) (by decide +kernel)) rfl, by decide +kernel, by decide +kernel⟩
theorem ok_X5_init : zOk M_X5_init := ⟨rfl, by decide +kernel, zgw_in (List.mem_of_getElem? (i := 149) (by decide +kernel)) rfl, zgw_in (List.mem_of_getElem? (i := 93) (by decide +kernel)) rfl, by decide +kernel, by decide +kernel⟩
theorem ok_X5_copyFrom : zOk M_X5_copyFrom := ⟨rfl, by decide +kernel, zgw_in (List.mem_of_getElem? (i := 403) (by decide +kernel)) rfl, zgw_in (List.mem_of_getElem? (i := 93) (by decide +kernel)) rfl, by decide +kernel, by decide +kernel⟩
theorem ok_X5_find : zOk M_X5_find := ⟨rfl, by decide +kernel, zgw_in (List.mem_of_getElem? (i := 428) (by decide +kernel)) rfl, zgw_in (List.mem_of_getElem? (i := 93) (by decide +kernel)) rfl, by decide +kernel, by decide +kernel⟩
theorem ok_X5_plan : zOk M_X5_plan := ⟨rfl, by decide +kernel, zgw_in (List.mem_of_getElem? (i := 478) (by decide +kernel)) rfl, zgw_in (List.mem_of_getElem? (i := 93) (by decide +kernel)) rfl, by decide +kernel, by decide +kernel⟩
theorem ok_X5_findOrder : zOk M_X5_findOrder := ⟨rfl, by decide +kernel, zgw_in (List.mem_of_getElem? (i := 482) (by decide +kernel)) rfl, zgw_in (List.mem_of_getElem? (i := 93) (by decide +kernel)) rfl, by decide +kernel, by decide +kernel⟩
theorem ok_X5_findAhead : zOk M_X5_findAhead := ⟨rfl, by decide +kernel, zgw_in (List.mem_of_getElem? (i := 486) (by decide +kernel)) rfl, zgw_in (List.mem_of_getElem? (i := 93) (by decide +kernel)) rfl, by decide +kernel, by decide +kernel⟩
theorem ok_X5_measureLengths : zOk M_X5_measureLengths := ⟨rfl, by decide +kernel, zgw_in (List.mem_of_getElem? (i := 490) (by decide +kernel)) rfl, zgw_in (List.mem_of_getElem? (i := 93) (by decide +kernel)) rfl, by decide +kernel, by decide +kernel⟩
theorem ok_X5_tellTimes : zOk M_X5_tellTimes := ⟨rfl, by decide +kernel, zgw_in (List.mem_of_getElem? (i := 499) (by decide +kernel)) rfl, zgw_in (List.mem_of_getElem? (i := 93) (by decide +kernel)) rfl, by decide +kernel, by decide +kernel⟩
theorem ok_X5_refusal : zOk M_X5_refusal := ⟨rfl, by decide +kernel, zgw_in (List.mem_of_getElem? (i := 417) (by decide +kernel)) rfl, zgw_in (List.mem_of_getElem? (i := 93) (by decide +kernel)) rfl, by decide +kernel, by decide +kernel⟩
theorem ok_X5_areInRange : zOk M_X5_areInRange := ⟨rfl, by decide +kernel, zgw_in (List.mem_of_getElem? (i := 435) (by decide +kernel)) rfl, zgw_in (List.mem_of_getElem? (i := 93) (by decide +kernel)) rfl, by decide +kernel, by decide +kernel⟩
theorem ok_X5_isPossible : zOk M_X5_isPossible := ⟨rfl, by decide +kernel, zgw_in (List.mem_of_getElem? (i := 447) (by decide +kernel)) rfl, zgw_in (List.mem_of_getElem? (i := 93) (by decide +kernel)) rfl, by decide +kernel, by decide +kernel⟩
theorem ok_X5_canMoveTo : zOk M_X5_canMoveTo := ⟨rfl, by decide +kernel, zgw_in (List.mem_of_getElem? (i := 450) (by decide +kernel)) rfl, zgw_in (List.mem_of_getElem? (i := 93) (by decide +kernel)) rfl, by decide +kernel, by decide +kernel⟩
theorem ok_X5_carryOut : zOk M_X5_carryOut := ⟨rfl, by decide +kernel, zgw_in (List.mem_of_getElem? (i := 465) (by decide +kernel)) rfl, zgw_in (List.mem_of_getElem? (i := 93) (by decide +kernel)) rfl, by decide +kernel, by decide +kernel⟩
theorem ok_X5_addNode : zOk M_X5_addNode := ⟨rfl, by decide +kernel, zgw_in (List.mem_of_getElem? (i := 474) (by decide +kernel)) rfl, zgw_in (List.mem_of_getElem? (i := 93) (by decide +kernel)) rfl, by decide +kernel, by decide +kernel⟩
theorem ok_X5_putLast : zOk M_X5_putLast := ⟨rfl, by decide +kernel, zgw_in (List.mem_of_getElem? (i := 504) (by decide +kernel)) rfl, zgw_in (List.mem_of_getElem? (i := 93) (by decide +kernel)) rfl, by decide +kernel, by decide +kernel⟩
theorem ok_X5_dropAll : zOk M_X5_dropAll := ⟨rfl, by decide +kernel, zgw_in (List.mem_of_getElem? (i := 508) (by decide +kernel)) rfl, zgw_in (List.mem_of_getElem? (i := 93) (by decide +kernel)) rfl, by decide +kernel, by decide +kernel⟩
theorem ok_X5_changeDuration : zOk M_X5_changeDuration := ⟨rfl, by decide +kernel, zgw_in (List.mem_of_getElem? (i := 513) (by decide +kernel)) rfl, zgw_in (List.mem_of_getElem? (i := 93) (by decide +kernel)) rfl, by decide +kernel, by decide +kernel⟩
theorem ok_X5_changeReserve : zOk M_X5_changeReserve := ⟨rfl, by decide +kernel, zgw_in (List.mem_of_getElem? (i := 518) (by decide +kernel)) rfl, zgw_in (List.mem_of_getElem? (i := 93) (by decide +kernel)) rfl, by decide +kernel, by decide +kernel⟩
theorem ok_X5_end : zOk M_X5_end := ⟨rfl, by decide +kernel, zgw_in (List.mem_of_getElem? (i := 283) (by decide +kernel)) rfl, zgw_in (List.mem_of_getElem? (i := 93) (by decide +kernel)) rfl, by decide +kernel, by decide +kernel⟩
theorem ok_X5_lateness : zOk M_X5_lateness := ⟨rfl, by decide +kernel, zgw_in (List.mem_of_getElem? (i := 469) (by decide +kernel)) rfl, zgw_in (List.mem_of_getElem? (i := 93) (by decide +kernel)) rfl, by decide +kernel, by decide +kernel⟩
theorem ok_X5_value : zOk M_X5_value := ⟨rfl, by decide +kernel, zgw_in (List.mem_of_getElem? (i := 535) (by decide +kernel)) rfl, zgw_in (List.mem_of_getElem? (i := 93) (by decide +kernel)) rfl, by decide +kernel, by decide +kernel⟩
theorem ok_X5_countTasks : zOk M_X5_countTasks := ⟨rfl, by decide +kernel, zgw_in (List.mem_of_getElem? (i := 539) (by decide +kernel)) rfl, zgw_in (List.mem_of_getElem? (i := 93) (by decide +kernel)) rfl, by decide +kernel, by decide +kernel⟩
theorem ok_X5_countCriticalTasks : zOk M_X5_countCriticalTasks := ⟨rfl, by decide +kernel, zgw_in (List.mem_of_getElem? (i := 543) (by decide +kernel)) rfl, zgw_in (List.mem_of_getElem? (i := 93) (by decide +kernel)) rfl, by decide +kernel, by decide +kernel⟩
theorem ok_X5_countCriticalRows : zOk M_X5_countCriticalRows := ⟨rfl, by decide +kernel, zgw_in (List.mem_of_getElem? (i := 555) (by decide +kernel)) rfl, zgw_in (List.mem_of_getElem? (i := 93) (by decide +kernel)) rfl, by decide +kernel, by decide +kernel⟩
theorem ok_X5_sumOfDurations : zOk M_X5_sumOfDurations := ⟨rfl, by decide +kernel, zgw_in (List.mem_of_getElem? (i := 572) (by decide +kernel)) rfl, zgw_in (List.mem_of_getElem? (i := 93) (by decide +kernel)) rfl, by decide +kernel, by decide +kernel⟩
theorem ok_X5_sumOfReserves : zOk M_X5_sumOfReserves := ⟨rfl, by decide +kernel, zgw_in (List.mem_of_getElem? (i := 576) (by decide +kernel)) rfl, zgw_in (List.mem_of_getElem? (i := 93) (by decide +kernel)) rfl, by decide +kernel, by decide +kernel⟩
theorem ok_X5_mostRunning : zOk M_X5_mostRunning := ⟨rfl, by decide +kernel, zgw_in (List.mem_of_getElem? (i := 580) (by decide +kernel)) rfl, zgw_in (List.mem_of_getElem? (i := 93) (by decide +kernel)) rfl, by decide +kernel, by decide +kernel⟩
theorem ok_X5_countRunning : zOk M_X5_countRunning := ⟨rfl, by decide +kernel, zgw_in (List.mem_of_getElem? (i := 584) (by decide +kernel)) rfl, zgw_in (List.mem_of_getElem? (i := 93) (by decide +kernel)) rfl, by decide +kernel, by decide +kernel⟩
theorem ok_X5_rowValue : zOk M_X5_rowValue := ⟨rfl, by decide +kernel, zgw_in (List.mem_of_getElem? (i := 609) (by decide +kernel)) rfl, zgw_in (List.mem_of_getElem? (i := 93) (by decide +kernel)) rfl, by decide +kernel, by decide +kernel⟩
theorem ok_X5_countChildren : zOk M_X5_countChildren := ⟨rfl, by decide +kernel, zgw_in (List.mem_of_getElem? (i := 564) (by decide +kernel)) rfl, zgw_in (List.mem_of_getElem? (i := 93) (by decide +kernel)) rfl, by decide +kernel, by decide +kernel⟩
theorem ok_X5_isCriticalRow : zOk M_X5_isCriticalRow := ⟨rfl, by decide +kernel, zgw_in (List.mem_of_getElem? (i := 559) (by decide +kernel)) rfl, zgw_in (List.mem_of_getElem? (i := 93) (by decide +kernel)) rfl, by decide +kernel, by decide +kernel⟩
theorem ok_X5_childNumber : zOk M_X5_childNumber := ⟨rfl, by decide +kernel, zgw_in (List.mem_of_getElem? (i := 847) (by decide +kernel)) rfl, zgw_in (List.mem_of_getElem? (i := 93) (by decide +kernel)) rfl, by decide +kernel, by decide +kernel⟩
theorem ok_X5_criticalNumber : zOk M_X5_criticalNumber := ⟨rfl, by decide +kernel, zgw_in (List.mem_of_getElem? (i := 858) (by decide +kernel)) rfl, zgw_in (List.mem_of_getElem? (i := 93) (by decide +kernel)) rfl, by decide +kernel, by decide +kernel⟩
theorem ok_X5_nextCritical : zOk M_X5_nextCritical := ⟨rfl, by decide +kernel, zgw_in (List.mem_of_getElem? (i := 617) (by decide +kernel)) rfl, zgw_in (List.mem_of_getElem? (i := 93) (by decide +kernel)) rfl, by decide +kernel, by decide +kernel⟩
theorem ok_X5_startsBefore : zOk M_X5_startsBefore := ⟨rfl, by decide +kernel, zgw_in (List.mem_of_getElem? (i := 620) (by decide +kernel)) rfl, zgw_in (List.mem_of_getElem? (i := 93) (by decide +kernel)) rfl, by decide +kernel, by decide +kernel⟩
theorem ok_X5_nextNumbered : zOk M_X5_nextNumbered := ⟨rfl, by decide +kernel, zgw_in (List.mem_of_getElem? (i := 596) (by decide +kernel)) rfl, zgw_in (List.mem_of_getElem? (i := 93) (by decide +kernel)) rfl, by decide +kernel, by decide +kernel⟩
theorem ok_X5_greatestDuration : zOk M_X5_greatestDuration := ⟨rfl, by decide +kernel, zgw_in (List.mem_of_getElem? (i := 897) (by decide +kernel)) rfl, zgw_in (List.mem_of_getElem? (i := 93) (by decide +kernel)) rfl, by decide +kernel, by decide +kernel⟩
theorem ok_X5_cutNumber : zOk M_X5_cutNumber := ⟨rfl, by decide +kernel, zgw_in (List.mem_of_getElem? (i := 256) (by decide +kernel)) rfl, zgw_in (List.mem_of_getElem? (i := 93) (by decide +kernel)) rfl, by decide +kernel, by decide +kernel⟩
theorem ok_X5_slackIfBorrowed : zOk M_X5_slackIfBorrowed := ⟨rfl, by decide +kernel, zgw_in (List.mem_of_getElem? (i := 908) (by decide +kernel)) rfl, zgw_in (List.mem_of_getElem? (i := 93) (by decide +kernel)) rfl, by decide +kernel, by decide +kernel⟩
theorem ok_X5_mixNodes : zOk M_X5_mixNodes := ⟨rfl, by decide +kernel, zgw_in (List.mem_of_getElem? (i := 592) (by decide +kernel)) rfl, zgw_in (List.mem_of_getElem? (i := 93) (by decide +kernel)) rfl, by decide +kernel, by decide +kernel⟩
theorem ok_X5_mixNode : zOk M_X5_mixNode := ⟨rfl, by decide +kernel, zgw_in (List.mem_of_getElem? (i := 600) (by decide +kernel)) rfl, zgw_in (List.mem_of_getElem? (i := 93) (by decide +kernel)) rfl, by decide +kernel, by decide +kernel⟩
theorem ok_X5_mixCritical : zOk M_X5_mixCritical := ⟨rfl, by decide +kernel, zgw_in (List.mem_of_getElem? (i := 613) (by decide +kernel)) rfl, zgw_in (List.mem_of_getElem? (i := 93) (by decide +kernel)) rfl, by decide +kernel, by decide +kernel⟩
theorem ok_X6_init : zOk M_X6_init := ⟨rfl, by decide +kernel, zgw_in (List.mem_of_getElem? (i := 115) (by decide +kernel)) rfl, zgw_in (List.mem_of_getElem? (i := 91) (by decide +kernel)) rfl, by decide +kernel, by decide +kernel⟩
theorem ok_X6_addGroup : zOk M_X6_addGroup := ⟨rfl, by decide +kernel, zgw_in (List.mem_of_getElem? (i := 630) (by decide +kernel)) rfl, zgw_in (List.mem_of_getElem? (i := 91) (by decide +kernel)) rfl, by decide +kernel, by decide +kernel⟩
theorem ok_X6_addTask : zOk M_X6_addTask := ⟨rfl, by decide +kernel, zgw_in (List.mem_of_getElem? (i := 749) (by decide +kernel)) rfl, zgw_in (List.mem_of_getElem? (i := 91) (by decide +kernel)) rfl, by decide +kernel, by decide +kernel⟩
theorem ok_X6_move : zOk M_X6_move := ⟨rfl, by decide +kernel, zgw_in (List.mem_of_getElem? (i := 758) (by decide +kernel)) rfl, zgw_in (List.mem_of_getElem? (i := 91) (by decide +kernel)) rfl, by decide +kernel, by decide +kernel⟩
theorem ok_X6_remove : zOk M_X6_remove := ⟨rfl, by decide +kernel, zgw_in (List.mem_of_getElem? (i := 766) (by decide +kernel)) rfl, zgw_in (List.mem_of_getElem? (i := 91) (by decide +kernel)) rfl, by decide +kernel, by decide +kernel⟩
theorem ok_X6_setDuration : zOk M_X6_setDuration := ⟨rfl, by decide +kernel, zgw_in (List.mem_of_getElem? (i := 775) (by decide +kernel)) rfl, zgw_in (List.mem_of_getElem? (i := 91) (by decide +kernel)) rfl, by decide +kernel, by decide +kernel⟩
theorem ok_X6_borrow : zOk M_X6_borrow := ⟨rfl, by decide +kernel, zgw_in (List.mem_of_getElem? (i := 784) (by decide +kernel)) rfl, zgw_in (List.mem_of_getElem? (i := 91) (by decide +kernel)) rfl, by decide +kernel, by decide +kernel⟩
theorem ok_X6_giveBack : zOk M_X6_giveBack := ⟨rfl, by decide +kernel, zgw_in (List.mem_of_getElem? (i := 793) (by decide +kernel)) rfl, zgw_in (List.mem_of_getElem? (i := 91) (by decide +kernel)) rfl, by decide +kernel, by decide +kernel⟩
theorem ok_X6_setDeadline : zOk M_X6_setDeadline := ⟨rfl, by decide +kernel, zgw_in (List.mem_of_getElem? (i := 802) (by decide +kernel)) rfl, zgw_in (List.mem_of_getElem? (i := 91) (by decide +kernel)) rfl, by decide +kernel, by decide +kernel⟩
theorem ok_X6_node : zOk M_X6_node := ⟨rfl, by decide +kernel, zgw_in (List.mem_of_getElem? (i := 810) (by decide +kernel)) rfl, zgw_in (List.mem_of_getElem? (i := 91) (by decide +kernel)) rfl, by decide +kernel, by decide +kernel⟩
theorem ok_X6_row : zOk M_X6_row := ⟨rfl, by decide +kernel, zgw_in (List.mem_of_getElem? (i := 827) (by decide +kernel)) rfl, zgw_in (List.mem_of_getElem? (i := 91) (by decide +kernel)) rfl, by decide +kernel, by decide +kernel⟩
theorem ok_X6_child : zOk M_X6_child := ⟨rfl, by decide +kernel, zgw_in (List.mem_of_getElem? (i := 839) (by decide +kernel)) rfl, zgw_in (List.mem_of_getElem? (i := 91) (by decide +kernel)) rfl, by decide +kernel, by decide +kernel⟩
theorem ok_X6_critical : zOk M_X6_critical := ⟨rfl, by decide +kernel, zgw_in (List.mem_of_getElem? (i := 854) (by decide +kernel)) rfl, zgw_in (List.mem_of_getElem? (i := 91) (by decide +kernel)) rfl, by decide +kernel, by decide +kernel⟩
theorem ok_X6_running : zOk M_X6_running := ⟨rfl, by decide +kernel, zgw_in (List.mem_of_getElem? (i := 865) (by decide +kernel)) rfl, zgw_in (List.mem_of_getElem? (i := 91) (by decide +kernel)) rfl, by decide +kernel, by decide +kernel⟩
theorem ok_X6_whole : zOk M_X6_whole := ⟨rfl, by decide +kernel, zgw_in (List.mem_of_getElem? (i := 873) (by decide +kernel)) rfl, zgw_in (List.mem_of_getElem? (i := 91) (by decide +kernel)) rfl, by decide +kernel, by decide +kernel⟩
theorem ok_X6_endWith : zOk M_X6_endWith := ⟨rfl, by decide +kernel, zgw_in (List.mem_of_getElem? (i := 880) (by decide +kernel)) rfl, zgw_in (List.mem_of_getElem? (i := 91) (by decide +kernel)) rfl, by decide +kernel, by decide +kernel⟩
theorem ok_X6_growsTo : zOk M_X6_growsTo := ⟨rfl, by decide +kernel, zgw_in (List.mem_of_getElem? (i := 893) (by decide +kernel)) rfl, zgw_in (List.mem_of_getElem? (i := 91) (by decide +kernel)) rfl, by decide +kernel, by decide +kernel⟩
theorem ok_X6_bestCut : zOk M_X6_bestCut := ⟨rfl, by decide +kernel, zgw_in (List.mem_of_getElem? (i := 252) (by decide +kernel)) rfl, zgw_in (List.mem_of_getElem? (i := 91) (by decide +kernel)) rfl, by decide +kernel, by decide +kernel⟩
theorem ok_X6_slackIf : zOk M_X6_slackIf := ⟨rfl, by decide +kernel, zgw_in (List.mem_of_getElem? (i := 904) (by decide +kernel)) rfl, zgw_in (List.mem_of_getElem? (i := 91) (by decide +kernel)) rfl, by decide +kernel, by decide +kernel⟩
theorem ok_X6_reason : zOk M_X6_reason := ⟨rfl, by decide +kernel, zgw_in (List.mem_of_getElem? (i := 915) (by decide +kernel)) rfl, zgw_in (List.mem_of_getElem? (i := 91) (by decide +kernel)) rfl, by decide +kernel, by decide +kernel⟩
theorem ok_X6_type : zOk M_X6_type := ⟨rfl, by decide +kernel, zgw_in (List.mem_of_getElem? (i := 923) (by decide +kernel)) rfl, zgw_in (List.mem_of_getElem? (i := 91) (by decide +kernel)) rfl, by decide +kernel, by decide +kernel⟩
theorem ok_X6_clearCommands : zOk M_X6_clearCommands := ⟨rfl, by decide +kernel, zgw_in (List.mem_of_getElem? (i := 287) (by decide +kernel)) rfl, zgw_in (List.mem_of_getElem? (i := 91) (by decide +kernel)) rfl, by decide +kernel, by decide +kernel⟩
theorem ok_X6_runCommands : zOk M_X6_runCommands := ⟨rfl, by decide +kernel, zgw_in (List.mem_of_getElem? (i := 291) (by decide +kernel)) rfl, zgw_in (List.mem_of_getElem? (i := 91) (by decide +kernel)) rfl, by decide +kernel, by decide +kernel⟩
theorem ok_X6_undo : zOk M_X6_undo := ⟨rfl, by decide +kernel, zgw_in (List.mem_of_getElem? (i := 935) (by decide +kernel)) rfl, zgw_in (List.mem_of_getElem? (i := 91) (by decide +kernel)) rfl, by decide +kernel, by decide +kernel⟩
theorem ok_X6_digest : zOk M_X6_digest := ⟨rfl, by decide +kernel, zgw_in (List.mem_of_getElem? (i := 522) (by decide +kernel)) rfl, zgw_in (List.mem_of_getElem? (i := 91) (by decide +kernel)) rfl, by decide +kernel, by decide +kernel⟩
theorem ok_X6_mix : zOk M_X6_mix := ⟨rfl, by decide +kernel, zgw_in (List.mem_of_getElem? (i := 526) (by decide +kernel)) rfl, zgw_in (List.mem_of_getElem? (i := 91) (by decide +kernel)) rfl, by decide +kernel, by decide +kernel⟩
theorem ok_X6_isBetween : zOk M_X6_isBetween := ⟨rfl, by decide +kernel, zgw_in (List.mem_of_getElem? (i := 322) (by decide +kernel)) rfl, zgw_in (List.mem_of_getElem? (i := 91) (by decide +kernel)) rfl, by decide +kernel, by decide +kernel⟩
theorem ok_X6_existing : zOk M_X6_existing := ⟨rfl, by decide +kernel, zgw_in (List.mem_of_getElem? (i := 814) (by decide +kernel)) rfl, zgw_in (List.mem_of_getElem? (i := 91) (by decide +kernel)) rfl, by decide +kernel, by decide +kernel⟩
theorem ok_X6_requireRange : zOk M_X6_requireRange := ⟨rfl, by decide +kernel, zgw_in (List.mem_of_getElem? (i := 818) (by decide +kernel)) rfl, zgw_in (List.mem_of_getElem? (i := 91) (by decide +kernel)) rfl, by decide +kernel, by decide +kernel⟩
theorem ok_X6_requireNotNegative : zOk M_X6_requireNotNegative := ⟨rfl, by decide +kernel, zgw_in (List.mem_of_getElem? (i := 842) (by decide +kernel)) rfl, zgw_in (List.mem_of_getElem? (i := 91) (by decide +kernel)) rfl, by decide +kernel, by decide +kernel⟩
theorem ok_X6_requireGroup : zOk M_X6_requireGroup := ⟨rfl, by decide +kernel, zgw_in (List.mem_of_getElem? (i := 830) (by decide +kernel)) rfl, zgw_in (List.mem_of_getElem? (i := 91) (by decide +kernel)) rfl, by decide +kernel, by decide +kernel⟩
theorem ok_X6_requireTask : zOk M_X6_requireTask := ⟨rfl, by decide +kernel, zgw_in (List.mem_of_getElem? (i := 883) (by decide +kernel)) rfl, zgw_in (List.mem_of_getElem? (i := 91) (by decide +kernel)) rfl, by decide +kernel, by decide +kernel⟩
theorem ok_X6_requireAllowed : zOk M_X6_requireAllowed := ⟨rfl, by decide +kernel, zgw_in (List.mem_of_getElem? (i := 639) (by decide +kernel)) rfl, zgw_in (List.mem_of_getElem? (i := 91) (by decide +kernel)) rfl, by decide +kernel, by decide +kernel⟩
theorem ok_X6_change : zOk M_X6_change := ⟨rfl, by decide +kernel, zgw_in (List.mem_of_getElem? (i := 636) (by decide +kernel)) rfl, zgw_in (List.mem_of_getElem? (i := 91) (by decide +kernel)) rfl, by decide +kernel, by decide +kernel⟩
theorem ok_X6_save : zOk M_X6_save := ⟨rfl, by decide +kernel, zgw_in (List.mem_of_getElem? (i := 396) (by decide +kernel)) rfl, zgw_in (List.mem_of_getElem? (i := 91) (by decide +kernel)) rfl, by decide +kernel, by decide +kernel⟩
theorem ok_X6_runFaultless : zOk M_X6_runFaultless := ⟨rfl, by decide +kernel, zgw_in (List.mem_of_getElem? (i := 411) (by decide +kernel)) rfl, zgw_in (List.mem_of_getElem? (i := 91) (by decide +kernel)) rfl, by decide +kernel, by decide +kernel⟩
theorem ok_X6_wholeValue : zOk M_X6_wholeValue := ⟨rfl, by decide +kernel, zgw_in (List.mem_of_getElem? (i := 531) (by decide +kernel)) rfl, zgw_in (List.mem_of_getElem? (i := 91) (by decide +kernel)) rfl, by decide +kernel, by decide +kernel⟩
theorem ok_X7_init : zOk M_X7_init := ⟨rfl, by decide +kernel, zgw_in (List.mem_of_getElem? (i := 942) (by decide +kernel)) rfl, zgw_in (List.mem_of_getElem? (i := 95) (by decide +kernel)) rfl, by decide +kernel, by decide +kernel⟩
theorem ok_X7_in : zOk M_X7_in := ⟨rfl, by decide +kernel, zgw_in (List.mem_of_getElem? (i := 1013) (by decide +kernel)) rfl, zgw_in (List.mem_of_getElem? (i := 95) (by decide +kernel)) rfl, by decide +kernel, by decide +kernel⟩
theorem ok_X7_copies : zOk M_X7_copies := ⟨rfl, by decide +kernel, zgw_in (List.mem_of_getElem? (i := 1029) (by decide +kernel)) rfl, zgw_in (List.mem_of_getElem? (i := 95) (by decide +kernel)) rfl, by decide +kernel, by decide +kernel⟩
theorem ok_X7_saves : zOk M_X7_saves := ⟨rfl, by decide +kernel, zgw_in (List.mem_of_getElem? (i := 1025) (by decide +kernel)) rfl, zgw_in (List.mem_of_getElem? (i := 95) (by decide +kernel)) rfl, by decide +kernel, by decide +kernel⟩
theorem ok_X7_of : zOk M_X7_of := ⟨rfl, by decide +kernel, zgw_in (List.mem_of_getElem? (i := 1010) (by decide +kernel)) rfl, zgw_in (List.mem_of_getElem? (i := 95) (by decide +kernel)) rfl, by decide +kernel, by decide +kernel⟩
theorem ok_X7_set : zOk M_X7_set := ⟨rfl, by decide +kernel, zgw_in (List.mem_of_getElem? (i := 1045) (by decide +kernel)) rfl, zgw_in (List.mem_of_getElem? (i := 95) (by decide +kernel)) rfl, by decide +kernel, by decide +kernel⟩
theorem ok_X7_find : zOk M_X7_find := ⟨rfl, by decide +kernel, zgw_in (List.mem_of_getElem? (i := 1006) (by decide +kernel)) rfl, zgw_in (List.mem_of_getElem? (i := 95) (by decide +kernel)) rfl, by decide +kernel, by decide +kernel⟩
theorem ok_X7_isTask : zOk M_X7_isTask := ⟨rfl, by decide +kernel, zgw_in (List.mem_of_getElem? (i := 1017) (by decide +kernel)) rfl, zgw_in (List.mem_of_getElem? (i := 95) (by decide +kernel)) rfl, by decide +kernel, by decide +kernel⟩
theorem ok_X7_thrown : zOk M_X7_thrown := ⟨rfl, by decide +kernel, zgw_in (List.mem_of_getElem? (i := 994) (by decide +kernel)) rfl, zgw_in (List.mem_of_getElem? (i := 95) (by decide +kernel)) rfl, by decide +kernel, by decide +kernel⟩
theorem ok_X7_isRefused : zOk M_X7_isRefused := ⟨rfl, by decide +kernel, zgw_in (List.mem_of_getElem? (i := 1021) (by decide +kernel)) rfl, zgw_in (List.mem_of_getElem? (i := 95) (by decide +kernel)) rfl, by decide +kernel, by decide +kernel⟩
theorem ok_X7_isBarred : zOk M_X7_isBarred := ⟨rfl, by decide +kernel, zgw_in (List.mem_of_getElem? (i := 1085) (by decide +kernel)) rfl, zgw_in (List.mem_of_getElem? (i := 95) (by decide +kernel)) rfl, by decide +kernel, by decide +kernel⟩
theorem ok_X7_isIn : zOk M_X7_isIn := ⟨rfl, by decide +kernel, zgw_in (List.mem_of_getElem? (i := 1041) (by decide +kernel)) rfl, zgw_in (List.mem_of_getElem? (i := 95) (by decide +kernel)) rfl, by decide +kernel, by decide +kernel⟩
theorem ok_X7_rowLength : zOk M_X7_rowLength := ⟨rfl, by decide +kernel, zgw_in (List.mem_of_getElem? (i := 1121) (by decide +kernel)) rfl, zgw_in (List.mem_of_getElem? (i := 95) (by decide +kernel)) rfl, by decide +kernel, by decide +kernel⟩
theorem ok_X7_layOrder : zOk M_X7_layOrder := ⟨rfl, by decide +kernel, zgw_in (List.mem_of_getElem? (i := 1113) (by decide +kernel)) rfl, zgw_in (List.mem_of_getElem? (i := 95) (by decide +kernel)) rfl, by decide +kernel, by decide +kernel⟩
theorem ok_X7_lengthOf : zOk M_X7_lengthOf := ⟨rfl, by decide +kernel, zgw_in (List.mem_of_getElem? (i := 1117) (by decide +kernel)) rfl, zgw_in (List.mem_of_getElem? (i := 95) (by decide +kernel)) rfl, by decide +kernel, by decide +kernel⟩
theorem ok_X7_rowSlack : zOk M_X7_rowSlack := ⟨rfl, by decide +kernel, zgw_in (List.mem_of_getElem? (i := 1129) (by decide +kernel)) rfl, zgw_in (List.mem_of_getElem? (i := 95) (by decide +kernel)) rfl, by decide +kernel, by decide +kernel⟩
theorem ok_X7_layTimes : zOk M_X7_layTimes := ⟨rfl, by decide +kernel, zgw_in (List.mem_of_getElem? (i := 1125) (by decide +kernel)) rfl, zgw_in (List.mem_of_getElem? (i := 95) (by decide +kernel)) rfl, by decide +kernel, by decide +kernel⟩
theorem ok_X7_lay : zOk M_X7_lay := ⟨rfl, by decide +kernel, zgw_in (List.mem_of_getElem? (i := 1109) (by decide +kernel)) rfl, zgw_in (List.mem_of_getElem? (i := 95) (by decide +kernel)) rfl, by decide +kernel, by decide +kernel⟩
theorem ok_X7_end : zOk M_X7_end := ⟨rfl, by decide +kernel, zgw_in (List.mem_of_getElem? (i := 1105) (by decide +kernel)) rfl, zgw_in (List.mem_of_getElem? (i := 95) (by decide +kernel)) rfl, by decide +kernel, by decide +kernel⟩
theorem ok_X7_lateness : zOk M_X7_lateness := ⟨rfl, by decide +kernel, zgw_in (List.mem_of_getElem? (i := 1164) (by decide +kernel)) rfl, zgw_in (List.mem_of_getElem? (i := 95) (by decide +kernel)) rfl, by decide +kernel, by decide +kernel⟩
theorem ok_X7_childrenOf : zOk M_X7_childrenOf := ⟨rfl, by decide +kernel, zgw_in (List.mem_of_getElem? (i := 1037) (by decide +kernel)) rfl, zgw_in (List.mem_of_getElem? (i := 95) (by decide +kernel)) rfl, by decide +kernel, by decide +kernel⟩
theorem ok_X7_whyNotAdd : zOk M_X7_whyNotAdd := ⟨rfl, by decide +kernel, zgw_in (List.mem_of_getElem? (i := 1002) (by decide +kernel)) rfl, zgw_in (List.mem_of_getElem? (i := 95) (by decide +kernel)) rfl, by decide +kernel, by decide +kernel⟩
theorem ok_X7_adds : zOk M_X7_adds := ⟨rfl, by decide +kernel, zgw_in (List.mem_of_getElem? (i := 1033) (by decide +kernel)) rfl, zgw_in (List.mem_of_getElem? (i := 95) (by decide +kernel)) rfl, by decide +kernel, by decide +kernel⟩
theorem ok_X7_addGroup : zOk M_X7_addGroup := ⟨rfl, by decide +kernel, zgw_in (List.mem_of_getElem? (i := 998) (by decide +kernel)) rfl, zgw_in (List.mem_of_getElem? (i := 95) (by decide +kernel)) rfl, by decide +kernel, by decide +kernel⟩
theorem ok_X7_addTask : zOk M_X7_addTask := ⟨rfl, by decide +kernel, zgw_in (List.mem_of_getElem? (i := 1049) (by decide +kernel)) rfl, zgw_in (List.mem_of_getElem? (i := 95) (by decide +kernel)) rfl, by decide +kernel, by decide +kernel⟩
theorem ok_X7_isBelow : zOk M_X7_isBelow := ⟨rfl, by decide +kernel, zgw_in (List.mem_of_getElem? (i := 1065) (by decide +kernel)) rfl, zgw_in (List.mem_of_getElem? (i := 95) (by decide +kernel)) rfl, by decide +kernel, by decide +kernel⟩
theorem ok_X7_reasonOf : zOk M_X7_reasonOf := ⟨rfl, by decide +kernel, zgw_in (List.mem_of_getElem? (i := 1061) (by decide +kernel)) rfl, zgw_in (List.mem_of_getElem? (i := 95) (by decide +kernel)) rfl, by decide +kernel, by decide +kernel⟩
theorem ok_X7_whyNotMove : zOk M_X7_whyNotMove := ⟨rfl, by decide +kernel, zgw_in (List.mem_of_getElem? (i := 1057) (by decide +kernel)) rfl, zgw_in (List.mem_of_getElem? (i := 95) (by decide +kernel)) rfl, by decide +kernel, by decide +kernel⟩
theorem ok_X7_leaves : zOk M_X7_leaves := ⟨rfl, by decide +kernel, zgw_in (List.mem_of_getElem? (i := 1073) (by decide +kernel)) rfl, zgw_in (List.mem_of_getElem? (i := 95) (by decide +kernel)) rfl, by decide +kernel, by decide +kernel⟩
theorem ok_X7_moves : zOk M_X7_moves := ⟨rfl, by decide +kernel, zgw_in (List.mem_of_getElem? (i := 1069) (by decide +kernel)) rfl, zgw_in (List.mem_of_getElem? (i := 95) (by decide +kernel)) rfl, by decide +kernel, by decide +kernel⟩
theorem ok_X7_move : zOk M_X7_move := ⟨rfl, by decide +kernel, zgw_in (List.mem_of_getElem? (i := 1053) (by decide +kernel)) rfl, zgw_in (List.mem_of_getElem? (i := 95) (by decide +kernel)) rfl, by decide +kernel, by decide +kernel⟩
theorem ok_X7_whyNotRemove : zOk M_X7_whyNotRemove := ⟨rfl, by decide +kernel, zgw_in (List.mem_of_getElem? (i := 1081) (by decide +kernel)) rfl, zgw_in (List.mem_of_getElem? (i := 95) (by decide +kernel)) rfl, by decide +kernel, by decide +kernel⟩
theorem ok_X7_removes : zOk M_X7_removes := ⟨rfl, by decide +kernel, zgw_in (List.mem_of_getElem? (i := 1089) (by decide +kernel)) rfl, zgw_in (List.mem_of_getElem? (i := 95) (by decide +kernel)) rfl, by decide +kernel, by decide +kernel⟩
theorem ok_X7_remove : zOk M_X7_remove := ⟨rfl, by decide +kernel, zgw_in (List.mem_of_getElem? (i := 1077) (by decide +kernel)) rfl, zgw_in (List.mem_of_getElem? (i := 95) (by decide +kernel)) rfl, by decide +kernel, by decide +kernel⟩
theorem ok_X7_whyNotTask : zOk M_X7_whyNotTask := ⟨rfl, by decide +kernel, zgw_in (List.mem_of_getElem? (i := 1097) (by decide +kernel)) rfl, zgw_in (List.mem_of_getElem? (i := 95) (by decide +kernel)) rfl, by decide +kernel, by decide +kernel⟩
theorem ok_X7_lasts : zOk M_X7_lasts := ⟨rfl, by decide +kernel, zgw_in (List.mem_of_getElem? (i := 1101) (by decide +kernel)) rfl, zgw_in (List.mem_of_getElem? (i := 95) (by decide +kernel)) rfl, by decide +kernel, by decide +kernel⟩
theorem ok_X7_setDuration : zOk M_X7_setDuration := ⟨rfl, by decide +kernel, zgw_in (List.mem_of_getElem? (i := 1093) (by decide +kernel)) rfl, zgw_in (List.mem_of_getElem? (i := 95) (by decide +kernel)) rfl, by decide +kernel, by decide +kernel⟩
theorem ok_X7_slackOf : zOk M_X7_slackOf := ⟨rfl, by decide +kernel, zgw_in (List.mem_of_getElem? (i := 1141) (by decide +kernel)) rfl, zgw_in (List.mem_of_getElem? (i := 95) (by decide +kernel)) rfl, by decide +kernel, by decide +kernel⟩
theorem ok_X7_whyNotBorrow : zOk M_X7_whyNotBorrow := ⟨rfl, by decide +kernel, zgw_in (List.mem_of_getElem? (i := 1137) (by decide +kernel)) rfl, zgw_in (List.mem_of_getElem? (i := 95) (by decide +kernel)) rfl, by decide +kernel, by decide +kernel⟩
theorem ok_X7_whyNotBack : zOk M_X7_whyNotBack := ⟨rfl, by decide +kernel, zgw_in (List.mem_of_getElem? (i := 1153) (by decide +kernel)) rfl, zgw_in (List.mem_of_getElem? (i := 95) (by decide +kernel)) rfl, by decide +kernel, by decide +kernel⟩
theorem ok_X7_reserves : zOk M_X7_reserves := ⟨rfl, by decide +kernel, zgw_in (List.mem_of_getElem? (i := 1145) (by decide +kernel)) rfl, zgw_in (List.mem_of_getElem? (i := 95) (by decide +kernel)) rfl, by decide +kernel, by decide +kernel⟩
theorem ok_X7_borrow : zOk M_X7_borrow := ⟨rfl, by decide +kernel, zgw_in (List.mem_of_getElem? (i := 1133) (by decide +kernel)) rfl, zgw_in (List.mem_of_getElem? (i := 95) (by decide +kernel)) rfl, by decide +kernel, by decide +kernel⟩
theorem ok_X7_giveBack : zOk M_X7_giveBack := ⟨rfl, by decide +kernel, zgw_in (List.mem_of_getElem? (i := 1149) (by decide +kernel)) rfl, zgw_in (List.mem_of_getElem? (i := 95) (by decide +kernel)) rfl, by decide +kernel, by decide +kernel⟩
theorem ok_X7_whyNotUntil : zOk M_X7_whyNotUntil := ⟨rfl, by decide +kernel, zgw_in (List.mem_of_getElem? (i := 1160) (by decide +kernel)) rfl, zgw_in (List.mem_of_getElem? (i := 95) (by decide +kernel)) rfl, by decide +kernel, by decide +kernel⟩
theorem ok_X7_setDeadline : zOk M_X7_setDeadline := ⟨rfl, by decide +kernel, zgw_in (List.mem_of_getElem? (i := 1157) (by decide +kernel)) rfl, zgw_in (List.mem_of_getElem? (i := 95) (by decide +kernel)) rfl, by decide +kernel, by decide +kernel⟩
theorem ok_X7_nodeValue : zOk M_X7_nodeValue := ⟨rfl, by decide +kernel, zgw_in (List.mem_of_getElem? (i := 1172) (by decide +kernel)) rfl, zgw_in (List.mem_of_getElem? (i := 95) (by decide +kernel)) rfl, by decide +kernel, by decide +kernel⟩
theorem ok_X7_node : zOk M_X7_node := ⟨rfl, by decide +kernel, zgw_in (List.mem_of_getElem? (i := 1168) (by decide +kernel)) rfl, zgw_in (List.mem_of_getElem? (i := 95) (by decide +kernel)) rfl, by decide +kernel, by decide +kernel⟩
theorem ok_X7_isCriticalRow : zOk M_X7_isCriticalRow := ⟨rfl, by decide +kernel, zgw_in (List.mem_of_getElem? (i := 1188) (by decide +kernel)) rfl, zgw_in (List.mem_of_getElem? (i := 95) (by decide +kernel)) rfl, by decide +kernel, by decide +kernel⟩
theorem ok_X7_whyNotRow : zOk M_X7_whyNotRow := ⟨rfl, by decide +kernel, zgw_in (List.mem_of_getElem? (i := 1180) (by decide +kernel)) rfl, zgw_in (List.mem_of_getElem? (i := 95) (by decide +kernel)) rfl, by decide +kernel, by decide +kernel⟩
theorem ok_X7_rowValue : zOk M_X7_rowValue := ⟨rfl, by decide +kernel, zgw_in (List.mem_of_getElem? (i := 1184) (by decide +kernel)) rfl, zgw_in (List.mem_of_getElem? (i := 95) (by decide +kernel)) rfl, by decide +kernel, by decide +kernel⟩
theorem ok_X7_row : zOk M_X7_row := ⟨rfl, by decide +kernel, zgw_in (List.mem_of_getElem? (i := 1176) (by decide +kernel)) rfl, zgw_in (List.mem_of_getElem? (i := 95) (by decide +kernel)) rfl, by decide +kernel, by decide +kernel⟩
theorem ok_X7_child : zOk M_X7_child := ⟨rfl, by decide +kernel, zgw_in (List.mem_of_getElem? (i := 1192) (by decide +kernel)) rfl, zgw_in (List.mem_of_getElem? (i := 95) (by decide +kernel)) rfl, by decide +kernel, by decide +kernel⟩
theorem ok_X7_layCritical : zOk M_X7_layCritical := ⟨rfl, by decide +kernel, zgw_in (List.mem_of_getElem? (i := 1200) (by decide +kernel)) rfl, zgw_in (List.mem_of_getElem? (i := 95) (by decide +kernel)) rfl, by decide +kernel, by decide +kernel⟩
theorem ok_X7_critical : zOk M_X7_critical := ⟨rfl, by decide +kernel, zgw_in (List.mem_of_getElem? (i := 1196) (by decide +kernel)) rfl, zgw_in (List.mem_of_getElem? (i := 95) (by decide +kernel)) rfl, by decide +kernel, by decide +kernel⟩
theorem ok_X7_runningAt : zOk M_X7_runningAt := ⟨rfl, by decide +kernel, zgw_in (List.mem_of_getElem? (i := 1208) (by decide +kernel)) rfl, zgw_in (List.mem_of_getElem? (i := 95) (by decide +kernel)) rfl, by decide +kernel, by decide +kernel⟩
theorem ok_X7_running : zOk M_X7_running := ⟨rfl, by decide +kernel, zgw_in (List.mem_of_getElem? (i := 1204) (by decide +kernel)) rfl, zgw_in (List.mem_of_getElem? (i := 95) (by decide +kernel)) rfl, by decide +kernel, by decide +kernel⟩
theorem ok_X7_wholeValue : zOk M_X7_wholeValue := ⟨rfl, by decide +kernel, zgw_in (List.mem_of_getElem? (i := 1216) (by decide +kernel)) rfl, zgw_in (List.mem_of_getElem? (i := 95) (by decide +kernel)) rfl, by decide +kernel, by decide +kernel⟩
theorem ok_X7_whole : zOk M_X7_whole := ⟨rfl, by decide +kernel, zgw_in (List.mem_of_getElem? (i := 1212) (by decide +kernel)) rfl, zgw_in (List.mem_of_getElem? (i := 95) (by decide +kernel)) rfl, by decide +kernel, by decide +kernel⟩
theorem ok_X7_putAside : zOk M_X7_putAside := ⟨rfl, by decide +kernel, zgw_in (List.mem_of_getElem? (i := 1228) (by decide +kernel)) rfl, zgw_in (List.mem_of_getElem? (i := 95) (by decide +kernel)) rfl, by decide +kernel, by decide +kernel⟩
theorem ok_X7_comesBack : zOk M_X7_comesBack := ⟨rfl, by decide +kernel, zgw_in (List.mem_of_getElem? (i := 1232) (by decide +kernel)) rfl, zgw_in (List.mem_of_getElem? (i := 95) (by decide +kernel)) rfl, by decide +kernel, by decide +kernel⟩
theorem ok_X7_endBy : zOk M_X7_endBy := ⟨rfl, by decide +kernel, zgw_in (List.mem_of_getElem? (i := 1224) (by decide +kernel)) rfl, zgw_in (List.mem_of_getElem? (i := 95) (by decide +kernel)) rfl, by decide +kernel, by decide +kernel⟩
theorem ok_X7_endWith : zOk M_X7_endWith := ⟨rfl, by decide +kernel, zgw_in (List.mem_of_getElem? (i := 1220) (by decide +kernel)) rfl, zgw_in (List.mem_of_getElem? (i := 95) (by decide +kernel)) rfl, by decide +kernel, by decide +kernel⟩
theorem ok_X7_growsTo : zOk M_X7_growsTo := ⟨rfl, by decide +kernel, zgw_in (List.mem_of_getElem? (i := 1236) (by decide +kernel)) rfl, zgw_in (List.mem_of_getElem? (i := 95) (by decide +kernel)) rfl, by decide +kernel, by decide +kernel⟩
theorem ok_X7_cutTask : zOk M_X7_cutTask := ⟨rfl, by decide +kernel, zgw_in (List.mem_of_getElem? (i := 1244) (by decide +kernel)) rfl, zgw_in (List.mem_of_getElem? (i := 95) (by decide +kernel)) rfl, by decide +kernel, by decide +kernel⟩
theorem ok_X7_bestCut : zOk M_X7_bestCut := ⟨rfl, by decide +kernel, zgw_in (List.mem_of_getElem? (i := 1240) (by decide +kernel)) rfl, zgw_in (List.mem_of_getElem? (i := 95) (by decide +kernel)) rfl, by decide +kernel, by decide +kernel⟩
theorem ok_X7_slackIf : zOk M_X7_slackIf := ⟨rfl, by decide +kernel, zgw_in (List.mem_of_getElem? (i := 1248) (by decide +kernel)) rfl, zgw_in (List.mem_of_getElem? (i := 95) (by decide +kernel)) rfl, by decide +kernel, by decide +kernel⟩
theorem ok_X7_reason : zOk M_X7_reason := ⟨rfl, by decide +kernel, zgw_in (List.mem_of_getElem? (i := 1252) (by decide +kernel)) rfl, zgw_in (List.mem_of_getElem? (i := 95) (by decide +kernel)) rfl, by decide +kernel, by decide +kernel⟩
theorem ok_X7_type : zOk M_X7_type := ⟨rfl, by decide +kernel, zgw_in (List.mem_of_getElem? (i := 1256) (by decide +kernel)) rfl, zgw_in (List.mem_of_getElem? (i := 95) (by decide +kernel)) rfl, by decide +kernel, by decide +kernel⟩
theorem ok_X7_clearCommands : zOk M_X7_clearCommands := ⟨rfl, by decide +kernel, zgw_in (List.mem_of_getElem? (i := 1260) (by decide +kernel)) rfl, zgw_in (List.mem_of_getElem? (i := 95) (by decide +kernel)) rfl, by decide +kernel, by decide +kernel⟩
theorem ok_X7_here : zOk M_X7_here := ⟨rfl, by decide +kernel, zgw_in (List.mem_of_getElem? (i := 1276) (by decide +kernel)) rfl, zgw_in (List.mem_of_getElem? (i := 95) (by decide +kernel)) rfl, by decide +kernel, by decide +kernel⟩
theorem ok_X7_passSpaces : zOk M_X7_passSpaces := ⟨rfl, by decide +kernel, zgw_in (List.mem_of_getElem? (i := 1272) (by decide +kernel)) rfl, zgw_in (List.mem_of_getElem? (i := 95) (by decide +kernel)) rfl, by decide +kernel, by decide +kernel⟩
theorem ok_X7_word : zOk M_X7_word := ⟨rfl, by decide +kernel, zgw_in (List.mem_of_getElem? (i := 1284) (by decide +kernel)) rfl, zgw_in (List.mem_of_getElem? (i := 95) (by decide +kernel)) rfl, by decide +kernel, by decide +kernel⟩
theorem ok_X7_numbersOf : zOk M_X7_numbersOf := ⟨rfl, by decide +kernel, zgw_in (List.mem_of_getElem? (i := 1298) (by decide +kernel)) rfl, zgw_in (List.mem_of_getElem? (i := 95) (by decide +kernel)) rfl, by decide +kernel, by decide +kernel⟩
theorem ok_X7_isNumber : zOk M_X7_isNumber := ⟨rfl, by decide +kernel, zgw_in (List.mem_of_getElem? (i := 1302) (by decide +kernel)) rfl, zgw_in (List.mem_of_getElem? (i := 95) (by decide +kernel)) rfl, by decide +kernel, by decide +kernel⟩
theorem ok_X7_command : zOk M_X7_command := ⟨rfl, by decide +kernel, zgw_in (List.mem_of_getElem? (i := 1280) (by decide +kernel)) rfl, zgw_in (List.mem_of_getElem? (i := 95) (by decide +kernel)) rfl, by decide +kernel, by decide +kernel⟩
theorem ok_X7_fault : zOk M_X7_fault := ⟨rfl, by decide +kernel, zgw_in (List.mem_of_getElem? (i := 1268) (by decide +kernel)) rfl, zgw_in (List.mem_of_getElem? (i := 95) (by decide +kernel)) rfl, by decide +kernel, by decide +kernel⟩
theorem ok_X7_does : zOk M_X7_does := ⟨rfl, by decide +kernel, zgw_in (List.mem_of_getElem? (i := 1306) (by decide +kernel)) rfl, zgw_in (List.mem_of_getElem? (i := 95) (by decide +kernel)) rfl, by decide +kernel, by decide +kernel⟩
theorem ok_X7_changes : zOk M_X7_changes := ⟨rfl, by decide +kernel, zgw_in (List.mem_of_getElem? (i := 1310) (by decide +kernel)) rfl, zgw_in (List.mem_of_getElem? (i := 95) (by decide +kernel)) rfl, by decide +kernel, by decide +kernel⟩
theorem ok_X7_runCommands : zOk M_X7_runCommands := ⟨rfl, by decide +kernel, zgw_in (List.mem_of_getElem? (i := 1264) (by decide +kernel)) rfl, zgw_in (List.mem_of_getElem? (i := 95) (by decide +kernel)) rfl, by decide +kernel, by decide +kernel⟩
theorem ok_X7_undo : zOk M_X7_undo := ⟨rfl, by decide +kernel, zgw_in (List.mem_of_getElem? (i := 1314) (by decide +kernel)) rfl, zgw_in (List.mem_of_getElem? (i := 95) (by decide +kernel)) rfl, by decide +kernel, by decide +kernel⟩
theorem ok_X7_digest : zOk M_X7_digest := ⟨rfl, by decide +kernel, zgw_in (List.mem_of_getElem? (i := 1318) (by decide +kernel)) rfl, zgw_in (List.mem_of_getElem? (i := 95) (by decide +kernel)) rfl, by decide +kernel, by decide +kernel⟩
theorem fl_X2_9 : zFl RX2 9 0 0 := ⟨by decide, by decide, zgw_in (List.mem_of_getElem? (i := 125) (by decide +kernel)) rfl⟩
theorem fl_X2_15 : zFl RX2 15 0 1 := ⟨by decide, by decide, zgw_in (List.mem_of_getElem? (i := 126) (by decide +kernel)) rfl⟩
theorem fl_X2_19 : zFl RX2 19 0 2 := ⟨by decide, by decide, zgw_in (List.mem_of_getElem? (i := 128) (by decide +kernel)) rfl⟩
theorem fl_X2_22 : zFl RX2 22 0 3 := ⟨by decide, by decide, zgw_in (List.mem_of_getElem? (i := 130) (by decide +kernel)) rfl⟩
theorem fl_X2_25 : zFl RX2 25 0 4 := ⟨by decide, by decide, zgw_in (List.mem_of_getElem? (i := 131) (by decide +kernel)) rfl⟩
theorem fl_X3_9 : zFl RX3 9 1 0 := ⟨by decide, by decide, zgw_in (List.mem_of_getElem? (i := 158) (by decide +kernel)) rfl⟩
theorem fl_X3_15 : zFl RX3 15 1 1 := ⟨by decide, by decide, zgw_in (List.mem_of_getElem? (i := 160) (by decide +kernel)) rfl⟩
theorem fl_X3_19 : zFl RX3 19 1 2 := ⟨by decide, by decide, zgw_in (List.mem_of_getElem? (i := 163) (by decide +kernel)) rfl⟩
theorem fl_X3_22 : zFl RX3 22 1 3 := ⟨by decide, by decide, zgw_in (List.mem_of_getElem? (i := 165) (by decide +kernel)) rfl⟩
theorem fl_X3_25 : zFl RX3 25 1 4 := ⟨by decide, by decide, zgw_in (List.mem_of_getElem? (i := 167) (by decide +kernel)) rfl⟩
theorem fl_X3_28 : zFl RX3 28 1 5 := ⟨by decide, by decide, zgw_in (List.mem_of_getElem? (i := 169) (by decide +kernel)) rfl⟩
theorem fl_X3_31 : zFl RX3 31 1 6 := ⟨by decide, by decide, zgw_in (List.mem_of_getElem? (i := 171) (by decide +kernel)) rfl⟩
theorem fl_X3_35 : zFl RX3 35 1 7 := ⟨by decide, by decide, zgw_in (List.mem_of_getElem? (i := 173) (by decide +kernel)) rfl⟩
theorem fl_X3_38 : zFl RX3 38 1 8 := ⟨by decide, by decide, zgw_in (List.mem_of_getElem? (i := 175) (by decide +kernel)) rfl⟩
theorem fl_X3_41 : zFl RX3 41 1 9 := ⟨by decide, by decide, zgw_in (List.mem_of_getElem? (i := 177) (by decide +kernel)) rfl⟩
theorem fl_X3_44 : zFl RX3 44 1 10 := ⟨by decide, by decide, zgw_in (List.mem_of_getElem? (i := 179) (by decide +kernel)) rfl⟩
theorem fl_X3_47 : zFl RX3 47 1 11 := ⟨by decide, by decide, zgw_in (List.mem_of_getElem? (i := 181) (by decide +kernel)) rfl⟩
theorem fl_X3_50 : zFl RX3 50 1 12 := ⟨by decide, by decide, zgw_in (List.mem_of_getElem? (i := 183) (by decide +kernel)) rfl⟩
theorem fl_X3_53 : zFl RX3 53 1 13 := ⟨by decide, by decide, zgw_in (List.mem_of_getElem? (i := 185) (by decide +kernel)) rfl⟩
theorem fl_X3_56 : zFl RX3 56 1 14 := ⟨by decide, by decide, zgw_in (List.mem_of_getElem? (i := 187) (by decide +kernel)) rfl⟩
theorem fl_X5_11 : zFl RX5 11 2 0 := ⟨by decide, by decide, zgw_in (List.mem_of_getElem? (i := 220) (by decide +kernel)) rfl⟩
theorem fl_X5_17 : zFl RX5 17 2 1 := ⟨by decide, by decide, zgw_in (List.mem_of_getElem? (i := 221) (by decide +kernel)) rfl⟩
theorem fl_X5_20 : zFl RX5 20 2 2 := ⟨by decide, by decide, zgw_in (List.mem_of_getElem? (i := 222) (by decide +kernel)) rfl⟩
theorem fl_X5_24 : zFl RX5 24 2 3 := ⟨by decide, by decide, zgw_in (List.mem_of_getElem? (i := 223) (by decide +kernel)) rfl⟩
theorem fl_X5_27 : zFl RX5 27 2 4 := ⟨by decide, by decide, zgw_in (List.mem_of_getElem? (i := 224) (by decide +kernel)) rfl⟩
theorem fl_X5_35 : zFl RX5 35 1 0 := ⟨by decide, by decide, zgw_in (List.mem_of_getElem? (i := 159) (by decide +kernel)) rfl⟩
theorem fl_X5_47 : zFl RX5 47 1 2 := ⟨by decide, by decide, zgw_in (List.mem_of_getElem? (i := 164) (by decide +kernel)) rfl⟩
theorem fl_X5_50 : zFl RX5 50 1 6 := ⟨by decide, by decide, zgw_in (List.mem_of_getElem? (i := 172) (by decide +kernel)) rfl⟩
theorem fl_X5_58 : zFl RX5 58 1 7 := ⟨by decide, by decide, zgw_in (List.mem_of_getElem? (i := 174) (by decide +kernel)) rfl⟩
theorem fl_X5_61 : zFl RX5 61 1 3 := ⟨by decide, by decide, zgw_in (List.mem_of_getElem? (i := 166) (by decide +kernel)) rfl⟩
theorem fl_X5_64 : zFl RX5 64 1 14 := ⟨by decide, by decide, zgw_in (List.mem_of_getElem? (i := 188) (by decide +kernel)) rfl⟩
theorem fl_X5_68 : zFl RX5 68 1 1 := ⟨by decide, by decide, zgw_in (List.mem_of_getElem? (i := 161) (by decide +kernel)) rfl⟩
theorem fl_X5_72 : zFl RX5 72 1 4 := ⟨by decide, by decide, zgw_in (List.mem_of_getElem? (i := 168) (by decide +kernel)) rfl⟩
theorem fl_X5_75 : zFl RX5 75 1 5 := ⟨by decide, by decide, zgw_in (List.mem_of_getElem? (i := 170) (by decide +kernel)) rfl⟩
theorem fl_X5_82 : zFl RX5 82 1 10 := ⟨by decide, by decide, zgw_in (List.mem_of_getElem? (i := 180) (by decide +kernel)) rfl⟩
theorem fl_X5_89 : zFl RX5 89 1 9 := ⟨by decide, by decide, zgw_in (List.mem_of_getElem? (i := 178) (by decide +kernel)) rfl⟩
theorem fl_X5_92 : zFl RX5 92 1 8 := ⟨by decide, by decide, zgw_in (List.mem_of_getElem? (i := 176) (by decide +kernel)) rfl⟩
theorem fl_X5_95 : zFl RX5 95 1 11 := ⟨by decide, by decide, zgw_in (List.mem_of_getElem? (i := 182) (by decide +kernel)) rfl⟩
theorem fl_X5_101 : zFl RX5 101 1 12 := ⟨by decide, by decide, zgw_in (List.mem_of_getElem? (i := 184) (by decide +kernel)) rfl⟩
theorem fl_X5_104 : zFl RX5 104 1 13 := ⟨by decide, by decide, zgw_in (List.mem_of_getElem? (i := 186) (by decide +kernel)) rfl⟩
theorem fl_X6_10 : zFl RX6 10 3 0 := ⟨by decide, by decide, zgw_in (List.mem_of_getElem? (i := 236) (by decide +kernel)) rfl⟩
theorem fl_X6_18 : zFl RX6 18 3 1 := ⟨by decide, by decide, zgw_in (List.mem_of_getElem? (i := 237) (by decide +kernel)) rfl⟩
theorem fl_X6_22 : zFl RX6 22 3 2 := ⟨by decide, by decide, zgw_in (List.mem_of_getElem? (i := 238) (by decide +kernel)) rfl⟩
theorem fl_X6_27 : zFl RX6 27 3 3 := ⟨by decide, by decide, zgw_in (List.mem_of_getElem? (i := 239) (by decide +kernel)) rfl⟩
theorem fl_X6_135 : zFl RX6 135 0 1 := ⟨by decide, by decide, zgw_in (List.mem_of_getElem? (i := 127) (by decide +kernel)) rfl⟩
theorem fl_X6_186 : zFl RX6 186 1 1 := ⟨by decide, by decide, zgw_in (List.mem_of_getElem? (i := 162) (by decide +kernel)) rfl⟩
theorem fl_X6_236 : zFl RX6 236 0 2 := ⟨by decide, by decide, zgw_in (List.mem_of_getElem? (i := 129) (by decide +kernel)) rfl⟩
theorem fl_X7_7 : zFl RX7 7 4 0 := ⟨by decide, by decide, zgw_in (List.mem_of_getElem? (i := 944) (by decide +kernel)) rfl⟩
theorem fl_X7_13 : zFl RX7 13 4 3 := ⟨by decide, by decide, zgw_in (List.mem_of_getElem? (i := 947) (by decide +kernel)) rfl⟩
theorem fl_X7_16 : zFl RX7 16 4 5 := ⟨by decide, by decide, zgw_in (List.mem_of_getElem? (i := 949) (by decide +kernel)) rfl⟩
theorem fl_X7_19 : zFl RX7 19 4 6 := ⟨by decide, by decide, zgw_in (List.mem_of_getElem? (i := 950) (by decide +kernel)) rfl⟩
theorem fl_X7_22 : zFl RX7 22 4 7 := ⟨by decide, by decide, zgw_in (List.mem_of_getElem? (i := 951) (by decide +kernel)) rfl⟩
theorem fl_X7_25 : zFl RX7 25 4 8 := ⟨by decide, by decide, zgw_in (List.mem_of_getElem? (i := 952) (by decide +kernel)) rfl⟩
theorem fl_X7_28 : zFl RX7 28 4 9 := ⟨by decide, by decide, zgw_in (List.mem_of_getElem? (i := 953) (by decide +kernel)) rfl⟩
theorem fl_X7_31 : zFl RX7 31 4 10 := ⟨by decide, by decide, zgw_in (List.mem_of_getElem? (i := 954) (by decide +kernel)) rfl⟩
theorem fl_X7_35 : zFl RX7 35 4 13 := ⟨by decide, by decide, zgw_in (List.mem_of_getElem? (i := 957) (by decide +kernel)) rfl⟩
theorem fl_X7_38 : zFl RX7 38 4 14 := ⟨by decide, by decide, zgw_in (List.mem_of_getElem? (i := 958) (by decide +kernel)) rfl⟩
theorem fl_X7_41 : zFl RX7 41 4 1 := ⟨by decide, by decide, zgw_in (List.mem_of_getElem? (i := 945) (by decide +kernel)) rfl⟩
theorem fl_X7_57 : zFl RX7 57 4 2 := ⟨by decide, by decide, zgw_in (List.mem_of_getElem? (i := 946) (by decide +kernel)) rfl⟩
theorem fl_X7_183 : zFl RX7 183 4 4 := ⟨by decide, by decide, zgw_in (List.mem_of_getElem? (i := 948) (by decide +kernel)) rfl⟩
theorem fl_X7_201 : zFl RX7 201 4 11 := ⟨by decide, by decide, zgw_in (List.mem_of_getElem? (i := 955) (by decide +kernel)) rfl⟩
theorem fl_X7_232 : zFl RX7 232 4 12 := ⟨by decide, by decide, zgw_in (List.mem_of_getElem? (i := 956) (by decide +kernel)) rfl⟩
theorem lk_X2_3 {y : zM} (hy : (zname y).cls = RX2) : Cond.methodLink (zname y).cls 3 Lib.objectInit ∈ zgw ∧ Cond.instanceMethod Lib.objectInit ∈ zgw ∧ Cond.code Lib.objectInit ⟨#[0xb1]⟩ 1 none ∈ zgw := by
  refine ⟨?_, zgw_in (List.mem_of_getElem? (i := 117) (by decide +kernel)) rfl, zgw_in (List.mem_of_getElem? (i := 118) (by decide +kernel)) rfl⟩
  rw [hy]
  exact zgw_in (List.mem_of_getElem? (i := 124) (by decide +kernel)) rfl
theorem lk_X2_28 {y : zM} (hy : (zname y).cls = RX2) : zLkV y M_X2_rewind 28 0 := by
  refine ⟨?_, zgw_in (List.mem_of_getElem? (i := 297) (by decide +kernel)) rfl, zgw_in (List.mem_of_getElem? (i := 298) (by decide +kernel)) rfl, by decide +kernel⟩
  rw [hy]
  exact zgw_in (List.mem_of_getElem? (i := 296) (by decide +kernel)) rfl
theorem lk_X2_31 {y : zM} (hy : (zname y).cls = RX2) : zLkV y M_X2_readCommand 31 0 := by
  refine ⟨?_, zgw_in (List.mem_of_getElem? (i := 301) (by decide +kernel)) rfl, zgw_in (List.mem_of_getElem? (i := 302) (by decide +kernel)) rfl, by decide +kernel⟩
  rw [hy]
  exact zgw_in (List.mem_of_getElem? (i := 300) (by decide +kernel)) rfl
theorem lk_X2_35 {y : zM} (hy : (zname y).cls = RX2) : zLkV y M_X2_skipSpaces 35 0 := by
  refine ⟨?_, zgw_in (List.mem_of_getElem? (i := 306) (by decide +kernel)) rfl, zgw_in (List.mem_of_getElem? (i := 1) (by decide +kernel)) rfl, by decide +kernel⟩
  rw [hy]
  exact zgw_in (List.mem_of_getElem? (i := 304) (by decide +kernel)) rfl
theorem lk_X2_39 {y : zM} (hy : (zname y).cls = RX2) : zLkV y M_X2_peek 39 0 := by
  refine ⟨?_, zgw_in (List.mem_of_getElem? (i := 310) (by decide +kernel)) rfl, zgw_in (List.mem_of_getElem? (i := 2) (by decide +kernel)) rfl, by decide +kernel⟩
  rw [hy]
  exact zgw_in (List.mem_of_getElem? (i := 308) (by decide +kernel)) rfl
theorem lk_X2_43 {y : zM} (hy : (zname y).cls = RX2) : zLkV y M_X2_readWord 43 0 := by
  refine ⟨?_, zgw_in (List.mem_of_getElem? (i := 314) (by decide +kernel)) rfl, zgw_in (List.mem_of_getElem? (i := 3) (by decide +kernel)) rfl, by decide +kernel⟩
  rw [hy]
  exact zgw_in (List.mem_of_getElem? (i := 312) (by decide +kernel)) rfl
theorem lk_X2_51 {y : zM} (hy : (zname y).cls = RX2) : zLkV y M_X2_readNumbers 51 1 := by
  refine ⟨?_, zgw_in (List.mem_of_getElem? (i := 379) (by decide +kernel)) rfl, zgw_in (List.mem_of_getElem? (i := 6) (by decide +kernel)) rfl, by decide +kernel⟩
  rw [hy]
  exact zgw_in (List.mem_of_getElem? (i := 377) (by decide +kernel)) rfl
theorem lk_X2_55 {y : zM} (hy : (zname y).cls = RX2) : zLkV y M_X2_readSemicolon 55 0 := by
  refine ⟨?_, zgw_in (List.mem_of_getElem? (i := 391) (by decide +kernel)) rfl, zgw_in (List.mem_of_getElem? (i := 9) (by decide +kernel)) rfl, by decide +kernel⟩
  rw [hy]
  exact zgw_in (List.mem_of_getElem? (i := 389) (by decide +kernel)) rfl
theorem lk_X2_58 {y : zM} (hy : (zname y).cls = RX2) : ((zname y).cls, 58, zname M_X6_isBetween, "SlackRows") ∈ zNestM ∧ Cond.static (zname M_X6_isBetween) ∈ zgw ∧ (parseMethodDescriptor (zname M_X6_isBetween).desc).map (fun d => d.parameters.length) = some 3 := by
  refine ⟨?_, zgw_in (List.mem_of_getElem? (i := 321) (by decide +kernel)) rfl, by decide +kernel⟩
  rw [hy]
  decide +kernel
theorem lk_X2_62 {y : zM} (hy : (zname y).cls = RX2) : zLkV y M_X2_isAtLetter 62 0 := by
  refine ⟨?_, zgw_in (List.mem_of_getElem? (i := 318) (by decide +kernel)) rfl, zgw_in (List.mem_of_getElem? (i := 4) (by decide +kernel)) rfl, by decide +kernel⟩
  rw [hy]
  exact zgw_in (List.mem_of_getElem? (i := 316) (by decide +kernel)) rfl
theorem lk_X2_73 {y : zM} (hy : (zname y).cls = RX2) : zLkV y M_X2_isWordAt 73 2 := by
  refine ⟨?_, zgw_in (List.mem_of_getElem? (i := 327) (by decide +kernel)) rfl, zgw_in (List.mem_of_getElem? (i := 5) (by decide +kernel)) rfl, by decide +kernel⟩
  rw [hy]
  exact zgw_in (List.mem_of_getElem? (i := 325) (by decide +kernel)) rfl
theorem lk_X2_85 {y : zM} (hy : (zname y).cls = RX2) : zLkV y M_X2_isAtDigit 85 0 := by
  refine ⟨?_, zgw_in (List.mem_of_getElem? (i := 383) (by decide +kernel)) rfl, zgw_in (List.mem_of_getElem? (i := 7) (by decide +kernel)) rfl, by decide +kernel⟩
  rw [hy]
  exact zgw_in (List.mem_of_getElem? (i := 381) (by decide +kernel)) rfl
theorem lk_X2_88 {y : zM} (hy : (zname y).cls = RX2) : zLkV y M_X2_readDigits 88 0 := by
  refine ⟨?_, zgw_in (List.mem_of_getElem? (i := 387) (by decide +kernel)) rfl, zgw_in (List.mem_of_getElem? (i := 8) (by decide +kernel)) rfl, by decide +kernel⟩
  rw [hy]
  exact zgw_in (List.mem_of_getElem? (i := 385) (by decide +kernel)) rfl
theorem lk_X3_3 {y : zM} (hy : (zname y).cls = RX3) : Cond.methodLink (zname y).cls 3 Lib.objectInit ∈ zgw ∧ Cond.instanceMethod Lib.objectInit ∈ zgw ∧ Cond.code Lib.objectInit ⟨#[0xb1]⟩ 1 none ∈ zgw := by
  refine ⟨?_, zgw_in (List.mem_of_getElem? (i := 117) (by decide +kernel)) rfl, zgw_in (List.mem_of_getElem? (i := 118) (by decide +kernel)) rfl⟩
  rw [hy]
  exact zgw_in (List.mem_of_getElem? (i := 157) (by decide +kernel)) rfl
theorem lk_X3_60 {y : zM} (hy : (zname y).cls = RX3) : zLkV y M_X3_isCritical 60 0 := by
  refine ⟨?_, zgw_in (List.mem_of_getElem? (i := 549) (by decide +kernel)) rfl, zgw_in (List.mem_of_getElem? (i := 550) (by decide +kernel)) rfl, by decide +kernel⟩
  rw [hy]
  exact zgw_in (List.mem_of_getElem? (i := 548) (by decide +kernel)) rfl
theorem lk_X3_64 {y : zM} (hy : (zname y).cls = RX3) : zLkV y M_X3_isWithin 64 1 := by
  refine ⟨?_, zgw_in (List.mem_of_getElem? (i := 456) (by decide +kernel)) rfl, zgw_in (List.mem_of_getElem? (i := 457) (by decide +kernel)) rfl, by decide +kernel⟩
  rw [hy]
  exact zgw_in (List.mem_of_getElem? (i := 455) (by decide +kernel)) rfl
theorem lk_X3_68 {y : zM} (hy : (zname y).cls = RX3) : Cond.methodLink (zname y).cls 68 Lib.Math.max.name ∈ zgw ∧ Cond.static Lib.Math.max.name ∈ zgw ∧ Cond.initialized "java/lang/Math" ∈ zgw ∧ Cond.code Lib.Math.max.name Lib.Math.max.code 2 (some .int) ∈ zgw := by
  refine ⟨?_, zgw_in (List.mem_of_getElem? (i := 266) (by decide +kernel)) rfl, zgw_in (List.mem_of_getElem? (i := 106) (by decide +kernel)) rfl, zgw_in (List.mem_of_getElem? (i := 267) (by decide +kernel)) rfl⟩
  rw [hy]
  exact zgw_in (List.mem_of_getElem? (i := 265) (by decide +kernel)) rfl
theorem lk_X3_74 {y : zM} (hy : (zname y).cls = RX3) : zLkV y M_X3_reserveWith 74 1 := by
  refine ⟨?_, zgw_in (List.mem_of_getElem? (i := 262) (by decide +kernel)) rfl, zgw_in (List.mem_of_getElem? (i := 263) (by decide +kernel)) rfl, by decide +kernel⟩
  rw [hy]
  exact zgw_in (List.mem_of_getElem? (i := 261) (by decide +kernel)) rfl
theorem lk_X3_78 {y : zM} (hy : (zname y).cls = RX3) : zLkV y M_X3_rowLength 78 1 := by
  refine ⟨?_, zgw_in (List.mem_of_getElem? (i := 273) (by decide +kernel)) rfl, zgw_in (List.mem_of_getElem? (i := 274) (by decide +kernel)) rfl, by decide +kernel⟩
  rw [hy]
  exact zgw_in (List.mem_of_getElem? (i := 272) (by decide +kernel)) rfl
theorem lk_X3_81 {y : zM} (hy : (zname y).cls = RX3) : zLkV y M_X3_longestRowBut 81 1 := by
  refine ⟨?_, zgw_in (List.mem_of_getElem? (i := 277) (by decide +kernel)) rfl, zgw_in (List.mem_of_getElem? (i := 278) (by decide +kernel)) rfl, by decide +kernel⟩
  rw [hy]
  exact zgw_in (List.mem_of_getElem? (i := 276) (by decide +kernel)) rfl
theorem lk_X5_3 {y : zM} (hy : (zname y).cls = RX5) : Cond.methodLink (zname y).cls 3 Lib.objectInit ∈ zgw ∧ Cond.instanceMethod Lib.objectInit ∈ zgw ∧ Cond.code Lib.objectInit ⟨#[0xb1]⟩ 1 none ∈ zgw := by
  refine ⟨?_, zgw_in (List.mem_of_getElem? (i := 117) (by decide +kernel)) rfl, zgw_in (List.mem_of_getElem? (i := 118) (by decide +kernel)) rfl⟩
  rw [hy]
  exact zgw_in (List.mem_of_getElem? (i := 150) (by decide +kernel)) rfl
theorem lk_X5_30 {y : zM} (hy : (zname y).cls = RX5) : ((zname y).cls, 30, zname M_X3_init, "SlackRows") ∈ zNestM ∧ Cond.instanceMethod (zname M_X3_init) ∈ zgw ∧ (parseMethodDescriptor (zname M_X3_init).desc).map (fun d => d.parameters.length) = some 0 := by
  refine ⟨?_, zgw_in (List.mem_of_getElem? (i := 155) (by decide +kernel)) rfl, by decide +kernel⟩
  rw [hy]
  decide +kernel
theorem lk_X5_31 {y : zM} (hy : (zname y).cls = RX5) : zLkV y M_X3_copyFrom 31 1 := by
  refine ⟨?_, zgw_in (List.mem_of_getElem? (i := 405) (by decide +kernel)) rfl, zgw_in (List.mem_of_getElem? (i := 406) (by decide +kernel)) rfl, by decide +kernel⟩
  rw [hy]
  exact zgw_in (List.mem_of_getElem? (i := 404) (by decide +kernel)) rfl
theorem lk_X5_38 {y : zM} (hy : (zname y).cls = RX5) : zLkV y M_X5_findOrder 38 0 := by
  refine ⟨?_, zgw_in (List.mem_of_getElem? (i := 481) (by decide +kernel)) rfl, zgw_in (List.mem_of_getElem? (i := 15) (by decide +kernel)) rfl, by decide +kernel⟩
  rw [hy]
  exact zgw_in (List.mem_of_getElem? (i := 479) (by decide +kernel)) rfl
theorem lk_X5_41 {y : zM} (hy : (zname y).cls = RX5) : zLkV y M_X5_measureLengths 41 0 := by
  refine ⟨?_, zgw_in (List.mem_of_getElem? (i := 489) (by decide +kernel)) rfl, zgw_in (List.mem_of_getElem? (i := 17) (by decide +kernel)) rfl, by decide +kernel⟩
  rw [hy]
  exact zgw_in (List.mem_of_getElem? (i := 487) (by decide +kernel)) rfl
theorem lk_X5_44 {y : zM} (hy : (zname y).cls = RX5) : zLkV y M_X5_tellTimes 44 1 := by
  refine ⟨?_, zgw_in (List.mem_of_getElem? (i := 498) (by decide +kernel)) rfl, zgw_in (List.mem_of_getElem? (i := 18) (by decide +kernel)) rfl, by decide +kernel⟩
  rw [hy]
  exact zgw_in (List.mem_of_getElem? (i := 496) (by decide +kernel)) rfl
theorem lk_X5_54 {y : zM} (hy : (zname y).cls = RX5) : zLkV y M_X5_findAhead 54 1 := by
  refine ⟨?_, zgw_in (List.mem_of_getElem? (i := 485) (by decide +kernel)) rfl, zgw_in (List.mem_of_getElem? (i := 16) (by decide +kernel)) rfl, by decide +kernel⟩
  rw [hy]
  exact zgw_in (List.mem_of_getElem? (i := 483) (by decide +kernel)) rfl
theorem lk_X5_78 {y : zM} (hy : (zname y).cls = RX5) : zLkV y M_X3_longestRowBut 78 1 := by
  refine ⟨?_, zgw_in (List.mem_of_getElem? (i := 277) (by decide +kernel)) rfl, zgw_in (List.mem_of_getElem? (i := 278) (by decide +kernel)) rfl, by decide +kernel⟩
  rw [hy]
  exact zgw_in (List.mem_of_getElem? (i := 491) (by decide +kernel)) rfl
theorem lk_X5_85 {y : zM} (hy : (zname y).cls = RX5) : zLkV y M_X3_lengthenRow 85 2 := by
  refine ⟨?_, zgw_in (List.mem_of_getElem? (i := 493) (by decide +kernel)) rfl, zgw_in (List.mem_of_getElem? (i := 494) (by decide +kernel)) rfl, by decide +kernel⟩
  rw [hy]
  exact zgw_in (List.mem_of_getElem? (i := 492) (by decide +kernel)) rfl
theorem lk_X5_98 {y : zM} (hy : (zname y).cls = RX5) : zLkV y M_X3_rowLength 98 1 := by
  refine ⟨?_, zgw_in (List.mem_of_getElem? (i := 273) (by decide +kernel)) rfl, zgw_in (List.mem_of_getElem? (i := 274) (by decide +kernel)) rfl, by decide +kernel⟩
  rw [hy]
  exact zgw_in (List.mem_of_getElem? (i := 500) (by decide +kernel)) rfl
theorem lk_X5_113 {y : zM} (hy : (zname y).cls = RX5) : ((zname y).cls, 113, zname M_X6_isBetween, "SlackRows") ∈ zNestM ∧ Cond.static (zname M_X6_isBetween) ∈ zgw ∧ (parseMethodDescriptor (zname M_X6_isBetween).desc).map (fun d => d.parameters.length) = some 3 := by
  refine ⟨?_, zgw_in (List.mem_of_getElem? (i := 321) (by decide +kernel)) rfl, by decide +kernel⟩
  rw [hy]
  decide +kernel
theorem lk_X5_126 {y : zM} (hy : (zname y).cls = RX5) : zLkV y M_X5_find 126 1 := by
  refine ⟨?_, zgw_in (List.mem_of_getElem? (i := 426) (by decide +kernel)) rfl, zgw_in (List.mem_of_getElem? (i := 427) (by decide +kernel)) rfl, by decide +kernel⟩
  rw [hy]
  exact zgw_in (List.mem_of_getElem? (i := 425) (by decide +kernel)) rfl
theorem lk_X5_135 {y : zM} (hy : (zname y).cls = RX5) : zLkS y M_X5_areInRange 135 3 := by
  refine ⟨?_, zgw_in (List.mem_of_getElem? (i := 434) (by decide +kernel)) rfl, by decide +kernel⟩
  rw [hy]
  exact zgw_in (List.mem_of_getElem? (i := 433) (by decide +kernel)) rfl
theorem lk_X5_139 {y : zM} (hy : (zname y).cls = RX5) : zLkV y M_X5_isPossible 139 3 := by
  refine ⟨?_, zgw_in (List.mem_of_getElem? (i := 446) (by decide +kernel)) rfl, zgw_in (List.mem_of_getElem? (i := 12) (by decide +kernel)) rfl, by decide +kernel⟩
  rw [hy]
  exact zgw_in (List.mem_of_getElem? (i := 444) (by decide +kernel)) rfl
theorem lk_X5_155 {y : zM} (hy : (zname y).cls = RX5) : zLkS y M_X5_canMoveTo 155 2 := by
  refine ⟨?_, zgw_in (List.mem_of_getElem? (i := 449) (by decide +kernel)) rfl, by decide +kernel⟩
  rw [hy]
  exact zgw_in (List.mem_of_getElem? (i := 448) (by decide +kernel)) rfl
theorem lk_X5_159 {y : zM} (hy : (zname y).cls = RX5) : zLkV y M_X3_whyNotTo 159 1 := by
  refine ⟨?_, zgw_in (List.mem_of_getElem? (i := 452) (by decide +kernel)) rfl, zgw_in (List.mem_of_getElem? (i := 453) (by decide +kernel)) rfl, by decide +kernel⟩
  rw [hy]
  exact zgw_in (List.mem_of_getElem? (i := 451) (by decide +kernel)) rfl
theorem lk_X5_163 {y : zM} (hy : (zname y).cls = RX5) : zLkV y M_X5_lateness 163 0 := by
  refine ⟨?_, zgw_in (List.mem_of_getElem? (i := 468) (by decide +kernel)) rfl, zgw_in (List.mem_of_getElem? (i := 13) (by decide +kernel)) rfl, by decide +kernel⟩
  rw [hy]
  exact zgw_in (List.mem_of_getElem? (i := 466) (by decide +kernel)) rfl
theorem lk_X5_166 {y : zM} (hy : (zname y).cls = RX5) : zLkV y M_X5_addNode 166 4 := by
  refine ⟨?_, zgw_in (List.mem_of_getElem? (i := 473) (by decide +kernel)) rfl, zgw_in (List.mem_of_getElem? (i := 14) (by decide +kernel)) rfl, by decide +kernel⟩
  rw [hy]
  exact zgw_in (List.mem_of_getElem? (i := 471) (by decide +kernel)) rfl
theorem lk_X5_170 {y : zM} (hy : (zname y).cls = RX5) : zLkV y M_X5_putLast 170 3 := by
  refine ⟨?_, zgw_in (List.mem_of_getElem? (i := 503) (by decide +kernel)) rfl, zgw_in (List.mem_of_getElem? (i := 19) (by decide +kernel)) rfl, by decide +kernel⟩
  rw [hy]
  exact zgw_in (List.mem_of_getElem? (i := 501) (by decide +kernel)) rfl
theorem lk_X5_174 {y : zM} (hy : (zname y).cls = RX5) : zLkV y M_X5_dropAll 174 1 := by
  refine ⟨?_, zgw_in (List.mem_of_getElem? (i := 507) (by decide +kernel)) rfl, zgw_in (List.mem_of_getElem? (i := 20) (by decide +kernel)) rfl, by decide +kernel⟩
  rw [hy]
  exact zgw_in (List.mem_of_getElem? (i := 505) (by decide +kernel)) rfl
theorem lk_X5_177 {y : zM} (hy : (zname y).cls = RX5) : zLkV y M_X5_changeDuration 177 2 := by
  refine ⟨?_, zgw_in (List.mem_of_getElem? (i := 512) (by decide +kernel)) rfl, zgw_in (List.mem_of_getElem? (i := 21) (by decide +kernel)) rfl, by decide +kernel⟩
  rw [hy]
  exact zgw_in (List.mem_of_getElem? (i := 510) (by decide +kernel)) rfl
theorem lk_X5_181 {y : zM} (hy : (zname y).cls = RX5) : zLkV y M_X5_changeReserve 181 2 := by
  refine ⟨?_, zgw_in (List.mem_of_getElem? (i := 517) (by decide +kernel)) rfl, zgw_in (List.mem_of_getElem? (i := 22) (by decide +kernel)) rfl, by decide +kernel⟩
  rw [hy]
  exact zgw_in (List.mem_of_getElem? (i := 515) (by decide +kernel)) rfl
theorem lk_X5_184 {y : zM} (hy : (zname y).cls = RX5) : zLkV y M_X5_plan 184 0 := by
  refine ⟨?_, zgw_in (List.mem_of_getElem? (i := 476) (by decide +kernel)) rfl, zgw_in (List.mem_of_getElem? (i := 477) (by decide +kernel)) rfl, by decide +kernel⟩
  rw [hy]
  exact zgw_in (List.mem_of_getElem? (i := 475) (by decide +kernel)) rfl
theorem lk_X5_187 {y : zM} (hy : (zname y).cls = RX5) : zLkV y M_X3_isWithin 187 1 := by
  refine ⟨?_, zgw_in (List.mem_of_getElem? (i := 456) (by decide +kernel)) rfl, zgw_in (List.mem_of_getElem? (i := 457) (by decide +kernel)) rfl, by decide +kernel⟩
  rw [hy]
  exact zgw_in (List.mem_of_getElem? (i := 509) (by decide +kernel)) rfl
theorem lk_X5_191 {y : zM} (hy : (zname y).cls = RX5) : zLkV y M_X3_reserveWith 191 1 := by
  refine ⟨?_, zgw_in (List.mem_of_getElem? (i := 262) (by decide +kernel)) rfl, zgw_in (List.mem_of_getElem? (i := 263) (by decide +kernel)) rfl, by decide +kernel⟩
  rw [hy]
  exact zgw_in (List.mem_of_getElem? (i := 514) (by decide +kernel)) rfl
theorem lk_X5_194 {y : zM} (hy : (zname y).cls = RX5) : zLkV y M_X5_end 194 0 := by
  refine ⟨?_, zgw_in (List.mem_of_getElem? (i := 282) (by decide +kernel)) rfl, zgw_in (List.mem_of_getElem? (i := 0) (by decide +kernel)) rfl, by decide +kernel⟩
  rw [hy]
  exact zgw_in (List.mem_of_getElem? (i := 280) (by decide +kernel)) rfl
theorem lk_X5_197 {y : zM} (hy : (zname y).cls = RX5) : Cond.methodLink (zname y).cls 197 Lib.Math.max.name ∈ zgw ∧ Cond.static Lib.Math.max.name ∈ zgw ∧ Cond.initialized "java/lang/Math" ∈ zgw ∧ Cond.code Lib.Math.max.name Lib.Math.max.code 2 (some .int) ∈ zgw := by
  refine ⟨?_, zgw_in (List.mem_of_getElem? (i := 266) (by decide +kernel)) rfl, zgw_in (List.mem_of_getElem? (i := 106) (by decide +kernel)) rfl, zgw_in (List.mem_of_getElem? (i := 267) (by decide +kernel)) rfl⟩
  rw [hy]
  exact zgw_in (List.mem_of_getElem? (i := 470) (by decide +kernel)) rfl
theorem lk_X5_203 {y : zM} (hy : (zname y).cls = RX5) : zLkV y M_X5_countTasks 203 0 := by
  refine ⟨?_, zgw_in (List.mem_of_getElem? (i := 538) (by decide +kernel)) rfl, zgw_in (List.mem_of_getElem? (i := 24) (by decide +kernel)) rfl, by decide +kernel⟩
  rw [hy]
  exact zgw_in (List.mem_of_getElem? (i := 536) (by decide +kernel)) rfl
theorem lk_X5_206 {y : zM} (hy : (zname y).cls = RX5) : zLkV y M_X5_countCriticalTasks 206 0 := by
  refine ⟨?_, zgw_in (List.mem_of_getElem? (i := 542) (by decide +kernel)) rfl, zgw_in (List.mem_of_getElem? (i := 25) (by decide +kernel)) rfl, by decide +kernel⟩
  rw [hy]
  exact zgw_in (List.mem_of_getElem? (i := 540) (by decide +kernel)) rfl
theorem lk_X5_209 {y : zM} (hy : (zname y).cls = RX5) : zLkV y M_X5_countCriticalRows 209 0 := by
  refine ⟨?_, zgw_in (List.mem_of_getElem? (i := 554) (by decide +kernel)) rfl, zgw_in (List.mem_of_getElem? (i := 26) (by decide +kernel)) rfl, by decide +kernel⟩
  rw [hy]
  exact zgw_in (List.mem_of_getElem? (i := 552) (by decide +kernel)) rfl
theorem lk_X5_212 {y : zM} (hy : (zname y).cls = RX5) : zLkV y M_X5_sumOfDurations 212 0 := by
  refine ⟨?_, zgw_in (List.mem_of_getElem? (i := 571) (by decide +kernel)) rfl, zgw_in (List.mem_of_getElem? (i := 29) (by decide +kernel)) rfl, by decide +kernel⟩
  rw [hy]
  exact zgw_in (List.mem_of_getElem? (i := 569) (by decide +kernel)) rfl
theorem lk_X5_215 {y : zM} (hy : (zname y).cls = RX5) : zLkV y M_X5_sumOfReserves 215 0 := by
  refine ⟨?_, zgw_in (List.mem_of_getElem? (i := 575) (by decide +kernel)) rfl, zgw_in (List.mem_of_getElem? (i := 30) (by decide +kernel)) rfl, by decide +kernel⟩
  rw [hy]
  exact zgw_in (List.mem_of_getElem? (i := 573) (by decide +kernel)) rfl
theorem lk_X5_218 {y : zM} (hy : (zname y).cls = RX5) : zLkV y M_X5_mostRunning 218 0 := by
  refine ⟨?_, zgw_in (List.mem_of_getElem? (i := 579) (by decide +kernel)) rfl, zgw_in (List.mem_of_getElem? (i := 31) (by decide +kernel)) rfl, by decide +kernel⟩
  rw [hy]
  exact zgw_in (List.mem_of_getElem? (i := 577) (by decide +kernel)) rfl
theorem lk_X5_221 {y : zM} (hy : (zname y).cls = RX5) : zLkV y M_X3_isCriticalTask 221 0 := by
  refine ⟨?_, zgw_in (List.mem_of_getElem? (i := 545) (by decide +kernel)) rfl, zgw_in (List.mem_of_getElem? (i := 546) (by decide +kernel)) rfl, by decide +kernel⟩
  rw [hy]
  exact zgw_in (List.mem_of_getElem? (i := 544) (by decide +kernel)) rfl
theorem lk_X5_225 {y : zM} (hy : (zname y).cls = RX5) : zLkV y M_X5_isCriticalRow 225 2 := by
  refine ⟨?_, zgw_in (List.mem_of_getElem? (i := 558) (by decide +kernel)) rfl, zgw_in (List.mem_of_getElem? (i := 27) (by decide +kernel)) rfl, by decide +kernel⟩
  rw [hy]
  exact zgw_in (List.mem_of_getElem? (i := 556) (by decide +kernel)) rfl
theorem lk_X5_229 {y : zM} (hy : (zname y).cls = RX5) : zLkV y M_X5_countRunning 229 1 := by
  refine ⟨?_, zgw_in (List.mem_of_getElem? (i := 582) (by decide +kernel)) rfl, zgw_in (List.mem_of_getElem? (i := 583) (by decide +kernel)) rfl, by decide +kernel⟩
  rw [hy]
  exact zgw_in (List.mem_of_getElem? (i := 581) (by decide +kernel)) rfl
theorem lk_X5_232 {y : zM} (hy : (zname y).cls = RX5) : zLkV y M_X3_runsAt 232 1 := by
  refine ⟨?_, zgw_in (List.mem_of_getElem? (i := 586) (by decide +kernel)) rfl, zgw_in (List.mem_of_getElem? (i := 587) (by decide +kernel)) rfl, by decide +kernel⟩
  rw [hy]
  exact zgw_in (List.mem_of_getElem? (i := 585) (by decide +kernel)) rfl
theorem lk_X5_236 {y : zM} (hy : (zname y).cls = RX5) : zLkV y M_X5_countChildren 236 2 := by
  refine ⟨?_, zgw_in (List.mem_of_getElem? (i := 563) (by decide +kernel)) rfl, zgw_in (List.mem_of_getElem? (i := 28) (by decide +kernel)) rfl, by decide +kernel⟩
  rw [hy]
  exact zgw_in (List.mem_of_getElem? (i := 561) (by decide +kernel)) rfl
theorem lk_X5_239 {y : zM} (hy : (zname y).cls = RX5) : zLkV y M_X3_standsIn 239 2 := by
  refine ⟨?_, zgw_in (List.mem_of_getElem? (i := 566) (by decide +kernel)) rfl, zgw_in (List.mem_of_getElem? (i := 567) (by decide +kernel)) rfl, by decide +kernel⟩
  rw [hy]
  exact zgw_in (List.mem_of_getElem? (i := 565) (by decide +kernel)) rfl
theorem lk_X5_243 {y : zM} (hy : (zname y).cls = RX5) : zLkV y M_X3_isCritical 243 0 := by
  refine ⟨?_, zgw_in (List.mem_of_getElem? (i := 549) (by decide +kernel)) rfl, zgw_in (List.mem_of_getElem? (i := 550) (by decide +kernel)) rfl, by decide +kernel⟩
  rw [hy]
  exact zgw_in (List.mem_of_getElem? (i := 560) (by decide +kernel)) rfl
theorem lk_X5_246 {y : zM} (hy : (zname y).cls = RX5) : zLkV y M_X5_nextCritical 246 1 := by
  refine ⟨?_, zgw_in (List.mem_of_getElem? (i := 616) (by decide +kernel)) rfl, zgw_in (List.mem_of_getElem? (i := 34) (by decide +kernel)) rfl, by decide +kernel⟩
  rw [hy]
  exact zgw_in (List.mem_of_getElem? (i := 614) (by decide +kernel)) rfl
theorem lk_X5_250 {y : zM} (hy : (zname y).cls = RX5) : zLkS y M_X5_startsBefore 250 2 := by
  refine ⟨?_, zgw_in (List.mem_of_getElem? (i := 619) (by decide +kernel)) rfl, by decide +kernel⟩
  rw [hy]
  exact zgw_in (List.mem_of_getElem? (i := 618) (by decide +kernel)) rfl
theorem lk_X5_253 {y : zM} (hy : (zname y).cls = RX5) : zLkV y M_X3_lengthWith 253 1 := by
  refine ⟨?_, zgw_in (List.mem_of_getElem? (i := 258) (by decide +kernel)) rfl, zgw_in (List.mem_of_getElem? (i := 259) (by decide +kernel)) rfl, by decide +kernel⟩
  rw [hy]
  exact zgw_in (List.mem_of_getElem? (i := 257) (by decide +kernel)) rfl
theorem lk_X5_256 {y : zM} (hy : (zname y).cls = RX5) : zLkV y M_X3_endIfLength 256 1 := by
  refine ⟨?_, zgw_in (List.mem_of_getElem? (i := 269) (by decide +kernel)) rfl, zgw_in (List.mem_of_getElem? (i := 270) (by decide +kernel)) rfl, by decide +kernel⟩
  rw [hy]
  exact zgw_in (List.mem_of_getElem? (i := 268) (by decide +kernel)) rfl
theorem lk_X5_259 {y : zM} (hy : (zname y).cls = RX5) : zLkV y M_X5_nextNumbered 259 1 := by
  refine ⟨?_, zgw_in (List.mem_of_getElem? (i := 595) (by decide +kernel)) rfl, zgw_in (List.mem_of_getElem? (i := 32) (by decide +kernel)) rfl, by decide +kernel⟩
  rw [hy]
  exact zgw_in (List.mem_of_getElem? (i := 593) (by decide +kernel)) rfl
theorem lk_X5_262 {y : zM} (hy : (zname y).cls = RX5) : zLkV y M_X5_mixNode 262 2 := by
  refine ⟨?_, zgw_in (List.mem_of_getElem? (i := 599) (by decide +kernel)) rfl, zgw_in (List.mem_of_getElem? (i := 33) (by decide +kernel)) rfl, by decide +kernel⟩
  rw [hy]
  exact zgw_in (List.mem_of_getElem? (i := 597) (by decide +kernel)) rfl
theorem lk_X5_266 {y : zM} (hy : (zname y).cls = RX5) : ((zname y).cls, 266, zname M_X6_mix, "SlackRows") ∈ zNestM ∧ Cond.static (zname M_X6_mix) ∈ zgw ∧ (parseMethodDescriptor (zname M_X6_mix).desc).map (fun d => d.parameters.length) = some 2 := by
  refine ⟨?_, zgw_in (List.mem_of_getElem? (i := 525) (by decide +kernel)) rfl, by decide +kernel⟩
  rw [hy]
  decide +kernel
theorem lk_X5_270 {y : zM} (hy : (zname y).cls = RX5) : zLkV y M_X3_value 270 1 := by
  refine ⟨?_, zgw_in (List.mem_of_getElem? (i := 603) (by decide +kernel)) rfl, zgw_in (List.mem_of_getElem? (i := 604) (by decide +kernel)) rfl, by decide +kernel⟩
  rw [hy]
  exact zgw_in (List.mem_of_getElem? (i := 602) (by decide +kernel)) rfl
theorem lk_X5_273 {y : zM} (hy : (zname y).cls = RX5) : zLkV y M_X5_rowValue 273 3 := by
  refine ⟨?_, zgw_in (List.mem_of_getElem? (i := 607) (by decide +kernel)) rfl, zgw_in (List.mem_of_getElem? (i := 608) (by decide +kernel)) rfl, by decide +kernel⟩
  rw [hy]
  exact zgw_in (List.mem_of_getElem? (i := 606) (by decide +kernel)) rfl
theorem lk_X6_1 {y : zM} (hy : (zname y).cls = RX6) : Cond.methodLink (zname y).cls 1 Lib.objectInit ∈ zgw ∧ Cond.instanceMethod Lib.objectInit ∈ zgw ∧ Cond.code Lib.objectInit ⟨#[0xb1]⟩ 1 none ∈ zgw := by
  refine ⟨?_, zgw_in (List.mem_of_getElem? (i := 117) (by decide +kernel)) rfl, zgw_in (List.mem_of_getElem? (i := 118) (by decide +kernel)) rfl⟩
  rw [hy]
  exact zgw_in (List.mem_of_getElem? (i := 116) (by decide +kernel)) rfl
theorem lk_X6_9 {y : zM} (hy : (zname y).cls = RX6) : ((zname y).cls, 9, zname M_X2_init, "SlackRows") ∈ zNestM ∧ Cond.instanceMethod (zname M_X2_init) ∈ zgw ∧ (parseMethodDescriptor (zname M_X2_init).desc).map (fun d => d.parameters.length) = some 0 := by
  refine ⟨?_, zgw_in (List.mem_of_getElem? (i := 122) (by decide +kernel)) rfl, by decide +kernel⟩
  rw [hy]
  decide +kernel
theorem lk_X6_26 {y : zM} (hy : (zname y).cls = RX6) : Cond.methodLink (zname y).cls 26 (zname M_X5_init) ∈ zgw ∧ Cond.instanceMethod (zname M_X5_init) ∈ zgw ∧ (parseMethodDescriptor (zname M_X5_init).desc).map (fun d => d.parameters.length) = some 0 := by
  refine ⟨?_, zgw_in (List.mem_of_getElem? (i := 148) (by decide +kernel)) rfl, by decide +kernel⟩
  rw [hy]
  exact zgw_in (List.mem_of_getElem? (i := 147) (by decide +kernel)) rfl
theorem lk_X6_37 {y : zM} (hy : (zname y).cls = RX6) : zLkV y M_X6_change 37 4 := by
  refine ⟨?_, zgw_in (List.mem_of_getElem? (i := 635) (by decide +kernel)) rfl, zgw_in (List.mem_of_getElem? (i := 35) (by decide +kernel)) rfl, by decide +kernel⟩
  rw [hy]
  exact zgw_in (List.mem_of_getElem? (i := 633) (by decide +kernel)) rfl
theorem lk_X6_62 {y : zM} (hy : (zname y).cls = RX6) : zLkV y M_X6_existing 62 1 := by
  refine ⟨?_, zgw_in (List.mem_of_getElem? (i := 813) (by decide +kernel)) rfl, zgw_in (List.mem_of_getElem? (i := 37) (by decide +kernel)) rfl, by decide +kernel⟩
  rw [hy]
  exact zgw_in (List.mem_of_getElem? (i := 811) (by decide +kernel)) rfl
theorem lk_X6_66 {y : zM} (hy : (zname y).cls = RX6) : zLkS y M_X6_requireRange 66 3 := by
  refine ⟨?_, zgw_in (List.mem_of_getElem? (i := 817) (by decide +kernel)) rfl, by decide +kernel⟩
  rw [hy]
  exact zgw_in (List.mem_of_getElem? (i := 816) (by decide +kernel)) rfl
theorem lk_X6_70 {y : zM} (hy : (zname y).cls = RX6) : zLkV y M_X3_value 70 1 := by
  refine ⟨?_, zgw_in (List.mem_of_getElem? (i := 603) (by decide +kernel)) rfl, zgw_in (List.mem_of_getElem? (i := 604) (by decide +kernel)) rfl, by decide +kernel⟩
  rw [hy]
  exact zgw_in (List.mem_of_getElem? (i := 820) (by decide +kernel)) rfl
theorem lk_X6_76 {y : zM} (hy : (zname y).cls = RX6) : zLkS y M_X6_requireGroup 76 1 := by
  refine ⟨?_, zgw_in (List.mem_of_getElem? (i := 829) (by decide +kernel)) rfl, by decide +kernel⟩
  rw [hy]
  exact zgw_in (List.mem_of_getElem? (i := 828) (by decide +kernel)) rfl
theorem lk_X6_80 {y : zM} (hy : (zname y).cls = RX6) : zLkV y M_X5_rowValue 80 3 := by
  refine ⟨?_, zgw_in (List.mem_of_getElem? (i := 607) (by decide +kernel)) rfl, zgw_in (List.mem_of_getElem? (i := 608) (by decide +kernel)) rfl, by decide +kernel⟩
  rw [hy]
  exact zgw_in (List.mem_of_getElem? (i := 832) (by decide +kernel)) rfl
theorem lk_X6_84 {y : zM} (hy : (zname y).cls = RX6) : zLkS y M_X6_requireNotNegative 84 1 := by
  refine ⟨?_, zgw_in (List.mem_of_getElem? (i := 841) (by decide +kernel)) rfl, by decide +kernel⟩
  rw [hy]
  exact zgw_in (List.mem_of_getElem? (i := 840) (by decide +kernel)) rfl
theorem lk_X6_88 {y : zM} (hy : (zname y).cls = RX6) : zLkV y M_X5_childNumber 88 3 := by
  refine ⟨?_, zgw_in (List.mem_of_getElem? (i := 845) (by decide +kernel)) rfl, zgw_in (List.mem_of_getElem? (i := 846) (by decide +kernel)) rfl, by decide +kernel⟩
  rw [hy]
  exact zgw_in (List.mem_of_getElem? (i := 844) (by decide +kernel)) rfl
theorem lk_X6_91 {y : zM} (hy : (zname y).cls = RX6) : zLkV y M_X5_criticalNumber 91 1 := by
  refine ⟨?_, zgw_in (List.mem_of_getElem? (i := 856) (by decide +kernel)) rfl, zgw_in (List.mem_of_getElem? (i := 857) (by decide +kernel)) rfl, by decide +kernel⟩
  rw [hy]
  exact zgw_in (List.mem_of_getElem? (i := 855) (by decide +kernel)) rfl
theorem lk_X6_94 {y : zM} (hy : (zname y).cls = RX6) : zLkV y M_X5_countRunning 94 1 := by
  refine ⟨?_, zgw_in (List.mem_of_getElem? (i := 582) (by decide +kernel)) rfl, zgw_in (List.mem_of_getElem? (i := 583) (by decide +kernel)) rfl, by decide +kernel⟩
  rw [hy]
  exact zgw_in (List.mem_of_getElem? (i := 866) (by decide +kernel)) rfl
theorem lk_X6_97 {y : zM} (hy : (zname y).cls = RX6) : zLkV y M_X6_wholeValue 97 1 := by
  refine ⟨?_, zgw_in (List.mem_of_getElem? (i := 530) (by decide +kernel)) rfl, zgw_in (List.mem_of_getElem? (i := 23) (by decide +kernel)) rfl, by decide +kernel⟩
  rw [hy]
  exact zgw_in (List.mem_of_getElem? (i := 528) (by decide +kernel)) rfl
theorem lk_X6_100 {y : zM} (hy : (zname y).cls = RX6) : zLkS y M_X6_requireTask 100 1 := by
  refine ⟨?_, zgw_in (List.mem_of_getElem? (i := 882) (by decide +kernel)) rfl, by decide +kernel⟩
  rw [hy]
  exact zgw_in (List.mem_of_getElem? (i := 881) (by decide +kernel)) rfl
theorem lk_X6_103 {y : zM} (hy : (zname y).cls = RX6) : zLkV y M_X3_lengthWith 103 1 := by
  refine ⟨?_, zgw_in (List.mem_of_getElem? (i := 258) (by decide +kernel)) rfl, zgw_in (List.mem_of_getElem? (i := 259) (by decide +kernel)) rfl, by decide +kernel⟩
  rw [hy]
  exact zgw_in (List.mem_of_getElem? (i := 885) (by decide +kernel)) rfl
theorem lk_X6_106 {y : zM} (hy : (zname y).cls = RX6) : zLkV y M_X3_endIfLength 106 1 := by
  refine ⟨?_, zgw_in (List.mem_of_getElem? (i := 269) (by decide +kernel)) rfl, zgw_in (List.mem_of_getElem? (i := 270) (by decide +kernel)) rfl, by decide +kernel⟩
  rw [hy]
  exact zgw_in (List.mem_of_getElem? (i := 886) (by decide +kernel)) rfl
theorem lk_X6_109 {y : zM} (hy : (zname y).cls = RX6) : zLkV y M_X5_greatestDuration 109 1 := by
  refine ⟨?_, zgw_in (List.mem_of_getElem? (i := 895) (by decide +kernel)) rfl, zgw_in (List.mem_of_getElem? (i := 896) (by decide +kernel)) rfl, by decide +kernel⟩
  rw [hy]
  exact zgw_in (List.mem_of_getElem? (i := 894) (by decide +kernel)) rfl
theorem lk_X6_113 {y : zM} (hy : (zname y).cls = RX6) : zLkV y M_X5_cutNumber 113 0 := by
  refine ⟨?_, zgw_in (List.mem_of_getElem? (i := 254) (by decide +kernel)) rfl, zgw_in (List.mem_of_getElem? (i := 255) (by decide +kernel)) rfl, by decide +kernel⟩
  rw [hy]
  exact zgw_in (List.mem_of_getElem? (i := 253) (by decide +kernel)) rfl
theorem lk_X6_117 {y : zM} (hy : (zname y).cls = RX6) : zLkV y M_X5_slackIfBorrowed 117 2 := by
  refine ⟨?_, zgw_in (List.mem_of_getElem? (i := 906) (by decide +kernel)) rfl, zgw_in (List.mem_of_getElem? (i := 907) (by decide +kernel)) rfl, by decide +kernel⟩
  rw [hy]
  exact zgw_in (List.mem_of_getElem? (i := 905) (by decide +kernel)) rfl
theorem lk_X6_121 {y : zM} (hy : (zname y).cls = RX6) : zLkV y M_X3_whyNotTo 121 1 := by
  refine ⟨?_, zgw_in (List.mem_of_getElem? (i := 452) (by decide +kernel)) rfl, zgw_in (List.mem_of_getElem? (i := 453) (by decide +kernel)) rfl, by decide +kernel⟩
  rw [hy]
  exact zgw_in (List.mem_of_getElem? (i := 916) (by decide +kernel)) rfl
theorem lk_X6_124 {y : zM} (hy : (zname y).cls = RX6) : zLkV y M_X2_append 124 1 := by
  refine ⟨?_, zgw_in (List.mem_of_getElem? (i := 925) (by decide +kernel)) rfl, zgw_in (List.mem_of_getElem? (i := 926) (by decide +kernel)) rfl, by decide +kernel⟩
  rw [hy]
  exact zgw_in (List.mem_of_getElem? (i := 924) (by decide +kernel)) rfl
theorem lk_X6_138 {y : zM} (hy : (zname y).cls = RX6) : zLkV y M_X2_findFault 138 0 := by
  refine ⟨?_, zgw_in (List.mem_of_getElem? (i := 293) (by decide +kernel)) rfl, zgw_in (List.mem_of_getElem? (i := 294) (by decide +kernel)) rfl, by decide +kernel⟩
  rw [hy]
  exact zgw_in (List.mem_of_getElem? (i := 292) (by decide +kernel)) rfl
theorem lk_X6_141 {y : zM} (hy : (zname y).cls = RX6) : zLkV y M_X6_save 141 0 := by
  refine ⟨?_, zgw_in (List.mem_of_getElem? (i := 395) (by decide +kernel)) rfl, zgw_in (List.mem_of_getElem? (i := 10) (by decide +kernel)) rfl, by decide +kernel⟩
  rw [hy]
  exact zgw_in (List.mem_of_getElem? (i := 393) (by decide +kernel)) rfl
theorem lk_X6_144 {y : zM} (hy : (zname y).cls = RX6) : zLkV y M_X6_runFaultless 144 0 := by
  refine ⟨?_, zgw_in (List.mem_of_getElem? (i := 410) (by decide +kernel)) rfl, zgw_in (List.mem_of_getElem? (i := 11) (by decide +kernel)) rfl, by decide +kernel⟩
  rw [hy]
  exact zgw_in (List.mem_of_getElem? (i := 408) (by decide +kernel)) rfl
theorem lk_X6_149 {y : zM} (hy : (zname y).cls = RX6) : zLkV y M_X5_plan 149 0 := by
  refine ⟨?_, zgw_in (List.mem_of_getElem? (i := 476) (by decide +kernel)) rfl, zgw_in (List.mem_of_getElem? (i := 477) (by decide +kernel)) rfl, by decide +kernel⟩
  rw [hy]
  exact zgw_in (List.mem_of_getElem? (i := 937) (by decide +kernel)) rfl
theorem lk_X6_154 {y : zM} (hy : (zname y).cls = RX6) : zLkS y M_X6_mix 154 2 := by
  refine ⟨?_, zgw_in (List.mem_of_getElem? (i := 525) (by decide +kernel)) rfl, by decide +kernel⟩
  rw [hy]
  exact zgw_in (List.mem_of_getElem? (i := 524) (by decide +kernel)) rfl
theorem lk_X6_158 {y : zM} (hy : (zname y).cls = RX6) : zLkV y M_X5_mixNodes 158 1 := by
  refine ⟨?_, zgw_in (List.mem_of_getElem? (i := 590) (by decide +kernel)) rfl, zgw_in (List.mem_of_getElem? (i := 591) (by decide +kernel)) rfl, by decide +kernel⟩
  rw [hy]
  exact zgw_in (List.mem_of_getElem? (i := 589) (by decide +kernel)) rfl
theorem lk_X6_162 {y : zM} (hy : (zname y).cls = RX6) : zLkV y M_X5_mixCritical 162 1 := by
  refine ⟨?_, zgw_in (List.mem_of_getElem? (i := 611) (by decide +kernel)) rfl, zgw_in (List.mem_of_getElem? (i := 612) (by decide +kernel)) rfl, by decide +kernel⟩
  rw [hy]
  exact zgw_in (List.mem_of_getElem? (i := 610) (by decide +kernel)) rfl
theorem lk_X6_167 {y : zM} (hy : (zname y).cls = RX6) : zLkV y M_X5_find 167 1 := by
  refine ⟨?_, zgw_in (List.mem_of_getElem? (i := 426) (by decide +kernel)) rfl, zgw_in (List.mem_of_getElem? (i := 427) (by decide +kernel)) rfl, by decide +kernel⟩
  rw [hy]
  exact zgw_in (List.mem_of_getElem? (i := 815) (by decide +kernel)) rfl
theorem lk_X6_175 {y : zM} (hy : (zname y).cls = RX6) : zLkS y M_X6_isBetween 175 3 := by
  refine ⟨?_, zgw_in (List.mem_of_getElem? (i := 321) (by decide +kernel)) rfl, by decide +kernel⟩
  rw [hy]
  exact zgw_in (List.mem_of_getElem? (i := 819) (by decide +kernel)) rfl
theorem lk_X6_208 {y : zM} (hy : (zname y).cls = RX6) : zLkV y M_X5_refusal 208 4 := by
  refine ⟨?_, zgw_in (List.mem_of_getElem? (i := 415) (by decide +kernel)) rfl, zgw_in (List.mem_of_getElem? (i := 416) (by decide +kernel)) rfl, by decide +kernel⟩
  rw [hy]
  exact zgw_in (List.mem_of_getElem? (i := 414) (by decide +kernel)) rfl
theorem lk_X6_212 {y : zM} (hy : (zname y).cls = RX6) : zLkS y M_X6_requireAllowed 212 1 := by
  refine ⟨?_, zgw_in (List.mem_of_getElem? (i := 638) (by decide +kernel)) rfl, by decide +kernel⟩
  rw [hy]
  exact zgw_in (List.mem_of_getElem? (i := 637) (by decide +kernel)) rfl
theorem lk_X6_216 {y : zM} (hy : (zname y).cls = RX6) : zLkV y M_X5_carryOut 216 4 := by
  refine ⟨?_, zgw_in (List.mem_of_getElem? (i := 463) (by decide +kernel)) rfl, zgw_in (List.mem_of_getElem? (i := 464) (by decide +kernel)) rfl, by decide +kernel⟩
  rw [hy]
  exact zgw_in (List.mem_of_getElem? (i := 462) (by decide +kernel)) rfl
theorem lk_X6_219 {y : zM} (hy : (zname y).cls = RX6) : Cond.methodLink (zname y).cls 219 Lib.Math.min.name ∈ zgw ∧ Cond.static Lib.Math.min.name ∈ zgw ∧ Cond.initialized "java/lang/Math" ∈ zgw ∧ Cond.code Lib.Math.min.name Lib.Math.min.code 2 (some .int) ∈ zgw := by
  refine ⟨?_, zgw_in (List.mem_of_getElem? (i := 398) (by decide +kernel)) rfl, zgw_in (List.mem_of_getElem? (i := 106) (by decide +kernel)) rfl, zgw_in (List.mem_of_getElem? (i := 399) (by decide +kernel)) rfl⟩
  rw [hy]
  exact zgw_in (List.mem_of_getElem? (i := 397) (by decide +kernel)) rfl
theorem lk_X6_225 {y : zM} (hy : (zname y).cls = RX6) : zLkV y M_X5_copyFrom 225 1 := by
  refine ⟨?_, zgw_in (List.mem_of_getElem? (i := 401) (by decide +kernel)) rfl, zgw_in (List.mem_of_getElem? (i := 402) (by decide +kernel)) rfl, by decide +kernel⟩
  rw [hy]
  exact zgw_in (List.mem_of_getElem? (i := 400) (by decide +kernel)) rfl
theorem lk_X6_229 {y : zM} (hy : (zname y).cls = RX6) : zLkV y M_X2_rewind 229 0 := by
  refine ⟨?_, zgw_in (List.mem_of_getElem? (i := 297) (by decide +kernel)) rfl, zgw_in (List.mem_of_getElem? (i := 298) (by decide +kernel)) rfl, by decide +kernel⟩
  rw [hy]
  exact zgw_in (List.mem_of_getElem? (i := 412) (by decide +kernel)) rfl
theorem lk_X6_232 {y : zM} (hy : (zname y).cls = RX6) : zLkV y M_X2_readCommand 232 0 := by
  refine ⟨?_, zgw_in (List.mem_of_getElem? (i := 301) (by decide +kernel)) rfl, zgw_in (List.mem_of_getElem? (i := 302) (by decide +kernel)) rfl, by decide +kernel⟩
  rw [hy]
  exact zgw_in (List.mem_of_getElem? (i := 413) (by decide +kernel)) rfl
theorem lk_X6_243 {y : zM} (hy : (zname y).cls = RX6) : zLkV y M_X5_value 243 1 := by
  refine ⟨?_, zgw_in (List.mem_of_getElem? (i := 533) (by decide +kernel)) rfl, zgw_in (List.mem_of_getElem? (i := 534) (by decide +kernel)) rfl, by decide +kernel⟩
  rw [hy]
  exact zgw_in (List.mem_of_getElem? (i := 532) (by decide +kernel)) rfl
theorem lk_X7_1 {y : zM} (hy : (zname y).cls = RX7) : Cond.methodLink (zname y).cls 1 Lib.objectInit ∈ zgw ∧ Cond.instanceMethod Lib.objectInit ∈ zgw ∧ Cond.code Lib.objectInit ⟨#[0xb1]⟩ 1 none ∈ zgw := by
  refine ⟨?_, zgw_in (List.mem_of_getElem? (i := 117) (by decide +kernel)) rfl, zgw_in (List.mem_of_getElem? (i := 118) (by decide +kernel)) rfl⟩
  rw [hy]
  exact zgw_in (List.mem_of_getElem? (i := 943) (by decide +kernel)) rfl
theorem lk_X7_45 {y : zM} (hy : (zname y).cls = RX7) : zLkV y M_X7_copies 45 2 := by
  refine ⟨?_, zgw_in (List.mem_of_getElem? (i := 1028) (by decide +kernel)) rfl, zgw_in (List.mem_of_getElem? (i := 44) (by decide +kernel)) rfl, by decide +kernel⟩
  rw [hy]
  exact zgw_in (List.mem_of_getElem? (i := 1026) (by decide +kernel)) rfl
theorem lk_X7_49 {y : zM} (hy : (zname y).cls = RX7) : zLkV y M_X7_of 49 2 := by
  refine ⟨?_, zgw_in (List.mem_of_getElem? (i := 1009) (by decide +kernel)) rfl, zgw_in (List.mem_of_getElem? (i := 40) (by decide +kernel)) rfl, by decide +kernel⟩
  rw [hy]
  exact zgw_in (List.mem_of_getElem? (i := 1007) (by decide +kernel)) rfl
theorem lk_X7_53 {y : zM} (hy : (zname y).cls = RX7) : zLkV y M_X7_find 53 1 := by
  refine ⟨?_, zgw_in (List.mem_of_getElem? (i := 1005) (by decide +kernel)) rfl, zgw_in (List.mem_of_getElem? (i := 39) (by decide +kernel)) rfl, by decide +kernel⟩
  rw [hy]
  exact zgw_in (List.mem_of_getElem? (i := 1003) (by decide +kernel)) rfl
theorem lk_X7_60 {y : zM} (hy : (zname y).cls = RX7) : zLkV y M_X7_isRefused 60 1 := by
  refine ⟨?_, zgw_in (List.mem_of_getElem? (i := 1020) (by decide +kernel)) rfl, zgw_in (List.mem_of_getElem? (i := 42) (by decide +kernel)) rfl, by decide +kernel⟩
  rw [hy]
  exact zgw_in (List.mem_of_getElem? (i := 1018) (by decide +kernel)) rfl
theorem lk_X7_64 {y : zM} (hy : (zname y).cls = RX7) : zLkV y M_X7_isIn 64 3 := by
  refine ⟨?_, zgw_in (List.mem_of_getElem? (i := 1040) (by decide +kernel)) rfl, zgw_in (List.mem_of_getElem? (i := 47) (by decide +kernel)) rfl, by decide +kernel⟩
  rw [hy]
  exact zgw_in (List.mem_of_getElem? (i := 1038) (by decide +kernel)) rfl
theorem lk_X7_68 {y : zM} (hy : (zname y).cls = RX7) : zLkV y M_X7_rowLength 68 2 := by
  refine ⟨?_, zgw_in (List.mem_of_getElem? (i := 1120) (by decide +kernel)) rfl, zgw_in (List.mem_of_getElem? (i := 63) (by decide +kernel)) rfl, by decide +kernel⟩
  rw [hy]
  exact zgw_in (List.mem_of_getElem? (i := 1118) (by decide +kernel)) rfl
theorem lk_X7_71 {y : zM} (hy : (zname y).cls = RX7) : zLkV y M_X7_rowSlack 71 2 := by
  refine ⟨?_, zgw_in (List.mem_of_getElem? (i := 1128) (by decide +kernel)) rfl, zgw_in (List.mem_of_getElem? (i := 65) (by decide +kernel)) rfl, by decide +kernel⟩
  rw [hy]
  exact zgw_in (List.mem_of_getElem? (i := 1126) (by decide +kernel)) rfl
theorem lk_X7_74 {y : zM} (hy : (zname y).cls = RX7) : zLkV y M_X7_layOrder 74 0 := by
  refine ⟨?_, zgw_in (List.mem_of_getElem? (i := 1112) (by decide +kernel)) rfl, zgw_in (List.mem_of_getElem? (i := 61) (by decide +kernel)) rfl, by decide +kernel⟩
  rw [hy]
  exact zgw_in (List.mem_of_getElem? (i := 1110) (by decide +kernel)) rfl
theorem lk_X7_77 {y : zM} (hy : (zname y).cls = RX7) : zLkV y M_X7_lengthOf 77 1 := by
  refine ⟨?_, zgw_in (List.mem_of_getElem? (i := 1116) (by decide +kernel)) rfl, zgw_in (List.mem_of_getElem? (i := 62) (by decide +kernel)) rfl, by decide +kernel⟩
  rw [hy]
  exact zgw_in (List.mem_of_getElem? (i := 1114) (by decide +kernel)) rfl
theorem lk_X7_80 {y : zM} (hy : (zname y).cls = RX7) : zLkV y M_X7_layTimes 80 1 := by
  refine ⟨?_, zgw_in (List.mem_of_getElem? (i := 1124) (by decide +kernel)) rfl, zgw_in (List.mem_of_getElem? (i := 64) (by decide +kernel)) rfl, by decide +kernel⟩
  rw [hy]
  exact zgw_in (List.mem_of_getElem? (i := 1122) (by decide +kernel)) rfl
theorem lk_X7_84 {y : zM} (hy : (zname y).cls = RX7) : zLkV y M_X7_lay 84 0 := by
  refine ⟨?_, zgw_in (List.mem_of_getElem? (i := 1108) (by decide +kernel)) rfl, zgw_in (List.mem_of_getElem? (i := 60) (by decide +kernel)) rfl, by decide +kernel⟩
  rw [hy]
  exact zgw_in (List.mem_of_getElem? (i := 1106) (by decide +kernel)) rfl
theorem lk_X7_87 {y : zM} (hy : (zname y).cls = RX7) : zLkV y M_X7_end 87 0 := by
  refine ⟨?_, zgw_in (List.mem_of_getElem? (i := 1104) (by decide +kernel)) rfl, zgw_in (List.mem_of_getElem? (i := 59) (by decide +kernel)) rfl, by decide +kernel⟩
  rw [hy]
  exact zgw_in (List.mem_of_getElem? (i := 1102) (by decide +kernel)) rfl
theorem lk_X7_91 {y : zM} (hy : (zname y).cls = RX7) : zLkS y M_X7_in 91 3 := by
  refine ⟨?_, zgw_in (List.mem_of_getElem? (i := 1012) (by decide +kernel)) rfl, by decide +kernel⟩
  rw [hy]
  exact zgw_in (List.mem_of_getElem? (i := 1011) (by decide +kernel)) rfl
theorem lk_X7_94 {y : zM} (hy : (zname y).cls = RX7) : zLkV y M_X7_isTask 94 1 := by
  refine ⟨?_, zgw_in (List.mem_of_getElem? (i := 1016) (by decide +kernel)) rfl, zgw_in (List.mem_of_getElem? (i := 41) (by decide +kernel)) rfl, by decide +kernel⟩
  rw [hy]
  exact zgw_in (List.mem_of_getElem? (i := 1014) (by decide +kernel)) rfl
theorem lk_X7_97 {y : zM} (hy : (zname y).cls = RX7) : zLkV y M_X7_childrenOf 97 2 := by
  refine ⟨?_, zgw_in (List.mem_of_getElem? (i := 1036) (by decide +kernel)) rfl, zgw_in (List.mem_of_getElem? (i := 46) (by decide +kernel)) rfl, by decide +kernel⟩
  rw [hy]
  exact zgw_in (List.mem_of_getElem? (i := 1034) (by decide +kernel)) rfl
theorem lk_X7_100 {y : zM} (hy : (zname y).cls = RX7) : zLkV y M_X7_set 100 3 := by
  refine ⟨?_, zgw_in (List.mem_of_getElem? (i := 1044) (by decide +kernel)) rfl, zgw_in (List.mem_of_getElem? (i := 48) (by decide +kernel)) rfl, by decide +kernel⟩
  rw [hy]
  exact zgw_in (List.mem_of_getElem? (i := 1042) (by decide +kernel)) rfl
theorem lk_X7_104 {y : zM} (hy : (zname y).cls = RX7) : zLkV y M_X7_whyNotAdd 104 3 := by
  refine ⟨?_, zgw_in (List.mem_of_getElem? (i := 1001) (by decide +kernel)) rfl, zgw_in (List.mem_of_getElem? (i := 38) (by decide +kernel)) rfl, by decide +kernel⟩
  rw [hy]
  exact zgw_in (List.mem_of_getElem? (i := 999) (by decide +kernel)) rfl
theorem lk_X7_108 {y : zM} (hy : (zname y).cls = RX7) : zLkV y M_X7_saves 108 0 := by
  refine ⟨?_, zgw_in (List.mem_of_getElem? (i := 1024) (by decide +kernel)) rfl, zgw_in (List.mem_of_getElem? (i := 43) (by decide +kernel)) rfl, by decide +kernel⟩
  rw [hy]
  exact zgw_in (List.mem_of_getElem? (i := 1022) (by decide +kernel)) rfl
theorem lk_X7_111 {y : zM} (hy : (zname y).cls = RX7) : zLkV y M_X7_adds 111 4 := by
  refine ⟨?_, zgw_in (List.mem_of_getElem? (i := 1032) (by decide +kernel)) rfl, zgw_in (List.mem_of_getElem? (i := 45) (by decide +kernel)) rfl, by decide +kernel⟩
  rw [hy]
  exact zgw_in (List.mem_of_getElem? (i := 1030) (by decide +kernel)) rfl
theorem lk_X7_115 {y : zM} (hy : (zname y).cls = RX7) : zLkV y M_X7_isBelow 115 2 := by
  refine ⟨?_, zgw_in (List.mem_of_getElem? (i := 1064) (by decide +kernel)) rfl, zgw_in (List.mem_of_getElem? (i := 51) (by decide +kernel)) rfl, by decide +kernel⟩
  rw [hy]
  exact zgw_in (List.mem_of_getElem? (i := 1062) (by decide +kernel)) rfl
theorem lk_X7_119 {y : zM} (hy : (zname y).cls = RX7) : zLkV y M_X7_reasonOf 119 2 := by
  refine ⟨?_, zgw_in (List.mem_of_getElem? (i := 1060) (by decide +kernel)) rfl, zgw_in (List.mem_of_getElem? (i := 50) (by decide +kernel)) rfl, by decide +kernel⟩
  rw [hy]
  exact zgw_in (List.mem_of_getElem? (i := 1058) (by decide +kernel)) rfl
theorem lk_X7_122 {y : zM} (hy : (zname y).cls = RX7) : zLkV y M_X7_leaves 122 1 := by
  refine ⟨?_, zgw_in (List.mem_of_getElem? (i := 1072) (by decide +kernel)) rfl, zgw_in (List.mem_of_getElem? (i := 53) (by decide +kernel)) rfl, by decide +kernel⟩
  rw [hy]
  exact zgw_in (List.mem_of_getElem? (i := 1070) (by decide +kernel)) rfl
theorem lk_X7_125 {y : zM} (hy : (zname y).cls = RX7) : zLkV y M_X7_whyNotMove 125 3 := by
  refine ⟨?_, zgw_in (List.mem_of_getElem? (i := 1056) (by decide +kernel)) rfl, zgw_in (List.mem_of_getElem? (i := 49) (by decide +kernel)) rfl, by decide +kernel⟩
  rw [hy]
  exact zgw_in (List.mem_of_getElem? (i := 1054) (by decide +kernel)) rfl
theorem lk_X7_128 {y : zM} (hy : (zname y).cls = RX7) : zLkV y M_X7_moves 128 3 := by
  refine ⟨?_, zgw_in (List.mem_of_getElem? (i := 1068) (by decide +kernel)) rfl, zgw_in (List.mem_of_getElem? (i := 52) (by decide +kernel)) rfl, by decide +kernel⟩
  rw [hy]
  exact zgw_in (List.mem_of_getElem? (i := 1066) (by decide +kernel)) rfl
theorem lk_X7_131 {y : zM} (hy : (zname y).cls = RX7) : zLkV y M_X7_whyNotRemove 131 1 := by
  refine ⟨?_, zgw_in (List.mem_of_getElem? (i := 1080) (by decide +kernel)) rfl, zgw_in (List.mem_of_getElem? (i := 54) (by decide +kernel)) rfl, by decide +kernel⟩
  rw [hy]
  exact zgw_in (List.mem_of_getElem? (i := 1078) (by decide +kernel)) rfl
theorem lk_X7_134 {y : zM} (hy : (zname y).cls = RX7) : zLkV y M_X7_isBarred 134 1 := by
  refine ⟨?_, zgw_in (List.mem_of_getElem? (i := 1084) (by decide +kernel)) rfl, zgw_in (List.mem_of_getElem? (i := 55) (by decide +kernel)) rfl, by decide +kernel⟩
  rw [hy]
  exact zgw_in (List.mem_of_getElem? (i := 1082) (by decide +kernel)) rfl
theorem lk_X7_137 {y : zM} (hy : (zname y).cls = RX7) : zLkV y M_X7_removes 137 1 := by
  refine ⟨?_, zgw_in (List.mem_of_getElem? (i := 1088) (by decide +kernel)) rfl, zgw_in (List.mem_of_getElem? (i := 56) (by decide +kernel)) rfl, by decide +kernel⟩
  rw [hy]
  exact zgw_in (List.mem_of_getElem? (i := 1086) (by decide +kernel)) rfl
theorem lk_X7_140 {y : zM} (hy : (zname y).cls = RX7) : zLkV y M_X7_whyNotTask 140 2 := by
  refine ⟨?_, zgw_in (List.mem_of_getElem? (i := 1096) (by decide +kernel)) rfl, zgw_in (List.mem_of_getElem? (i := 57) (by decide +kernel)) rfl, by decide +kernel⟩
  rw [hy]
  exact zgw_in (List.mem_of_getElem? (i := 1094) (by decide +kernel)) rfl
theorem lk_X7_144 {y : zM} (hy : (zname y).cls = RX7) : zLkV y M_X7_lasts 144 2 := by
  refine ⟨?_, zgw_in (List.mem_of_getElem? (i := 1100) (by decide +kernel)) rfl, zgw_in (List.mem_of_getElem? (i := 58) (by decide +kernel)) rfl, by decide +kernel⟩
  rw [hy]
  exact zgw_in (List.mem_of_getElem? (i := 1098) (by decide +kernel)) rfl
theorem lk_X7_147 {y : zM} (hy : (zname y).cls = RX7) : zLkV y M_X7_slackOf 147 1 := by
  refine ⟨?_, zgw_in (List.mem_of_getElem? (i := 1140) (by decide +kernel)) rfl, zgw_in (List.mem_of_getElem? (i := 67) (by decide +kernel)) rfl, by decide +kernel⟩
  rw [hy]
  exact zgw_in (List.mem_of_getElem? (i := 1138) (by decide +kernel)) rfl
theorem lk_X7_150 {y : zM} (hy : (zname y).cls = RX7) : zLkV y M_X7_whyNotBorrow 150 2 := by
  refine ⟨?_, zgw_in (List.mem_of_getElem? (i := 1136) (by decide +kernel)) rfl, zgw_in (List.mem_of_getElem? (i := 66) (by decide +kernel)) rfl, by decide +kernel⟩
  rw [hy]
  exact zgw_in (List.mem_of_getElem? (i := 1134) (by decide +kernel)) rfl
theorem lk_X7_153 {y : zM} (hy : (zname y).cls = RX7) : zLkV y M_X7_reserves 153 2 := by
  refine ⟨?_, zgw_in (List.mem_of_getElem? (i := 1144) (by decide +kernel)) rfl, zgw_in (List.mem_of_getElem? (i := 68) (by decide +kernel)) rfl, by decide +kernel⟩
  rw [hy]
  exact zgw_in (List.mem_of_getElem? (i := 1142) (by decide +kernel)) rfl
theorem lk_X7_156 {y : zM} (hy : (zname y).cls = RX7) : zLkV y M_X7_whyNotBack 156 2 := by
  refine ⟨?_, zgw_in (List.mem_of_getElem? (i := 1152) (by decide +kernel)) rfl, zgw_in (List.mem_of_getElem? (i := 69) (by decide +kernel)) rfl, by decide +kernel⟩
  rw [hy]
  exact zgw_in (List.mem_of_getElem? (i := 1150) (by decide +kernel)) rfl
theorem lk_X7_159 {y : zM} (hy : (zname y).cls = RX7) : zLkS y M_X7_whyNotUntil 159 1 := by
  refine ⟨?_, zgw_in (List.mem_of_getElem? (i := 1159) (by decide +kernel)) rfl, by decide +kernel⟩
  rw [hy]
  exact zgw_in (List.mem_of_getElem? (i := 1158) (by decide +kernel)) rfl
theorem lk_X7_162 {y : zM} (hy : (zname y).cls = RX7) : zLkV y M_X7_lateness 162 0 := by
  refine ⟨?_, zgw_in (List.mem_of_getElem? (i := 1163) (by decide +kernel)) rfl, zgw_in (List.mem_of_getElem? (i := 70) (by decide +kernel)) rfl, by decide +kernel⟩
  rw [hy]
  exact zgw_in (List.mem_of_getElem? (i := 1161) (by decide +kernel)) rfl
theorem lk_X7_165 {y : zM} (hy : (zname y).cls = RX7) : zLkV y M_X7_nodeValue 165 2 := by
  refine ⟨?_, zgw_in (List.mem_of_getElem? (i := 1171) (by decide +kernel)) rfl, zgw_in (List.mem_of_getElem? (i := 71) (by decide +kernel)) rfl, by decide +kernel⟩
  rw [hy]
  exact zgw_in (List.mem_of_getElem? (i := 1169) (by decide +kernel)) rfl
theorem lk_X7_168 {y : zM} (hy : (zname y).cls = RX7) : zLkV y M_X7_isCriticalRow 168 2 := by
  refine ⟨?_, zgw_in (List.mem_of_getElem? (i := 1187) (by decide +kernel)) rfl, zgw_in (List.mem_of_getElem? (i := 74) (by decide +kernel)) rfl, by decide +kernel⟩
  rw [hy]
  exact zgw_in (List.mem_of_getElem? (i := 1185) (by decide +kernel)) rfl
theorem lk_X7_171 {y : zM} (hy : (zname y).cls = RX7) : zLkV y M_X7_whyNotRow 171 2 := by
  refine ⟨?_, zgw_in (List.mem_of_getElem? (i := 1179) (by decide +kernel)) rfl, zgw_in (List.mem_of_getElem? (i := 72) (by decide +kernel)) rfl, by decide +kernel⟩
  rw [hy]
  exact zgw_in (List.mem_of_getElem? (i := 1177) (by decide +kernel)) rfl
theorem lk_X7_174 {y : zM} (hy : (zname y).cls = RX7) : zLkV y M_X7_rowValue 174 3 := by
  refine ⟨?_, zgw_in (List.mem_of_getElem? (i := 1183) (by decide +kernel)) rfl, zgw_in (List.mem_of_getElem? (i := 73) (by decide +kernel)) rfl, by decide +kernel⟩
  rw [hy]
  exact zgw_in (List.mem_of_getElem? (i := 1181) (by decide +kernel)) rfl
theorem lk_X7_177 {y : zM} (hy : (zname y).cls = RX7) : zLkV y M_X7_layCritical 177 0 := by
  refine ⟨?_, zgw_in (List.mem_of_getElem? (i := 1199) (by decide +kernel)) rfl, zgw_in (List.mem_of_getElem? (i := 75) (by decide +kernel)) rfl, by decide +kernel⟩
  rw [hy]
  exact zgw_in (List.mem_of_getElem? (i := 1197) (by decide +kernel)) rfl
theorem lk_X7_180 {y : zM} (hy : (zname y).cls = RX7) : zLkV y M_X7_runningAt 180 1 := by
  refine ⟨?_, zgw_in (List.mem_of_getElem? (i := 1207) (by decide +kernel)) rfl, zgw_in (List.mem_of_getElem? (i := 76) (by decide +kernel)) rfl, by decide +kernel⟩
  rw [hy]
  exact zgw_in (List.mem_of_getElem? (i := 1205) (by decide +kernel)) rfl
theorem lk_X7_186 {y : zM} (hy : (zname y).cls = RX7) : zLkV y M_X7_wholeValue 186 1 := by
  refine ⟨?_, zgw_in (List.mem_of_getElem? (i := 1215) (by decide +kernel)) rfl, zgw_in (List.mem_of_getElem? (i := 77) (by decide +kernel)) rfl, by decide +kernel⟩
  rw [hy]
  exact zgw_in (List.mem_of_getElem? (i := 1213) (by decide +kernel)) rfl
theorem lk_X7_189 {y : zM} (hy : (zname y).cls = RX7) : zLkV y M_X7_putAside 189 0 := by
  refine ⟨?_, zgw_in (List.mem_of_getElem? (i := 1227) (by decide +kernel)) rfl, zgw_in (List.mem_of_getElem? (i := 79) (by decide +kernel)) rfl, by decide +kernel⟩
  rw [hy]
  exact zgw_in (List.mem_of_getElem? (i := 1225) (by decide +kernel)) rfl
theorem lk_X7_192 {y : zM} (hy : (zname y).cls = RX7) : zLkV y M_X7_comesBack 192 0 := by
  refine ⟨?_, zgw_in (List.mem_of_getElem? (i := 1231) (by decide +kernel)) rfl, zgw_in (List.mem_of_getElem? (i := 80) (by decide +kernel)) rfl, by decide +kernel⟩
  rw [hy]
  exact zgw_in (List.mem_of_getElem? (i := 1229) (by decide +kernel)) rfl
theorem lk_X7_195 {y : zM} (hy : (zname y).cls = RX7) : zLkV y M_X7_endBy 195 2 := by
  refine ⟨?_, zgw_in (List.mem_of_getElem? (i := 1223) (by decide +kernel)) rfl, zgw_in (List.mem_of_getElem? (i := 78) (by decide +kernel)) rfl, by decide +kernel⟩
  rw [hy]
  exact zgw_in (List.mem_of_getElem? (i := 1221) (by decide +kernel)) rfl
theorem lk_X7_198 {y : zM} (hy : (zname y).cls = RX7) : zLkV y M_X7_cutTask 198 0 := by
  refine ⟨?_, zgw_in (List.mem_of_getElem? (i := 1243) (by decide +kernel)) rfl, zgw_in (List.mem_of_getElem? (i := 81) (by decide +kernel)) rfl, by decide +kernel⟩
  rw [hy]
  exact zgw_in (List.mem_of_getElem? (i := 1241) (by decide +kernel)) rfl
theorem lk_X7_204 {y : zM} (hy : (zname y).cls = RX7) : zLkV y M_X7_here 204 0 := by
  refine ⟨?_, zgw_in (List.mem_of_getElem? (i := 1275) (by decide +kernel)) rfl, zgw_in (List.mem_of_getElem? (i := 84) (by decide +kernel)) rfl, by decide +kernel⟩
  rw [hy]
  exact zgw_in (List.mem_of_getElem? (i := 1273) (by decide +kernel)) rfl
theorem lk_X7_229 {y : zM} (hy : (zname y).cls = RX7) : zLkV y M_X7_passSpaces 229 0 := by
  refine ⟨?_, zgw_in (List.mem_of_getElem? (i := 1271) (by decide +kernel)) rfl, zgw_in (List.mem_of_getElem? (i := 83) (by decide +kernel)) rfl, by decide +kernel⟩
  rw [hy]
  exact zgw_in (List.mem_of_getElem? (i := 1269) (by decide +kernel)) rfl
theorem lk_X7_235 {y : zM} (hy : (zname y).cls = RX7) : zLkV y M_X7_word 235 0 := by
  refine ⟨?_, zgw_in (List.mem_of_getElem? (i := 1283) (by decide +kernel)) rfl, zgw_in (List.mem_of_getElem? (i := 86) (by decide +kernel)) rfl, by decide +kernel⟩
  rw [hy]
  exact zgw_in (List.mem_of_getElem? (i := 1281) (by decide +kernel)) rfl
theorem lk_X7_238 {y : zM} (hy : (zname y).cls = RX7) : zLkS y M_X7_numbersOf 238 1 := by
  refine ⟨?_, zgw_in (List.mem_of_getElem? (i := 1297) (by decide +kernel)) rfl, by decide +kernel⟩
  rw [hy]
  exact zgw_in (List.mem_of_getElem? (i := 1296) (by decide +kernel)) rfl
theorem lk_X7_241 {y : zM} (hy : (zname y).cls = RX7) : zLkV y M_X7_isNumber 241 0 := by
  refine ⟨?_, zgw_in (List.mem_of_getElem? (i := 1301) (by decide +kernel)) rfl, zgw_in (List.mem_of_getElem? (i := 87) (by decide +kernel)) rfl, by decide +kernel⟩
  rw [hy]
  exact zgw_in (List.mem_of_getElem? (i := 1299) (by decide +kernel)) rfl
theorem lk_X7_245 {y : zM} (hy : (zname y).cls = RX7) : zLkV y M_X7_command 245 0 := by
  refine ⟨?_, zgw_in (List.mem_of_getElem? (i := 1279) (by decide +kernel)) rfl, zgw_in (List.mem_of_getElem? (i := 85) (by decide +kernel)) rfl, by decide +kernel⟩
  rw [hy]
  exact zgw_in (List.mem_of_getElem? (i := 1277) (by decide +kernel)) rfl
theorem lk_X7_248 {y : zM} (hy : (zname y).cls = RX7) : zLkV y M_X7_changes 248 4 := by
  refine ⟨?_, zgw_in (List.mem_of_getElem? (i := 1309) (by decide +kernel)) rfl, zgw_in (List.mem_of_getElem? (i := 89) (by decide +kernel)) rfl, by decide +kernel⟩
  rw [hy]
  exact zgw_in (List.mem_of_getElem? (i := 1307) (by decide +kernel)) rfl
theorem lk_X7_252 {y : zM} (hy : (zname y).cls = RX7) : zLkV y M_X7_fault 252 0 := by
  refine ⟨?_, zgw_in (List.mem_of_getElem? (i := 1267) (by decide +kernel)) rfl, zgw_in (List.mem_of_getElem? (i := 82) (by decide +kernel)) rfl, by decide +kernel⟩
  rw [hy]
  exact zgw_in (List.mem_of_getElem? (i := 1265) (by decide +kernel)) rfl
theorem lk_X7_255 {y : zM} (hy : (zname y).cls = RX7) : zLkV y M_X7_does 255 1 := by
  refine ⟨?_, zgw_in (List.mem_of_getElem? (i := 1305) (by decide +kernel)) rfl, zgw_in (List.mem_of_getElem? (i := 88) (by decide +kernel)) rfl, by decide +kernel⟩
  rw [hy]
  exact zgw_in (List.mem_of_getElem? (i := 1303) (by decide +kernel)) rfl
theorem lk_X7_262 {y : zM} (hy : (zname y).cls = RX7) : zLkV y M_X7_whole 262 1 := by
  refine ⟨?_, zgw_in (List.mem_of_getElem? (i := 1210) (by decide +kernel)) rfl, zgw_in (List.mem_of_getElem? (i := 1211) (by decide +kernel)) rfl, by decide +kernel⟩
  rw [hy]
  exact zgw_in (List.mem_of_getElem? (i := 1321) (by decide +kernel)) rfl
theorem lk_L_7 {y : zM} (hy : (zname y).cls = RL) : zLkV y M_X6_addGroup 7 2 := by
  refine ⟨?_, zgw_in (List.mem_of_getElem? (i := 628) (by decide +kernel)) rfl, zgw_in (List.mem_of_getElem? (i := 629) (by decide +kernel)) rfl, by decide +kernel⟩
  rw [hy]
  exact zgw_in (List.mem_of_getElem? (i := 627) (by decide +kernel)) rfl
theorem lk_L_19 {y : zM} (hy : (zname y).cls = RL) : zLkV y M_X6_addTask 19 3 := by
  refine ⟨?_, zgw_in (List.mem_of_getElem? (i := 747) (by decide +kernel)) rfl, zgw_in (List.mem_of_getElem? (i := 748) (by decide +kernel)) rfl, by decide +kernel⟩
  rw [hy]
  exact zgw_in (List.mem_of_getElem? (i := 746) (by decide +kernel)) rfl
theorem lk_L_23 {y : zM} (hy : (zname y).cls = RL) : zLkV y M_X6_move 23 3 := by
  refine ⟨?_, zgw_in (List.mem_of_getElem? (i := 756) (by decide +kernel)) rfl, zgw_in (List.mem_of_getElem? (i := 757) (by decide +kernel)) rfl, by decide +kernel⟩
  rw [hy]
  exact zgw_in (List.mem_of_getElem? (i := 755) (by decide +kernel)) rfl
theorem lk_L_26 {y : zM} (hy : (zname y).cls = RL) : zLkV y M_X6_remove 26 1 := by
  refine ⟨?_, zgw_in (List.mem_of_getElem? (i := 764) (by decide +kernel)) rfl, zgw_in (List.mem_of_getElem? (i := 765) (by decide +kernel)) rfl, by decide +kernel⟩
  rw [hy]
  exact zgw_in (List.mem_of_getElem? (i := 763) (by decide +kernel)) rfl
theorem lk_L_30 {y : zM} (hy : (zname y).cls = RL) : zLkV y M_X6_setDuration 30 2 := by
  refine ⟨?_, zgw_in (List.mem_of_getElem? (i := 773) (by decide +kernel)) rfl, zgw_in (List.mem_of_getElem? (i := 774) (by decide +kernel)) rfl, by decide +kernel⟩
  rw [hy]
  exact zgw_in (List.mem_of_getElem? (i := 772) (by decide +kernel)) rfl
theorem lk_L_33 {y : zM} (hy : (zname y).cls = RL) : zLkV y M_X6_borrow 33 2 := by
  refine ⟨?_, zgw_in (List.mem_of_getElem? (i := 782) (by decide +kernel)) rfl, zgw_in (List.mem_of_getElem? (i := 783) (by decide +kernel)) rfl, by decide +kernel⟩
  rw [hy]
  exact zgw_in (List.mem_of_getElem? (i := 781) (by decide +kernel)) rfl
theorem lk_L_36 {y : zM} (hy : (zname y).cls = RL) : zLkV y M_X6_giveBack 36 2 := by
  refine ⟨?_, zgw_in (List.mem_of_getElem? (i := 791) (by decide +kernel)) rfl, zgw_in (List.mem_of_getElem? (i := 792) (by decide +kernel)) rfl, by decide +kernel⟩
  rw [hy]
  exact zgw_in (List.mem_of_getElem? (i := 790) (by decide +kernel)) rfl
theorem lk_L_39 {y : zM} (hy : (zname y).cls = RL) : zLkV y M_X6_setDeadline 39 1 := by
  refine ⟨?_, zgw_in (List.mem_of_getElem? (i := 800) (by decide +kernel)) rfl, zgw_in (List.mem_of_getElem? (i := 801) (by decide +kernel)) rfl, by decide +kernel⟩
  rw [hy]
  exact zgw_in (List.mem_of_getElem? (i := 799) (by decide +kernel)) rfl
theorem lk_L_42 {y : zM} (hy : (zname y).cls = RL) : zLkV y M_X6_node 42 2 := by
  refine ⟨?_, zgw_in (List.mem_of_getElem? (i := 808) (by decide +kernel)) rfl, zgw_in (List.mem_of_getElem? (i := 809) (by decide +kernel)) rfl, by decide +kernel⟩
  rw [hy]
  exact zgw_in (List.mem_of_getElem? (i := 807) (by decide +kernel)) rfl
theorem lk_L_45 {y : zM} (hy : (zname y).cls = RL) : zLkV y M_X6_row 45 3 := by
  refine ⟨?_, zgw_in (List.mem_of_getElem? (i := 825) (by decide +kernel)) rfl, zgw_in (List.mem_of_getElem? (i := 826) (by decide +kernel)) rfl, by decide +kernel⟩
  rw [hy]
  exact zgw_in (List.mem_of_getElem? (i := 824) (by decide +kernel)) rfl
theorem lk_L_48 {y : zM} (hy : (zname y).cls = RL) : zLkV y M_X6_child 48 3 := by
  refine ⟨?_, zgw_in (List.mem_of_getElem? (i := 837) (by decide +kernel)) rfl, zgw_in (List.mem_of_getElem? (i := 838) (by decide +kernel)) rfl, by decide +kernel⟩
  rw [hy]
  exact zgw_in (List.mem_of_getElem? (i := 836) (by decide +kernel)) rfl
theorem lk_L_51 {y : zM} (hy : (zname y).cls = RL) : zLkV y M_X6_critical 51 1 := by
  refine ⟨?_, zgw_in (List.mem_of_getElem? (i := 852) (by decide +kernel)) rfl, zgw_in (List.mem_of_getElem? (i := 853) (by decide +kernel)) rfl, by decide +kernel⟩
  rw [hy]
  exact zgw_in (List.mem_of_getElem? (i := 851) (by decide +kernel)) rfl
theorem lk_L_54 {y : zM} (hy : (zname y).cls = RL) : zLkV y M_X6_running 54 1 := by
  refine ⟨?_, zgw_in (List.mem_of_getElem? (i := 863) (by decide +kernel)) rfl, zgw_in (List.mem_of_getElem? (i := 864) (by decide +kernel)) rfl, by decide +kernel⟩
  rw [hy]
  exact zgw_in (List.mem_of_getElem? (i := 862) (by decide +kernel)) rfl
theorem lk_L_57 {y : zM} (hy : (zname y).cls = RL) : zLkV y M_X6_whole 57 1 := by
  refine ⟨?_, zgw_in (List.mem_of_getElem? (i := 871) (by decide +kernel)) rfl, zgw_in (List.mem_of_getElem? (i := 872) (by decide +kernel)) rfl, by decide +kernel⟩
  rw [hy]
  exact zgw_in (List.mem_of_getElem? (i := 870) (by decide +kernel)) rfl
theorem lk_L_60 {y : zM} (hy : (zname y).cls = RL) : zLkV y M_X6_endWith 60 2 := by
  refine ⟨?_, zgw_in (List.mem_of_getElem? (i := 878) (by decide +kernel)) rfl, zgw_in (List.mem_of_getElem? (i := 879) (by decide +kernel)) rfl, by decide +kernel⟩
  rw [hy]
  exact zgw_in (List.mem_of_getElem? (i := 877) (by decide +kernel)) rfl
theorem lk_L_63 {y : zM} (hy : (zname y).cls = RL) : zLkV y M_X6_growsTo 63 1 := by
  refine ⟨?_, zgw_in (List.mem_of_getElem? (i := 891) (by decide +kernel)) rfl, zgw_in (List.mem_of_getElem? (i := 892) (by decide +kernel)) rfl, by decide +kernel⟩
  rw [hy]
  exact zgw_in (List.mem_of_getElem? (i := 890) (by decide +kernel)) rfl
theorem lk_L_66 {y : zM} (hy : (zname y).cls = RL) : zLkV y M_X6_slackIf 66 2 := by
  refine ⟨?_, zgw_in (List.mem_of_getElem? (i := 902) (by decide +kernel)) rfl, zgw_in (List.mem_of_getElem? (i := 903) (by decide +kernel)) rfl, by decide +kernel⟩
  rw [hy]
  exact zgw_in (List.mem_of_getElem? (i := 901) (by decide +kernel)) rfl
theorem lk_L_69 {y : zM} (hy : (zname y).cls = RL) : zLkV y M_X6_reason 69 2 := by
  refine ⟨?_, zgw_in (List.mem_of_getElem? (i := 913) (by decide +kernel)) rfl, zgw_in (List.mem_of_getElem? (i := 914) (by decide +kernel)) rfl, by decide +kernel⟩
  rw [hy]
  exact zgw_in (List.mem_of_getElem? (i := 912) (by decide +kernel)) rfl
theorem lk_L_72 {y : zM} (hy : (zname y).cls = RL) : zLkV y M_X6_type 72 1 := by
  refine ⟨?_, zgw_in (List.mem_of_getElem? (i := 921) (by decide +kernel)) rfl, zgw_in (List.mem_of_getElem? (i := 922) (by decide +kernel)) rfl, by decide +kernel⟩
  rw [hy]
  exact zgw_in (List.mem_of_getElem? (i := 920) (by decide +kernel)) rfl
theorem lk_L_75 {y : zM} (hy : (zname y).cls = RL) : zLkV y M_X6_undo 75 0 := by
  refine ⟨?_, zgw_in (List.mem_of_getElem? (i := 933) (by decide +kernel)) rfl, zgw_in (List.mem_of_getElem? (i := 934) (by decide +kernel)) rfl, by decide +kernel⟩
  rw [hy]
  exact zgw_in (List.mem_of_getElem? (i := 932) (by decide +kernel)) rfl
theorem lc_X6_152 {y : zM} (hy : (zname y).cls = RX6) : Cond.constantLong (zname y).cls 152 (Int64.ofInt (43828)) ∈ zgw := by
  rw [hy]
  exact zgw_in (List.mem_of_getElem? (i := 523) (by decide +kernel)) rfl
theorem lc_X6_165 {y : zM} (hy : (zname y).cls = RX6) : Cond.constantLong (zname y).cls 165 (Int64.ofInt (31)) ∈ zgw := by
  rw [hy]
  exact zgw_in (List.mem_of_getElem? (i := 527) (by decide +kernel)) rfl
theorem lc_X7_207 {y : zM} (hy : (zname y).cls = RX7) : Cond.constantLong (zname y).cls 207 (Int64.ofInt (27)) ∈ zgw := by
  rw [hy]
  exact zgw_in (List.mem_of_getElem? (i := 1285) (by decide +kernel)) rfl
theorem lc_X7_209 {y : zM} (hy : (zname y).cls = RX7) : Cond.constantLong (zname y).cls 209 (Int64.ofInt (96)) ∈ zgw := by
  rw [hy]
  exact zgw_in (List.mem_of_getElem? (i := 1286) (by decide +kernel)) rfl
theorem lc_X7_211 {y : zM} (hy : (zname y).cls = RX7) : Cond.constantLong (zname y).cls 211 (Int64.ofInt (-1)) ∈ zgw := by
  rw [hy]
  exact zgw_in (List.mem_of_getElem? (i := 1287) (by decide +kernel)) rfl
theorem lc_X7_213 {y : zM} (hy : (zname y).cls = RX7) : Cond.constantLong (zname y).cls 213 (Int64.ofInt (4085899)) ∈ zgw := by
  rw [hy]
  exact zgw_in (List.mem_of_getElem? (i := 1288) (by decide +kernel)) rfl
theorem lc_X7_215 {y : zM} (hy : (zname y).cls = RX7) : Cond.constantLong (zname y).cls 215 (Int64.ofInt (394913)) ∈ zgw := by
  rw [hy]
  exact zgw_in (List.mem_of_getElem? (i := 1289) (by decide +kernel)) rfl
theorem lc_X7_217 {y : zM} (hy : (zname y).cls = RX7) : Cond.constantLong (zname y).cls 217 (Int64.ofInt (237458)) ∈ zgw := by
  rw [hy]
  exact zgw_in (List.mem_of_getElem? (i := 1290) (by decide +kernel)) rfl
theorem lc_X7_219 {y : zM} (hy : (zname y).cls = RX7) : Cond.constantLong (zname y).cls 219 (Int64.ofInt (37037273)) ∈ zgw := by
  rw [hy]
  exact zgw_in (List.mem_of_getElem? (i := 1291) (by decide +kernel)) rfl
theorem lc_X7_221 {y : zM} (hy : (zname y).cls = RX7) : Cond.constantLong (zname y).cls 221 (Int64.ofInt (40187)) ∈ zgw := by
  rw [hy]
  exact zgw_in (List.mem_of_getElem? (i := 1292) (by decide +kernel)) rfl
theorem lc_X7_223 {y : zM} (hy : (zname y).cls = RX7) : Cond.constantLong (zname y).cls 223 (Int64.ofInt (267413)) ∈ zgw := by
  rw [hy]
  exact zgw_in (List.mem_of_getElem? (i := 1293) (by decide +kernel)) rfl
theorem lc_X7_225 {y : zM} (hy : (zname y).cls = RX7) : Cond.constantLong (zname y).cls 225 (Int64.ofInt (92275)) ∈ zgw := by
  rw [hy]
  exact zgw_in (List.mem_of_getElem? (i := 1294) (by decide +kernel)) rfl
theorem lc_X7_227 {y : zM} (hy : (zname y).cls = RX7) : Cond.constantLong (zname y).cls 227 (Int64.ofInt (11450658)) ∈ zgw := by
  rw [hy]
  exact zgw_in (List.mem_of_getElem? (i := 1295) (by decide +kernel)) rfl
theorem lc_X7_258 {y : zM} (hy : (zname y).cls = RX7) : Cond.constantLong (zname y).cls 258 (Int64.ofInt (1358668)) ∈ zgw := by
  rw [hy]
  exact zgw_in (List.mem_of_getElem? (i := 1319) (by decide +kernel)) rfl
theorem lc_X7_260 {y : zM} (hy : (zname y).cls = RX7) : Cond.constantLong (zname y).cls 260 (Int64.ofInt (31)) ∈ zgw := by
  rw [hy]
  exact zgw_in (List.mem_of_getElem? (i := 1320) (by decide +kernel)) rfl
