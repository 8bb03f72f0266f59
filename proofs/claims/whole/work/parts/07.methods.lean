/-! the methods by number: name and head word (printed by wip/whole/gen/methods.py) -/
def md_n {α : Type} (p : Nat) (l r : Nat → α) : Nat → α := fun k => bif Nat.ble k p then l k else r k
def md_l {α : Type} (b : α) : Nat → α := fun _ => b
def mi_X0_init : mm_I := (RX0, cX0_init, 2, none, "<init>", [], fun _ _ _ => True)
def mi_X0_clear : mm_I := (RX0, cX0_clear, 1, none, "clear", [], fun _ _ _ => True)
def mi_X0_nextRule : mm_I := (RX0, cX0_nextRule, 2, (some (.object "TunnelDesk$Rule")), "nextRule", [], fun _ _ _ => True)
def mi_X0_addAccount : mm_I := (RX0, cX0_addAccount, 3, none, "addAccount", [], fun _ _ _ => True)
def mi_X0_hasAccount : mm_I := (RX0, cX0_hasAccount, 4, (some .boolean), "hasAccount", [], fun _ _ _ => True)
def mi_X0_letsThrough : mm_I := (RX0, cX0_letsThrough, 3, (some .boolean), "letsThrough", [], fun _ _ _ => True)
def mi_X1_init : mm_I := (RX1, cX1_init, 2, none, "<init>", [], fun _ _ _ => True)
def mi_X1_clear : mm_I := (RX1, cX1_clear, 1, none, "clear", [], fun _ _ _ => True)
def mi_X1_enter : mm_I := (RX1, cX1_enter, 2, none, "enter", [], fun _ _ _ => True)
def mi_X1_hearClient : mm_I := (RX1, cX1_hearClient, 2, (some .boolean), "hearClient", [], fun _ _ _ => True)
def mi_X1_hearTarget : mm_I := (RX1, cX1_hearTarget, 2, (some .boolean), "hearTarget", [], fun _ _ _ => True)
def mi_X1_relay : mm_I := (RX1, cX1_relay, 3, (some .boolean), "relay", [], fun _ _ _ => True)
def mi_X1_begin : mm_I := (RX1, cX1_begin, 2, none, "begin", [], fun _ _ _ => True)
def mi_X1_hearGreeting : mm_I := (RX1, cX1_hearGreeting, 3, none, "hearGreeting", [], fun _ _ _ => True)
def mi_X1_answerGreeting : mm_I := (RX1, cX1_answerGreeting, 3, none, "answerGreeting", [], fun _ _ _ => True)
def mi_X1_hearLogin : mm_I := (RX1, cX1_hearLogin, 4, none, "hearLogin", [], fun _ _ _ => True)
def mi_X1_hearRequest : mm_I := (RX1, cX1_hearRequest, 3, none, "hearRequest", [], fun _ _ _ => True)
def mi_X1_judgeRequest : mm_I := (RX1, cX1_judgeRequest, 1, none, "judgeRequest", [], fun _ _ _ => True)
def mi_X1_reply : mm_I := (RX1, cX1_reply, 3, none, "reply", [], fun _ _ _ => True)
def mi_X1_hearLine : mm_I := (RX1, cX1_hearLine, 3, none, "hearLine", [], fun _ _ _ => True)
def mi_X1_judgeLine : mm_I := (RX1, cX1_judgeLine, 1, none, "judgeLine", [], fun _ _ _ => True)
def mi_X1_tellStatus : mm_I := (RX1, cX1_tellStatus, 2, none, "tellStatus", [], fun _ _ _ => True)
def mi_X1_endConnecting : mm_I := (RX1, cX1_endConnecting, 2, none, "endConnecting", [], fun _ _ _ => True)
def mi_X1_takeForTarget : mm_I := (RX1, cX1_takeForTarget, 1, (some .int), "takeForTarget", [], fun _ _ _ => True)
def mi_X1_takeForClient : mm_I := (RX1, cX1_takeForClient, 1, (some .int), "takeForClient", [], fun _ _ _ => True)
def mi_X1_takeFrom : mm_I := (RX1, cX1_takeFrom, 4, (some .int), "takeFrom", [], fun _ _ _ => True)
def mi_X1_finishSide : mm_I := (RX1, cX1_finishSide, 2, none, "finishSide", [], fun _ _ _ => True)
def mi_X1_endIfAllIsDone : mm_I := (RX1, cX1_endIfAllIsDone, 2, none, "endIfAllIsDone", [], fun _ _ _ => True)
def mi_X1_endsByTick : mm_I := (RX1, cX1_endsByTick, 1, (some .boolean), "endsByTick", [], fun _ _ _ => True)
def mi_X1_mostTicks : mm_I := (RX1, cX1_mostTicks, 1, (some .int), "mostTicks", [], fun _ _ _ => True)
def mi_X2_init : mm_I := (RX2, cX2_init, 1, none, "<init>", [], fun _ _ _ => True)
def mi_X2_clear : mm_I := (RX2, cX2_clear, 1, none, "clear", [], fun _ _ _ => True)
def mi_X2_aim : mm_I := (RX2, cX2_aim, 6, none, "aim", [], fun _ _ _ => True)
def mi_X3_init : mm_I := (RX3, cX3_init, 1, none, "<init>", [], fun _ _ _ => True)
def mi_X3_clear : mm_I := (RX3, cX3_clear, 1, none, "clear", [], fun _ _ _ => True)
def mi_X3_read : mm_I := (RX3, cX3_read, 2, (some .int), "read", [], fun _ _ _ => True)
def mi_X3_offers : mm_I := (RX3, cX3_offers, 2, (some .boolean), "offers", [], fun _ _ _ => True)
def mi_X4_init : mm_I := (RX4, cX4_init, 1, none, "<init>", [], fun _ _ _ => True)
def mi_X4_clear : mm_I := (RX4, cX4_clear, 1, none, "clear", [], fun _ _ _ => True)
def mi_X4_read : mm_I := (RX4, cX4_read, 2, (some .int), "read", [], fun _ _ _ => True)
def mi_X4_readWord : mm_I := (RX4, cX4_readWord, 2, (some .int), "readWord", [], fun _ _ _ => True)
def mi_X4_readName : mm_I := (RX4, cX4_readName, 2, (some .int), "readName", [], fun _ _ _ => True)
def mi_X4_readPort : mm_I := (RX4, cX4_readPort, 2, (some .int), "readPort", [], fun _ _ _ => True)
def mi_X5_init : mm_I := (RX5, cX5_init, 1, none, "<init>", [], fun _ _ _ => True)
def mi_X5_clear : mm_I := (RX5, cX5_clear, 1, none, "clear", [], fun _ _ _ => True)
def mi_X5_read : mm_I := (RX5, cX5_read, 2, (some .int), "read", [], fun _ _ _ => True)
def mi_X6_init : mm_I := (RX6, cX6_init, 1, none, "<init>", [], fun _ _ _ => True)
def mi_X6_clear : mm_I := (RX6, cX6_clear, 1, none, "clear", [], fun _ _ _ => True)
def mi_X6_isToConnect : mm_I := (RX6, cX6_isToConnect, 1, (some .boolean), "isToConnect", [], fun _ _ _ => True)
def mi_X6_read : mm_I := (RX6, cX6_read, 2, (some .int), "read", [], fun _ _ _ => True)
def mi_X6_readType : mm_I := (RX6, cX6_readType, 2, (some .int), "readType", [], fun _ _ _ => True)
def mi_X6_goOnToPort : mm_I := (RX6, cX6_goOnToPort, 1, (some .int), "goOnToPort", [], fun _ _ _ => True)
def mi_X7_init : mm_I := (RX7, cX7_init, 1, none, "<init>", [], fun _ _ _ => True)
def mi_X7_clear : mm_I := (RX7, cX7_clear, 1, none, "clear", [], fun _ _ _ => True)
def mi_X7_put : mm_I := (RX7, cX7_put, 2, (some .boolean), "put", [], fun _ _ _ => True)
def mi_X7_take : mm_I := (RX7, cX7_take, 2, (some .int), "take", [], fun _ _ _ => True)
def mi_X8_init : mm_I := (RX8, cX8_init, 1, none, "<init>", [], fun _ _ _ => True)
def mi_X8_decide : mm_I := (RX8, cX8_decide, 5, none, "decide", [], fun _ _ _ => True)
def mi_X8_cover : mm_I := (RX8, cX8_cover, 3, none, "cover", [], fun _ _ _ => True)
def mi_X8_isMeantFor : mm_I := (RX8, cX8_isMeantFor, 3, (some .boolean), "isMeantFor", [], fun _ _ _ => True)
def mi_X9_init : mm_I := (RX9, cX9_init, 1, none, "<init>", [], fun _ _ _ => True)
def mi_X9_clear : mm_I := (RX9, cX9_clear, 1, none, "clear", [], fun _ _ _ => True)
def mi_X9_put : mm_I := (RX9, cX9_put, 2, (some .boolean), "put", [], fun _ _ _ => True)
def mi_X9_copy : mm_I := (RX9, cX9_copy, 5, none, "copy", [], fun _ _ _ => True)
def mi_X9_firstDot : mm_I := (RX9, cX9_firstDot, 2, (some .int), "firstDot", [], fun _ _ _ => True)
def mi_X9_isSame : mm_I := (RX9, cX9_isSame, 2, (some .boolean), "isSame", [], fun _ _ _ => True)
def mi_X9_isOrEndsByDotAnd : mm_I := (RX9, cX9_isOrEndsByDotAnd, 4, (some .boolean), "isOrEndsByDotAnd", [], fun _ _ _ => True)
def mi_X9_hasOnlyNameParts : mm_I := (RX9, cX9_hasOnlyNameParts, 2, (some .boolean), "hasOnlyNameParts", [], fun _ _ _ => True)
def mi_X9_dottedAddress : mm_I := (RX9, cX9_dottedAddress, 8, (some .long), "dottedAddress", [], fun _ _ _ => True)
def mi_X10_init : mm_I := (RX10, cX10_init, 2, none, "<init>", [], fun _ _ _ => True)
def mi_X10_type : mm_I := (RX10, cX10_type, 2, (some .boolean), "type", [], fun _ _ _ => True)
def mi_X10_rule : mm_I := (RX10, cX10_rule, 8, (some .int), "rule", [], fun _ _ _ => True)
def mi_X10_named : mm_I := (RX10, cX10_named, 5, (some .int), "named", [], fun _ _ _ => True)
def mi_X10_account : mm_I := (RX10, cX10_account, 2, (some .int), "account", [], fun _ _ _ => True)
def mi_X10_forget : mm_I := (RX10, cX10_forget, 2, (some .int), "forget", [], fun _ _ _ => True)
def mi_X10_open : mm_I := (RX10, cX10_open, 2, (some .int), "open", [], fun _ _ _ => True)
def mi_X10_free : mm_I := (RX10, cX10_free, 4, (some .int), "free", [], fun _ _ _ => True)
def mi_X10_send : mm_I := (RX10, cX10_send, 4, (some .boolean), "send", [], fun _ _ _ => True)
def mi_X10_give : mm_I := (RX10, cX10_give, 4, (some .boolean), "give", [], fun _ _ _ => True)
def mi_X10_connected : mm_I := (RX10, cX10_connected, 4, none, "connected", [], fun _ _ _ => True)
def mi_X10_up : mm_I := (RX10, cX10_up, 2, (some .int), "up", [], fun _ _ _ => True)
def mi_X10_down : mm_I := (RX10, cX10_down, 2, (some .int), "down", [], fun _ _ _ => True)
def mi_X10_finish : mm_I := (RX10, cX10_finish, 4, none, "finish", [], fun _ _ _ => True)
def mi_X10_tick : mm_I := (RX10, cX10_tick, 3, (some .int), "tick", [], fun _ _ _ => True)
def mi_X10_about : mm_I := (RX10, cX10_about, 4, (some .int), "about", [], fun _ _ _ => True)
def mi_X10_lets : mm_I := (RX10, cX10_lets, 3, (some .boolean), "lets", [], fun _ _ _ => True)
def mi_X10_full : mm_I := (RX10, cX10_full, 4, (some .float), "full", [], fun _ _ _ => True)
def mi_X10_count : mm_I := (RX10, cX10_count, 2, (some .int), "count", [], fun _ _ _ => True)
def mi_X10_usedConnections : mm_I := (RX10, cX10_usedConnections, 3, (some .int), "usedConnections", [], fun _ _ _ => True)
def mi_X10_usedConnection : mm_I := (RX10, cX10_usedConnection, 2, (some (.object "TunnelDesk$Connection")), "usedConnection", [], fun _ _ _ => True)
def mi_X10_requireByte : mm_I := (RX10, cX10_requireByte, 1, none, "requireByte", [], fun _ _ _ => True)
def mi_X10_requirePorts : mm_I := (RX10, cX10_requirePorts, 2, none, "requirePorts", [], fun _ _ _ => True)
def mi_X10_isSecretLength : mm_I := (RX10, cX10_isSecretLength, 1, (some .boolean), "isSecretLength", [], fun _ _ _ => True)
def mi_X10_isDigit : mm_I := (RX10, cX10_isDigit, 1, (some .boolean), "isDigit", [], fun _ _ _ => True)
def mi_X10_isNamePart : mm_I := (RX10, cX10_isNamePart, 1, (some .boolean), "isNamePart", [], fun _ _ _ => True)
def mi_X11_init : mm_I := (RX11, cX11_init, 1, none, "<init>", [], fun _ _ _ => True)
def mi_X11_thrown : mm_I := (RX11, cX11_thrown, 1, (some .int), "thrown", [], fun _ _ _ => True)
def mi_X11_refuse : mm_I := (RX11, cX11_refuse, 2, (some .int), "refuse", [], fun _ _ _ => True)
def mi_X11_in : mm_I := (RX11, cX11_in, 3, (some .boolean), "in", [], fun _ _ _ => True)
def mi_X11_isDigit : mm_I := (RX11, cX11_isDigit, 1, (some .boolean), "isDigit", [], fun _ _ _ => True)
def mi_X11_isNameCharacter : mm_I := (RX11, cX11_isNameCharacter, 1, (some .boolean), "isNameCharacter", [], fun _ _ _ => True)
def mi_X11_type : mm_I := (RX11, cX11_type, 2, (some .boolean), "type", [], fun _ _ _ => True)
def mi_X11_isRange : mm_I := (RX11, cX11_isRange, 2, (some .boolean), "isRange", [], fun _ _ _ => True)
def mi_X11_addRule : mm_I := (RX11, cX11_addRule, 5, (some .int), "addRule", [], fun _ _ _ => True)
def mi_X11_rule : mm_I := (RX11, cX11_rule, 7, (some .int), "rule", [], fun _ _ _ => True)
def mi_X11_named : mm_I := (RX11, cX11_named, 5, (some .int), "named", [], fun _ _ _ => True)
def mi_X11_account : mm_I := (RX11, cX11_account, 3, (some .int), "account", [], fun _ _ _ => True)
def mi_X11_forget : mm_I := (RX11, cX11_forget, 2, (some .int), "forget", [], fun _ _ _ => True)
def mi_X11_nameAt : mm_I := (RX11, cX11_nameAt, 3, (some .int), "nameAt", [], fun _ _ _ => True)
def mi_X11_asAddress : mm_I := (RX11, cX11_asAddress, 11, (some .long), "asAddress", [], fun _ _ _ => True)
def mi_X11_endsBy : mm_I := (RX11, cX11_endsBy, 7, (some .boolean), "endsBy", [], fun _ _ _ => True)
def mi_X11_meant : mm_I := (RX11, cX11_meant, 7, (some .boolean), "meant", [], fun _ _ _ => True)
def mi_X11_allowed : mm_I := (RX11, cX11_allowed, 6, (some .boolean), "allowed", [], fun _ _ _ => True)
def mi_X11_allowedName : mm_I := (RX11, cX11_allowedName, 6, (some .boolean), "allowedName", [], fun _ _ _ => True)
def mi_X11_lets : mm_I := (RX11, cX11_lets, 3, (some .boolean), "lets", [], fun _ _ _ => True)
def mi_X11_lookAtGoal : mm_I := (RX11, cX11_lookAtGoal, 4, (some .boolean), "lookAtGoal", [], fun _ _ _ => True)
def mi_X11_goalOf : mm_I := (RX11, cX11_goalOf, 5, (some .long), "goalOf", [], fun _ _ _ => True)
def mi_X11_become : mm_I := (RX11, cX11_become, 3, none, "become", [], fun _ _ _ => True)
def mi_X11_isOpen : mm_I := (RX11, cX11_isOpen, 2, (some .boolean), "isOpen", [], fun _ _ _ => True)
def mi_X11_open : mm_I := (RX11, cX11_open, 2, (some .int), "open", [], fun _ _ _ => True)
def mi_X11_free : mm_I := (RX11, cX11_free, 3, (some .int), "free", [], fun _ _ _ => True)
def mi_X11_put : mm_I := (RX11, cX11_put, 3, none, "put", [], fun _ _ _ => True)
def mi_X11_take : mm_I := (RX11, cX11_take, 4, (some .int), "take", [], fun _ _ _ => True)
def mi_X11_lay : mm_I := (RX11, cX11_lay, 4, none, "lay", [], fun _ _ _ => True)
def mi_X11_reply : mm_I := (RX11, cX11_reply, 4, none, "reply", [], fun _ _ _ => True)
def mi_X11_status : mm_I := (RX11, cX11_status, 3, none, "status", [], fun _ _ _ => True)
def mi_X11_keep : mm_I := (RX11, cX11_keep, 3, none, "keep", [], fun _ _ _ => True)
def mi_X11_greeting : mm_I := (RX11, cX11_greeting, 3, none, "greeting", [], fun _ _ _ => True)
def mi_X11_choose : mm_I := (RX11, cX11_choose, 4, none, "choose", [], fun _ _ _ => True)
def mi_X11_password : mm_I := (RX11, cX11_password, 3, none, "password", [], fun _ _ _ => True)
def mi_X11_isAccount : mm_I := (RX11, cX11_isAccount, 6, (some .boolean), "isAccount", [], fun _ _ _ => True)
def mi_X11_enter : mm_I := (RX11, cX11_enter, 4, none, "enter", [], fun _ _ _ => True)
def mi_X11_request : mm_I := (RX11, cX11_request, 3, none, "request", [], fun _ _ _ => True)
def mi_X11_requested : mm_I := (RX11, cX11_requested, 4, none, "requested", [], fun _ _ _ => True)
def mi_X11_text : mm_I := (RX11, cX11_text, 4, none, "text", [], fun _ _ _ => True)
def mi_X11_texted : mm_I := (RX11, cX11_texted, 2, none, "texted", [], fun _ _ _ => True)
def mi_X11_send : mm_I := (RX11, cX11_send, 3, (some .boolean), "send", [], fun _ _ _ => True)
def mi_X11_give : mm_I := (RX11, cX11_give, 3, (some .boolean), "give", [], fun _ _ _ => True)
def mi_X11_connected : mm_I := (RX11, cX11_connected, 3, none, "connected", [], fun _ _ _ => True)
def mi_X11_answer : mm_I := (RX11, cX11_answer, 3, none, "answer", [], fun _ _ _ => True)
def mi_X11_settle : mm_I := (RX11, cX11_settle, 2, none, "settle", [], fun _ _ _ => True)
def mi_X11_out : mm_I := (RX11, cX11_out, 5, (some .int), "out", [], fun _ _ _ => True)
def mi_X11_up : mm_I := (RX11, cX11_up, 2, (some .int), "up", [], fun _ _ _ => True)
def mi_X11_down : mm_I := (RX11, cX11_down, 2, (some .int), "down", [], fun _ _ _ => True)
def mi_X11_finish : mm_I := (RX11, cX11_finish, 4, none, "finish", [], fun _ _ _ => True)
def mi_X11_tick : mm_I := (RX11, cX11_tick, 5, (some .int), "tick", [], fun _ _ _ => True)
def mi_X11_about : mm_I := (RX11, cX11_about, 3, (some .int), "about", [], fun _ _ _ => True)
def mi_X11_opened : mm_I := (RX11, cX11_opened, 3, (some .int), "opened", [], fun _ _ _ => True)
def mi_X11_full : mm_I := (RX11, cX11_full, 3, (some .float), "full", [], fun _ _ _ => True)
def mi_X11_count : mm_I := (RX11, cX11_count, 2, (some .int), "count", [], fun _ _ _ => True)
def mi_L_rule : mm_I := (RL, cL_rule, 9, (some .int), "rule", tableOf [(0, 18, 21, 13), (0, 18, 25, 15)], fun _ _ _ => True)
def mi_L_named : mm_I := (RL, cL_named, 6, (some .int), "named", tableOf [(0, 12, 15, 13), (0, 12, 19, 15)], fun _ _ _ => True)
def mi_L_account : mm_I := (RL, cL_account, 3, (some .int), "account", tableOf [(0, 8, 11, 13), (0, 8, 14, 15)], fun _ _ _ => True)
def mi_L_free : mm_I := (RL, cL_free, 4, (some .int), "free", tableOf [(0, 9, 12, 29)], fun _ _ _ => True)
def mi_L_send : mm_I := (RL, cL_send, 5, (some .int), "send", tableOf [(0, 17, 20, 29), (0, 17, 24, 13), (0, 17, 28, 15)], fun _ _ _ => True)
def mi_L_give : mm_I := (RL, cL_give, 5, (some .int), "give", tableOf [(0, 17, 20, 29), (0, 17, 24, 13), (0, 17, 28, 15)], fun _ _ _ => True)
def mi_L_connected : mm_I := (RL, cL_connected, 4, (some .int), "connected", tableOf [(0, 6, 9, 29), (0, 6, 12, 15)], fun _ _ _ => True)
def mi_L_up : mm_I := (RL, cL_up, 4, (some .int), "up", tableOf [(0, 9, 12, 29)], fun _ _ _ => True)
def mi_L_down : mm_I := (RL, cL_down, 4, (some .int), "down", tableOf [(0, 9, 12, 29)], fun _ _ _ => True)
def mi_L_finish : mm_I := (RL, cL_finish, 4, (some .int), "finish", tableOf [(0, 6, 9, 29), (0, 6, 12, 15)], fun _ _ _ => True)
def mi_L_about : mm_I := (RL, cL_about, 5, (some .int), "about", tableOf [(0, 10, 13, 29), (0, 10, 17, 13)], fun _ _ _ => True)
def mi_L_lets : mm_I := (RL, cL_lets, 5, (some .int), "lets", tableOf [(0, 17, 20, 13)], fun _ _ _ => True)
def mi_L_count : mm_I := (RL, cL_count, 4, (some .int), "count", tableOf [(0, 9, 12, 13)], fun _ _ _ => True)
def mi_J0_length_8abf5 : mm_I := (RJ0, cJ0_length_8abf5, 1, (some .int), "length", [], fun _ _ _ => True)
def mi_J0_charAt_5068e : mm_I := (RJ0, cJ0_charAt_5068e, 2, (some .char), "charAt", [], fun _ _ _ => True)
def mi_J0_coder_7d493 : mm_I := (RJ0, cJ0_coder_7d493, 1, (some .byte), "coder", [], fun _ _ _ => True)
def mi_J0_isLatin1_aae02 : mm_I := (RJ0, cJ0_isLatin1_aae02, 1, (some .boolean), "isLatin1", [], fun _ _ _ => True)
def mi_J1_charAt_3b067 : mm_I := (RJ1, cJ1_charAt_3b067, 2, (some .char), "charAt", [], fun _ _ _ => True)
def mm_yh : Nat → MethodName × Cond := md_n 83 (md_n 41 (md_n 20 (md_n 9 (md_n 4 (md_n 1 (md_n 0 (md_l (yX0_init, .code yX0_init cX0_init 2 none)) (md_l (yX0_clear, .code yX0_clear cX0_clear 1 none))) (md_n 2 (md_l (yX0_nextRule, .code yX0_nextRule cX0_nextRule 2 (some (.object "TunnelDesk$Rule")))) (md_n 3 (md_l (yX0_addAccount, .code yX0_addAccount cX0_addAccount 3 none)) (md_l (yX0_hasAccount, .code yX0_hasAccount cX0_hasAccount 4 (some .boolean)))))) (md_n 6 (md_n 5 (md_l (yX0_letsThrough, .code yX0_letsThrough cX0_letsThrough 3 (some .boolean))) (md_l (yX1_init, .code yX1_init cX1_init 2 none))) (md_n 7 (md_l (yX1_clear, .code yX1_clear cX1_clear 1 none)) (md_n 8 (md_l (yX1_enter, .code yX1_enter cX1_enter 2 none)) (md_l (yX1_hearClient, .code yX1_hearClient cX1_hearClient 2 (some .boolean))))))) (md_n 14 (md_n 11 (md_n 10 (md_l (yX1_hearTarget, .code yX1_hearTarget cX1_hearTarget 2 (some .boolean))) (md_l (yX1_relay, .code yX1_relay cX1_relay 3 (some .boolean)))) (md_n 12 (md_l (yX1_begin, .code yX1_begin cX1_begin 2 none)) (md_n 13 (md_l (yX1_hearGreeting, .code yX1_hearGreeting cX1_hearGreeting 3 none)) (md_l (yX1_answerGreeting, .code yX1_answerGreeting cX1_answerGreeting 3 none))))) (md_n 17 (md_n 15 (md_l (yX1_hearLogin, .code yX1_hearLogin cX1_hearLogin 4 none)) (md_n 16 (md_l (yX1_hearRequest, .code yX1_hearRequest cX1_hearRequest 3 none)) (md_l (yX1_judgeRequest, .code yX1_judgeRequest cX1_judgeRequest 1 none)))) (md_n 18 (md_l (yX1_reply, .code yX1_reply cX1_reply 3 none)) (md_n 19 (md_l (yX1_hearLine, .code yX1_hearLine cX1_hearLine 3 none)) (md_l (yX1_judgeLine, .code yX1_judgeLine cX1_judgeLine 1 none))))))) (md_n 30 (md_n 25 (md_n 22 (md_n 21 (md_l (yX1_tellStatus, .code yX1_tellStatus cX1_tellStatus 2 none)) (md_l (yX1_endConnecting, .code yX1_endConnecting cX1_endConnecting 2 none))) (md_n 23 (md_l (yX1_takeForTarget, .code yX1_takeForTarget cX1_takeForTarget 1 (some .int))) (md_n 24 (md_l (yX1_takeForClient, .code yX1_takeForClient cX1_takeForClient 1 (some .int))) (md_l (yX1_takeFrom, .code yX1_takeFrom cX1_takeFrom 4 (some .int)))))) (md_n 27 (md_n 26 (md_l (yX1_finishSide, .code yX1_finishSide cX1_finishSide 2 none)) (md_l (yX1_endIfAllIsDone, .code yX1_endIfAllIsDone cX1_endIfAllIsDone 2 none))) (md_n 28 (md_l (yX1_endsByTick, .code yX1_endsByTick cX1_endsByTick 1 (some .boolean))) (md_n 29 (md_l (yX1_mostTicks, .code yX1_mostTicks cX1_mostTicks 1 (some .int))) (md_l (yX2_init, .code yX2_init cX2_init 1 none)))))) (md_n 35 (md_n 32 (md_n 31 (md_l (yX2_clear, .code yX2_clear cX2_clear 1 none)) (md_l (yX2_aim, .code yX2_aim cX2_aim 6 none))) (md_n 33 (md_l (yX3_init, .code yX3_init cX3_init 1 none)) (md_n 34 (md_l (yX3_clear, .code yX3_clear cX3_clear 1 none)) (md_l (yX3_read, .code yX3_read cX3_read 2 (some .int)))))) (md_n 38 (md_n 36 (md_l (yX3_offers, .code yX3_offers cX3_offers 2 (some .boolean))) (md_n 37 (md_l (yX4_init, .code yX4_init cX4_init 1 none)) (md_l (yX4_clear, .code yX4_clear cX4_clear 1 none)))) (md_n 39 (md_l (yX4_read, .code yX4_read cX4_read 2 (some .int))) (md_n 40 (md_l (yX4_readWord, .code yX4_readWord cX4_readWord 2 (some .int))) (md_l (yX4_readName, .code yX4_readName cX4_readName 2 (some .int))))))))) (md_n 62 (md_n 51 (md_n 46 (md_n 43 (md_n 42 (md_l (yX4_readPort, .code yX4_readPort cX4_readPort 2 (some .int))) (md_l (yX5_init, .code yX5_init cX5_init 1 none))) (md_n 44 (md_l (yX5_clear, .code yX5_clear cX5_clear 1 none)) (md_n 45 (md_l (yX5_read, .code yX5_read cX5_read 2 (some .int))) (md_l (yX6_init, .code yX6_init cX6_init 1 none))))) (md_n 48 (md_n 47 (md_l (yX6_clear, .code yX6_clear cX6_clear 1 none)) (md_l (yX6_isToConnect, .code yX6_isToConnect cX6_isToConnect 1 (some .boolean)))) (md_n 49 (md_l (yX6_read, .code yX6_read cX6_read 2 (some .int))) (md_n 50 (md_l (yX6_readType, .code yX6_readType cX6_readType 2 (some .int))) (md_l (yX6_goOnToPort, .code yX6_goOnToPort cX6_goOnToPort 1 (some .int))))))) (md_n 56 (md_n 53 (md_n 52 (md_l (yX7_init, .code yX7_init cX7_init 1 none)) (md_l (yX7_clear, .code yX7_clear cX7_clear 1 none))) (md_n 54 (md_l (yX7_put, .code yX7_put cX7_put 2 (some .boolean))) (md_n 55 (md_l (yX7_take, .code yX7_take cX7_take 2 (some .int))) (md_l (yX8_init, .code yX8_init cX8_init 1 none))))) (md_n 59 (md_n 57 (md_l (yX8_decide, .code yX8_decide cX8_decide 5 none)) (md_n 58 (md_l (yX8_cover, .code yX8_cover cX8_cover 3 none)) (md_l (yX8_isMeantFor, .code yX8_isMeantFor cX8_isMeantFor 3 (some .boolean))))) (md_n 60 (md_l (yX9_init, .code yX9_init cX9_init 1 none)) (md_n 61 (md_l (yX9_clear, .code yX9_clear cX9_clear 1 none)) (md_l (yX9_put, .code yX9_put cX9_put 2 (some .boolean)))))))) (md_n 72 (md_n 67 (md_n 64 (md_n 63 (md_l (yX9_copy, .code yX9_copy cX9_copy 5 none)) (md_l (yX9_firstDot, .code yX9_firstDot cX9_firstDot 2 (some .int)))) (md_n 65 (md_l (yX9_isSame, .code yX9_isSame cX9_isSame 2 (some .boolean))) (md_n 66 (md_l (yX9_isOrEndsByDotAnd, .code yX9_isOrEndsByDotAnd cX9_isOrEndsByDotAnd 4 (some .boolean))) (md_l (yX9_hasOnlyNameParts, .code yX9_hasOnlyNameParts cX9_hasOnlyNameParts 2 (some .boolean)))))) (md_n 69 (md_n 68 (md_l (yX9_dottedAddress, .code yX9_dottedAddress cX9_dottedAddress 8 (some .long))) (md_l (yX10_init, .code yX10_init cX10_init 2 none))) (md_n 70 (md_l (yX10_type, .code yX10_type cX10_type 2 (some .boolean))) (md_n 71 (md_l (yX10_rule, .code yX10_rule cX10_rule 8 (some .int))) (md_l (yX10_named, .code yX10_named cX10_named 5 (some .int))))))) (md_n 77 (md_n 74 (md_n 73 (md_l (yX10_account, .code yX10_account cX10_account 2 (some .int))) (md_l (yX10_forget, .code yX10_forget cX10_forget 2 (some .int)))) (md_n 75 (md_l (yX10_open, .code yX10_open cX10_open 2 (some .int))) (md_n 76 (md_l (yX10_free, .code yX10_free cX10_free 4 (some .int))) (md_l (yX10_send, .code yX10_send cX10_send 4 (some .boolean)))))) (md_n 80 (md_n 78 (md_l (yX10_give, .code yX10_give cX10_give 4 (some .boolean))) (md_n 79 (md_l (yX10_connected, .code yX10_connected cX10_connected 4 none)) (md_l (yX10_up, .code yX10_up cX10_up 2 (some .int))))) (md_n 81 (md_l (yX10_down, .code yX10_down cX10_down 2 (some .int))) (md_n 82 (md_l (yX10_finish, .code yX10_finish cX10_finish 4 none)) (md_l (yX10_tick, .code yX10_tick cX10_tick 3 (some .int)))))))))) (md_n 125 (md_n 104 (md_n 93 (md_n 88 (md_n 85 (md_n 84 (md_l (yX10_about, .code yX10_about cX10_about 4 (some .int))) (md_l (yX10_lets, .code yX10_lets cX10_lets 3 (some .boolean)))) (md_n 86 (md_l (yX10_full, .code yX10_full cX10_full 4 (some .float))) (md_n 87 (md_l (yX10_count, .code yX10_count cX10_count 2 (some .int))) (md_l (yX10_usedConnections, .code yX10_usedConnections cX10_usedConnections 3 (some .int)))))) (md_n 90 (md_n 89 (md_l (yX10_usedConnection, .code yX10_usedConnection cX10_usedConnection 2 (some (.object "TunnelDesk$Connection")))) (md_l (yX10_requireByte, .code yX10_requireByte cX10_requireByte 1 none))) (md_n 91 (md_l (yX10_requirePorts, .code yX10_requirePorts cX10_requirePorts 2 none)) (md_n 92 (md_l (yX10_isSecretLength, .code yX10_isSecretLength cX10_isSecretLength 1 (some .boolean))) (md_l (yX10_isDigit, .code yX10_isDigit cX10_isDigit 1 (some .boolean))))))) (md_n 98 (md_n 95 (md_n 94 (md_l (yX10_isNamePart, .code yX10_isNamePart cX10_isNamePart 1 (some .boolean))) (md_l (yX11_init, .code yX11_init cX11_init 1 none))) (md_n 96 (md_l (yX11_thrown, .code yX11_thrown cX11_thrown 1 (some .int))) (md_n 97 (md_l (yX11_refuse, .code yX11_refuse cX11_refuse 2 (some .int))) (md_l (yX11_in, .code yX11_in cX11_in 3 (some .boolean)))))) (md_n 101 (md_n 99 (md_l (yX11_isDigit, .code yX11_isDigit cX11_isDigit 1 (some .boolean))) (md_n 100 (md_l (yX11_isNameCharacter, .code yX11_isNameCharacter cX11_isNameCharacter 1 (some .boolean))) (md_l (yX11_type, .code yX11_type cX11_type 2 (some .boolean))))) (md_n 102 (md_l (yX11_isRange, .code yX11_isRange cX11_isRange 2 (some .boolean))) (md_n 103 (md_l (yX11_addRule, .code yX11_addRule cX11_addRule 5 (some .int))) (md_l (yX11_rule, .code yX11_rule cX11_rule 7 (some .int)))))))) (md_n 114 (md_n 109 (md_n 106 (md_n 105 (md_l (yX11_named, .code yX11_named cX11_named 5 (some .int))) (md_l (yX11_account, .code yX11_account cX11_account 3 (some .int)))) (md_n 107 (md_l (yX11_forget, .code yX11_forget cX11_forget 2 (some .int))) (md_n 108 (md_l (yX11_nameAt, .code yX11_nameAt cX11_nameAt 3 (some .int))) (md_l (yX11_asAddress, .code yX11_asAddress cX11_asAddress 11 (some .long)))))) (md_n 111 (md_n 110 (md_l (yX11_endsBy, .code yX11_endsBy cX11_endsBy 7 (some .boolean))) (md_l (yX11_meant, .code yX11_meant cX11_meant 7 (some .boolean)))) (md_n 112 (md_l (yX11_allowed, .code yX11_allowed cX11_allowed 6 (some .boolean))) (md_n 113 (md_l (yX11_allowedName, .code yX11_allowedName cX11_allowedName 6 (some .boolean))) (md_l (yX11_lets, .code yX11_lets cX11_lets 3 (some .boolean))))))) (md_n 119 (md_n 116 (md_n 115 (md_l (yX11_lookAtGoal, .code yX11_lookAtGoal cX11_lookAtGoal 4 (some .boolean))) (md_l (yX11_goalOf, .code yX11_goalOf cX11_goalOf 5 (some .long)))) (md_n 117 (md_l (yX11_become, .code yX11_become cX11_become 3 none)) (md_n 118 (md_l (yX11_isOpen, .code yX11_isOpen cX11_isOpen 2 (some .boolean))) (md_l (yX11_open, .code yX11_open cX11_open 2 (some .int)))))) (md_n 122 (md_n 120 (md_l (yX11_free, .code yX11_free cX11_free 3 (some .int))) (md_n 121 (md_l (yX11_put, .code yX11_put cX11_put 3 none)) (md_l (yX11_take, .code yX11_take cX11_take 4 (some .int))))) (md_n 123 (md_l (yX11_lay, .code yX11_lay cX11_lay 4 none)) (md_n 124 (md_l (yX11_reply, .code yX11_reply cX11_reply 4 none)) (md_l (yX11_status, .code yX11_status cX11_status 3 none)))))))) (md_n 146 (md_n 135 (md_n 130 (md_n 127 (md_n 126 (md_l (yX11_keep, .code yX11_keep cX11_keep 3 none)) (md_l (yX11_greeting, .code yX11_greeting cX11_greeting 3 none))) (md_n 128 (md_l (yX11_choose, .code yX11_choose cX11_choose 4 none)) (md_n 129 (md_l (yX11_password, .code yX11_password cX11_password 3 none)) (md_l (yX11_isAccount, .code yX11_isAccount cX11_isAccount 6 (some .boolean)))))) (md_n 132 (md_n 131 (md_l (yX11_enter, .code yX11_enter cX11_enter 4 none)) (md_l (yX11_request, .code yX11_request cX11_request 3 none))) (md_n 133 (md_l (yX11_requested, .code yX11_requested cX11_requested 4 none)) (md_n 134 (md_l (yX11_text, .code yX11_text cX11_text 4 none)) (md_l (yX11_texted, .code yX11_texted cX11_texted 2 none)))))) (md_n 140 (md_n 137 (md_n 136 (md_l (yX11_send, .code yX11_send cX11_send 3 (some .boolean))) (md_l (yX11_give, .code yX11_give cX11_give 3 (some .boolean)))) (md_n 138 (md_l (yX11_connected, .code yX11_connected cX11_connected 3 none)) (md_n 139 (md_l (yX11_answer, .code yX11_answer cX11_answer 3 none)) (md_l (yX11_settle, .code yX11_settle cX11_settle 2 none))))) (md_n 143 (md_n 141 (md_l (yX11_out, .code yX11_out cX11_out 5 (some .int))) (md_n 142 (md_l (yX11_up, .code yX11_up cX11_up 2 (some .int))) (md_l (yX11_down, .code yX11_down cX11_down 2 (some .int))))) (md_n 144 (md_l (yX11_finish, .code yX11_finish cX11_finish 4 none)) (md_n 145 (md_l (yX11_tick, .code yX11_tick cX11_tick 5 (some .int))) (md_l (yX11_about, .code yX11_about cX11_about 3 (some .int)))))))) (md_n 156 (md_n 151 (md_n 148 (md_n 147 (md_l (yX11_opened, .code yX11_opened cX11_opened 3 (some .int))) (md_l (yX11_full, .code yX11_full cX11_full 3 (some .float)))) (md_n 149 (md_l (yX11_count, .code yX11_count cX11_count 2 (some .int))) (md_n 150 (md_l (yL_rule, .codeWith yL_rule cL_rule 9 (some .int) [(0, 18, 21, 13), (0, 18, 25, 15)])) (md_l (yL_named, .codeWith yL_named cL_named 6 (some .int) [(0, 12, 15, 13), (0, 12, 19, 15)]))))) (md_n 153 (md_n 152 (md_l (yL_account, .codeWith yL_account cL_account 3 (some .int) [(0, 8, 11, 13), (0, 8, 14, 15)])) (md_l (yL_free, .codeWith yL_free cL_free 4 (some .int) [(0, 9, 12, 29)]))) (md_n 154 (md_l (yL_send, .codeWith yL_send cL_send 5 (some .int) [(0, 17, 20, 29), (0, 17, 24, 13), (0, 17, 28, 15)])) (md_n 155 (md_l (yL_give, .codeWith yL_give cL_give 5 (some .int) [(0, 17, 20, 29), (0, 17, 24, 13), (0, 17, 28, 15)])) (md_l (yL_connected, .codeWith yL_connected cL_connected 4 (some .int) [(0, 6, 9, 29), (0, 6, 12, 15)])))))) (md_n 161 (md_n 158 (md_n 157 (md_l (yL_up, .codeWith yL_up cL_up 4 (some .int) [(0, 9, 12, 29)])) (md_l (yL_down, .codeWith yL_down cL_down 4 (some .int) [(0, 9, 12, 29)]))) (md_n 159 (md_l (yL_finish, .codeWith yL_finish cL_finish 4 (some .int) [(0, 6, 9, 29), (0, 6, 12, 15)])) (md_n 160 (md_l (yL_about, .codeWith yL_about cL_about 5 (some .int) [(0, 10, 13, 29), (0, 10, 17, 13)])) (md_l (yL_lets, .codeWith yL_lets cL_lets 5 (some .int) [(0, 17, 20, 13)]))))) (md_n 164 (md_n 162 (md_l (yL_count, .codeWith yL_count cL_count 4 (some .int) [(0, 9, 12, 13)])) (md_n 163 (md_l (yJ0_length_8abf5, .code yJ0_length_8abf5 cJ0_length_8abf5 1 (some .int))) (md_l (yJ0_charAt_5068e, .code yJ0_charAt_5068e cJ0_charAt_5068e 2 (some .char))))) (md_n 165 (md_l (yJ0_coder_7d493, .code yJ0_coder_7d493 cJ0_coder_7d493 1 (some .byte))) (md_n 166 (md_l (yJ0_isLatin1_aae02, .code yJ0_isLatin1_aae02 cJ0_isLatin1_aae02 1 (some .boolean))) (md_l (yJ1_charAt_3b067, .code yJ1_charAt_3b067 cJ1_charAt_3b067 2 (some .char))))))))))
-- 0 X0_init
-- 1 X0_clear
-- 2 X0_nextRule
-- 3 X0_addAccount
-- 4 X0_hasAccount
-- 5 X0_letsThrough
-- 6 X1_init
-- 7 X1_clear
-- 8 X1_enter
-- 9 X1_hearClient
-- 10 X1_hearTarget
-- 11 X1_relay
-- 12 X1_begin
-- 13 X1_hearGreeting
-- 14 X1_answerGreeting
-- 15 X1_hearLogin
-- 16 X1_hearRequest
-- 17 X1_judgeRequest
-- 18 X1_reply
-- 19 X1_hearLine
-- 20 X1_judgeLine
-- 21 X1_tellStatus
-- 22 X1_endConnecting
-- 23 X1_takeForTarget
-- 24 X1_takeForClient
-- 25 X1_takeFrom
-- 26 X1_finishSide
-- 27 X1_endIfAllIsDone
-- 28 X1_endsByTick
-- 29 X1_mostTicks
-- 30 X2_init
-- 31 X2_clear
-- 32 X2_aim
-- 33 X3_init
-- 34 X3_clear
-- 35 X3_read
-- 36 X3_offers
-- 37 X4_init
-- 38 X4_clear
-- 39 X4_read
-- 40 X4_readWord
-- 41 X4_readName
-- 42 X4_readPort
-- 43 X5_init
-- 44 X5_clear
-- 45 X5_read
-- 46 X6_init
-- 47 X6_clear
-- 48 X6_isToConnect
-- 49 X6_read
-- 50 X6_readType
-- 51 X6_goOnToPort
-- 52 X7_init
-- 53 X7_clear
-- 54 X7_put
-- 55 X7_take
-- 56 X8_init
-- 57 X8_decide
-- 58 X8_cover
-- 59 X8_isMeantFor
-- 60 X9_init
-- 61 X9_clear
-- 62 X9_put
-- 63 X9_copy
-- 64 X9_firstDot
-- 65 X9_isSame
-- 66 X9_isOrEndsByDotAnd
-- 67 X9_hasOnlyNameParts
-- 68 X9_dottedAddress
-- 69 X10_init
-- 70 X10_type
-- 71 X10_rule
-- 72 X10_named
-- 73 X10_account
-- 74 X10_forget
-- 75 X10_open
-- 76 X10_free
-- 77 X10_send
-- 78 X10_give
-- 79 X10_connected
-- 80 X10_up
-- 81 X10_down
-- 82 X10_finish
-- 83 X10_tick
-- 84 X10_about
-- 85 X10_lets
-- 86 X10_full
-- 87 X10_count
-- 88 X10_usedConnections
-- 89 X10_usedConnection
-- 90 X10_requireByte
-- 91 X10_requirePorts
-- 92 X10_isSecretLength
-- 93 X10_isDigit
-- 94 X10_isNamePart
-- 95 X11_init
-- 96 X11_thrown
-- 97 X11_refuse
-- 98 X11_in
-- 99 X11_isDigit
-- 100 X11_isNameCharacter
-- 101 X11_type
-- 102 X11_isRange
-- 103 X11_addRule
-- 104 X11_rule
-- 105 X11_named
-- 106 X11_account
-- 107 X11_forget
-- 108 X11_nameAt
-- 109 X11_asAddress
-- 110 X11_endsBy
-- 111 X11_meant
-- 112 X11_allowed
-- 113 X11_allowedName
-- 114 X11_lets
-- 115 X11_lookAtGoal
-- 116 X11_goalOf
-- 117 X11_become
-- 118 X11_isOpen
-- 119 X11_open
-- 120 X11_free
-- 121 X11_put
-- 122 X11_take
-- 123 X11_lay
-- 124 X11_reply
-- 125 X11_status
-- 126 X11_keep
-- 127 X11_greeting
-- 128 X11_choose
-- 129 X11_password
-- 130 X11_isAccount
-- 131 X11_enter
-- 132 X11_request
-- 133 X11_requested
-- 134 X11_text
-- 135 X11_texted
-- 136 X11_send
-- 137 X11_give
-- 138 X11_connected
-- 139 X11_answer
-- 140 X11_settle
-- 141 X11_out
-- 142 X11_up
-- 143 X11_down
-- 144 X11_finish
-- 145 X11_tick
-- 146 X11_about
-- 147 X11_opened
-- 148 X11_full
-- 149 X11_count
-- 150 L_rule
-- 151 L_named
-- 152 L_account
-- 153 L_free
-- 154 L_send
-- 155 L_give
-- 156 L_connected
-- 157 L_up
-- 158 L_down
-- 159 L_finish
-- 160 L_about
-- 161 L_lets
-- 162 L_count
-- 163 J0_length_8abf5
-- 164 J0_charAt_5068e
-- 165 J0_coder_7d493
-- 166 J0_isLatin1_aae02
-- 167 J1_charAt_3b067
