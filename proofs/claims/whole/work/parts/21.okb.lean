/-! rows are right, calls have their words: by the kernel -/
set_option maxRecDepth 100000 in
theorem ok_Ja_fill : am_okM M_Ja_fill = true := am_okMf_ok (hs := [0, 0, 0, 0, 0, 0, 0, 0, 0, 0, 0, 0, 0, 0, 0]) (by decide +kernel)
set_option maxRecDepth 100000 in
theorem ok_Js_length : am_okM M_Js_length = true := am_okMf_ok (hs := [0, 0, 0, 0, 0, 0, 0]) (by decide +kernel)
set_option maxRecDepth 100000 in
theorem ok_Js_coder : am_okM M_Js_coder = true := am_okMf_ok (hs := [0, 0, 0, 0, 0, 0, 0]) (by decide +kernel)
set_option maxRecDepth 100000 in
theorem ok_Js_charAt : am_okM M_Js_charAt = true := am_okMf_ok (hs := [0, 0, 0, 0, 0, 0, 0, 0, 0, 0, 0, 0, 0]) (by decide +kernel)
set_option maxRecDepth 100000 in
theorem ok_Js_isLatin1 : am_okM M_Js_isLatin1 = true := am_okMf_ok (hs := [0, 0, 0, 0, 0, 0, 0, 0, 0]) (by decide +kernel)
set_option maxRecDepth 100000 in
theorem ok_Jl_charAt : am_okM M_Jl_charAt = true := am_okMf_ok (hs := [0, 0, 0, 0, 0, 0, 0, 0, 0, 0, 0]) (by decide +kernel)
set_option maxRecDepth 100000 in
theorem ok_Js_checkIndex : am_okM M_Js_checkIndex = true := am_okMf_ok (hs := [0, 0, 0, 0, 0, 0]) (by decide +kernel)
set_option maxRecDepth 100000 in
theorem ok_Jp_checkIndex : am_okM M_Jp_checkIndex = true := am_okMf_ok (hs := [0, 0, 0, 0, 0, 0, 0, 0, 0, 0, 0, 0]) (by decide +kernel)
set_option maxRecDepth 100000 in
theorem ok_Js_indexOf_1 : am_okM M_Js_indexOf_1 = true := am_okMf_ok (hs := [0, 0, 0, 0, 0]) (by decide +kernel)
set_option maxRecDepth 100000 in
theorem ok_Js_indexOf_2 : am_okM M_Js_indexOf_2 = true := am_okMf_ok (hs := [0, 0, 0, 0, 0, 0, 0, 0, 0, 0, 0, 0, 0, 0, 0, 0, 0, 0, 0]) (by decide +kernel)
set_option maxRecDepth 100000 in
theorem ok_Jl_indexOf : am_okM M_Jl_indexOf = true := am_okMf_ok (hs := [0, 0, 0, 0, 0, 0, 0, 0, 0, 0, 0, 0, 0, 0, 0, 0, 0, 0, 0, 0, 0, 0, 0, 0, 0]) (by decide +kernel)
set_option maxRecDepth 100000 in
theorem ok_Jl_canEncode : am_okM M_Jl_canEncode = true := am_okMf_ok (hs := [0, 0, 0, 0, 0, 0, 0, 0, 0]) (by decide +kernel)
set_option maxRecDepth 100000 in
theorem ok_Jl_indexOfChar : am_okM M_Jl_indexOfChar = true := am_okMf_ok (hs := [0, 0, 0, 0, 0, 0, 0, 0, 0, 0, 0, 0, 0, 0, 0, 0, 0, 0, 0]) (by decide +kernel)
set_option maxRecDepth 100000 in
theorem ok_Js_checkBoundsBeginEnd : am_okM M_Js_checkBoundsBeginEnd = true := am_okMf_ok (hs := [0, 0, 0, 0, 0, 0, 0]) (by decide +kernel)
set_option maxRecDepth 100000 in
theorem ok_Jp_checkFromToIndex : am_okM M_Jp_checkFromToIndex = true := am_okMf_ok (hs := [0, 0, 0, 0, 0, 0, 0, 0, 0, 0, 0, 0, 0, 0, 0, 0]) (by decide +kernel)
set_option maxRecDepth 100000 in
theorem ok_Ja_copyOf_J : am_okM M_Ja_copyOf_J = true := am_okMf_ok (hs := [0, 0, 0, 0, 0, 0, 0, 0, 0, 0, 0, 0, 0, 0, 0, 0, 0, 0, 0, 0, 0, 0]) (by decide +kernel)
set_option maxRecDepth 100000 in
theorem ok_Ja_copyOf_I : am_okM M_Ja_copyOf_I = true := am_okMf_ok (hs := [0, 0, 0, 0, 0, 0, 0, 0, 0, 0, 0, 0, 0, 0, 0, 0, 0, 0, 0, 0, 0, 0]) (by decide +kernel)
set_option maxRecDepth 100000 in
theorem ok_X_init : am_okM M_X_init = true := am_okMf_ok (hs := [0, 0, 0, 0, 0, 0, 361, 0, 0, 0, 0, 362, 0, 0, 0, 0, 362, 0, 361, 0, 363, 0, 0, 0, 0, 361, 0, 364, 0, 0, 0, 0, 0, 365, 0, 0, 0, 0, 0, 366, 0, 0, 0, 0, 0, 367, 0, 0, 0, 368, 0, 368, 0, 0, 0]) (by decide +kernel)
set_option maxRecDepth 100000 in
theorem ok_X_feed : am_okM M_X_feed = true := am_okMf_ok (hs := [0, 362, 0, 0, 0, 0, 0, 0, 0]) (by decide +kernel)
set_option maxRecDepth 100000 in
theorem ok_X_end : am_okM M_X_end = true := am_okMf_ok (hs := [0, 362, 0, 0, 0]) (by decide +kernel)
set_option maxRecDepth 100000 in
theorem ok_X_read : am_okM M_X_read = true := am_okMf_ok (hs := [0, 0, 0, 0, 361, 0, 363, 0, 0, 0, 0, 0, 0, 363, 0, 0, 0, 362, 0, 0, 0, 0, 368, 0, 0, 363, 0, 0, 0, 0]) (by decide +kernel)
set_option maxRecDepth 100000 in
theorem ok_X_fault : am_okM M_X_fault = true := am_okMf_ok (hs := [0, 0, 0, 363, 0, 0, 0, 363, 0, 0, 0, 0]) (by decide +kernel)
set_option maxRecDepth 100000 in
theorem ok_X_tell : am_okM M_X_tell = true := am_okMf_ok (hs := [0, 0, 0, 0, 0, 0, 364, 0, 365, 0, 368, 0, 0, 0, 0, 365, 0, 0]) (by decide +kernel)
set_option maxRecDepth 100000 in
theorem ok_X_letter : am_okM M_X_letter = true := am_okMf_ok (hs := [0, 365, 0, 0, 0]) (by decide +kernel)
set_option maxRecDepth 100000 in
theorem ok_X_cons : am_okM M_X_cons = true := am_okMf_ok (hs := [0, 0, 0, 0, 0, 0, 0, 0, 0, 0, 361, 0, 0, 0, 0, 0, 0, 368, 0, 0, 361, 0, 368, 0, 0, 0, 368, 0, 0, 0, 0, 0, 0]) (by decide +kernel)
set_option maxRecDepth 100000 in
theorem ok_X_side : am_okM M_X_side = true := am_okMf_ok (hs := [0, 0, 0, 0, 0, 0, 0, 0, 0, 0, 0, 0, 361, 0, 368, 0, 0, 0, 0, 0, 0, 0, 368, 0, 0, 0, 0, 361, 0, 368, 0, 0, 0, 0, 0, 361, 0, 368, 0, 0, 0, 0, 0, 0]) (by decide +kernel)
set_option maxRecDepth 100000 in
theorem ok_X_set : am_okM M_X_set = true := am_okMf_ok (hs := [0, 0, 0, 0, 0, 0, 0, 0, 693, 0, 0, 0, 361, 0, 0, 0, 0, 0, 0, 368, 0, 0, 361, 0, 0, 0, 0, 0]) (by decide +kernel)
set_option maxRecDepth 100000 in
theorem ok_X_number : am_okM M_X_number = true := am_okMf_ok (hs := [0, 0, 0, 0, 361, 0, 368, 0, 0, 0, 0, 700, 0, 0, 361, 0, 368, 0, 0, 0, 0]) (by decide +kernel)
set_option maxRecDepth 100000 in
theorem ok_X_about : am_okM M_X_about = true := am_okMf_ok (hs := [0, 0, 0, 0, 0, 0, 0, 0, 361, 0, 368, 0, 0, 0, 0, 0, 361, 0, 368, 0, 0, 0, 0, 0, 361, 0, 368, 0, 0, 0, 0, 0, 361, 0, 368, 0, 0, 0, 0, 0, 0, 361, 0, 368, 0, 0, 0, 0, 0, 0, 0]) (by decide +kernel)
set_option maxRecDepth 100000 in
theorem ok_X_same : am_okM M_X_same = true := am_okMf_ok (hs := [0, 0, 0, 0, 0, 0, 0, 368, 0, 0, 0, 368, 0, 0, 0, 0, 0, 0, 0]) (by decide +kernel)
set_option maxRecDepth 100000 in
theorem ok_X_below : am_okM M_X_below = true := am_okMf_ok (hs := [0, 0, 0, 0, 0, 0, 0, 0, 0, 364, 0, 366, 0, 368, 0, 0, 0, 0, 364, 0, 367, 0, 368, 0, 0, 0, 0, 366, 0, 367, 0, 0]) (by decide +kernel)
set_option maxRecDepth 100000 in
theorem ok_X_isPlace : am_okM M_X_isPlace = true := am_okMf_ok (hs := [0, 0, 0, 0, 0, 0, 0, 0, 0]) (by decide +kernel)
set_option maxRecDepth 100000 in
theorem ok_Rd_init : am_okM M_Rd_init = true := am_okMf_ok (hs := [0, 0, 0, 0, 296, 0, 0, 297, 0, 0, 0, 0, 0, 298, 0, 0, 0, 299, 0, 0, 0, 300, 0, 0, 0, 301, 0, 0, 304, 0, 0, 305, 0, 0, 306, 0]) (by decide +kernel)
set_option maxRecDepth 100000 in
theorem ok_Rd_mostNewObjects : am_okM M_Rd_mostNewObjects = true := am_okMf_ok (hs := [0, 0, 296, 0, 0, 0, 0, 0]) (by decide +kernel)
set_option maxRecDepth 100000 in
theorem ok_Rd_result : am_okM M_Rd_result = true := am_okMf_ok (hs := [0, 304, 0]) (by decide +kernel)
set_option maxRecDepth 100000 in
theorem ok_Rd_latestFault : am_okM M_Rd_latestFault = true := am_okMf_ok (hs := [0, 305, 0]) (by decide +kernel)
set_option maxRecDepth 100000 in
theorem ok_Rd_latestFaultPlace : am_okM M_Rd_latestFaultPlace = true := am_okMf_ok (hs := [0, 306, 0]) (by decide +kernel)
set_option maxRecDepth 100000 in
theorem ok_Rd_readText : am_okM M_Rd_readText = true := am_okMf_ok (hs := [0, 298, 0, 0, 0, 302, 0, 0, 303, 0, 299, 0, 0, 0, 0, 0, 305, 0, 0, 0, 0, 0, 0, 298, 0, 0, 0, 0, 298, 0, 0, 0, 305, 0, 305, 0, 0, 298, 0, 0, 0, 0, 0, 0, 0, 0, 0, 305, 0, 0, 0, 0, 298, 0, 306, 0, 305, 0]) (by decide +kernel)
set_option maxRecDepth 100000 in
theorem ok_Rd_faultOf : am_okM M_Rd_faultOf = true := am_okMf_ok (hs := [0, 0, 0, 0, 0, 0, 0, 0, 0, 0, 0, 0, 298, 0, 512, 0, 0, 0, 0, 0, 0, 0, 0, 0, 0, 0, 0, 0, 0, 0, 0, 0, 302, 0, 0, 0, 0, 0, 0, 0, 0, 0, 0, 0, 0, 0]) (by decide +kernel)
set_option maxRecDepth 100000 in
theorem ok_Rd_canStand : am_okM M_Rd_canStand = true := am_okMf_ok (hs := [0, 0, 0, 0, 0, 0, 0, 0, 0, 0, 0, 0, 0, 0, 0, 0, 0, 0, 0, 0, 0, 0, 0, 0, 0, 0, 0, 0, 0, 0, 0, 0, 0, 0, 0, 0, 0, 0, 0, 0, 0, 0]) (by decide +kernel)
set_option maxRecDepth 100000 in
theorem ok_Rd_takeWord : am_okM M_Rd_takeWord = true := am_okMf_ok (hs := [0, 298, 0, 0, 0, 0, 0, 0, 0, 0, 0, 0, 0, 0, 0, 0, 0, 0, 0, 0, 0, 0, 0, 297, 0, 298, 0, 0, 0, 0, 0, 0, 297, 0, 298, 0, 0, 0, 0]) (by decide +kernel)
set_option maxRecDepth 100000 in
theorem ok_Rd_open : am_okM M_Rd_open = true := am_okMf_ok (hs := [0, 302, 0, 0, 0, 0, 302, 0, 0, 302, 0, 299, 0, 302, 0, 0, 0, 300, 0, 302, 0, 303, 0, 0]) (by decide +kernel)
set_option maxRecDepth 100000 in
theorem ok_Rd_closeList : am_okM M_Rd_closeList = true := am_okMf_ok (hs := [0, 0, 0, 0, 0, 0, 0, 303, 0, 0, 0, 303, 0, 0, 303, 0, 301, 0, 303, 0, 0, 0, 0, 0, 0, 303, 0, 0, 0, 303, 0, 0, 297, 0, 301, 0, 303, 0, 0, 0, 0, 0, 0, 0, 0, 303, 0, 0, 303, 0, 0, 0, 0, 302, 0, 0, 0, 302, 0, 0]) (by decide +kernel)
set_option maxRecDepth 100000 in
theorem ok_Rd_placeObject : am_okM M_Rd_placeObject = true := am_okMf_ok (hs := [0, 0, 0, 0, 0, 0, 0, 302, 0, 0, 297, 0, 0, 297, 0, 0, 0, 0, 0, 0, 0, 302, 0, 0, 302, 0, 0, 302, 0, 0, 0, 304, 0, 0, 0, 0, 0, 0, 0, 0, 0, 0, 0, 0, 0, 0, 303, 0, 301, 0, 0, 0, 301, 0, 303, 0, 0, 0, 0, 303, 0, 0, 303, 0]) (by decide +kernel)
set_option maxRecDepth 100000 in
theorem ok_Rd_stage : am_okM M_Rd_stage = true := am_okMf_ok (hs := [0, 0, 0, 0, 299, 0, 302, 0, 0, 0, 0]) (by decide +kernel)
set_option maxRecDepth 100000 in
theorem ok_Rd_setStage : am_okM M_Rd_setStage = true := am_okMf_ok (hs := [0, 0, 0, 0, 299, 0, 302, 0, 0, 0]) (by decide +kernel)
set_option maxRecDepth 100000 in
theorem ok_Rd_base : am_okM M_Rd_base = true := am_okMf_ok (hs := [0, 0, 0, 0, 300, 0, 302, 0, 0, 0, 0]) (by decide +kernel)
set_option maxRecDepth 100000 in
theorem ok_Rd_isLevel : am_okM M_Rd_isLevel = true := am_okMf_ok (hs := [0, 302, 0, 0, 302, 0, 0, 0, 0, 0, 0]) (by decide +kernel)
set_option maxRecDepth 100000 in
theorem ok_Te_init : am_okM M_Te_init = true := am_okMf_ok (hs := [0, 0, 0, 0, 336, 0, 0, 0, 337, 0]) (by decide +kernel)
set_option maxRecDepth 100000 in
theorem ok_Te_tellOn : am_okM M_Te_tellOn = true := am_okMf_ok (hs := [0, 0, 0, 0, 338, 0, 0, 0, 0, 0, 0, 0, 0, 0, 0, 0, 0, 0, 0, 0, 0, 0, 0, 0, 0, 0]) (by decide +kernel)
set_option maxRecDepth 100000 in
theorem ok_Te_tellFront : am_okM M_Te_tellFront = true := am_okMf_ok (hs := [0, 336, 0, 0, 0, 0, 0, 0, 0, 0, 0, 0, 0, 0, 336, 0, 0, 0, 0, 338, 0, 337, 0, 0, 0, 0, 0, 0, 337, 0, 338, 0, 336, 0, 0, 0, 0, 0, 338, 0, 0, 338, 0, 336, 0, 0, 0, 0, 0, 0, 0, 0, 0, 0, 0]) (by decide +kernel)
set_option maxRecDepth 100000 in
theorem ok_Te_goOnInLists : am_okM M_Te_goOnInLists = true := am_okMf_ok (hs := [0, 338, 0, 0, 337, 0, 338, 0, 0, 0, 0, 0, 336, 0, 0, 0, 0, 0, 0, 0, 337, 0, 338, 0, 0, 0, 336, 0, 0, 0, 0, 336, 0, 0, 0, 0, 0, 0, 0, 0, 0, 0, 0, 0, 0, 0, 0, 0, 0, 0, 0, 0, 0, 0, 0, 338, 0, 0, 338, 0, 0, 0]) (by decide +kernel)
set_option maxRecDepth 100000 in
theorem ok_Te_tellAtom : am_okM M_Te_tellAtom = true := am_okMf_ok (hs := [0, 336, 0, 0, 0, 0, 0, 336, 0, 0, 0, 0, 0, 0, 0, 336, 0, 0, 0, 0, 0]) (by decide +kernel)
set_option maxRecDepth 100000 in
theorem ok_Te_tellDigits : am_okM M_Te_tellDigits = true := am_okMf_ok (hs := [0, 0, 0, 0, 0, 0, 0, 0, 0, 0, 0, 0, 0, 0, 0, 0, 0, 0, 0, 0, 0, 0, 0, 0, 0, 0, 0, 0, 0, 0, 0, 0, 0]) (by decide +kernel)
set_option maxRecDepth 100000 in
theorem ok_Te_highestUnit : am_okM M_Te_highestUnit = true := am_okMf_ok (hs := [0, 0, 0, 0, 0, 0, 0, 0, 0, 0, 0, 0, 0, 0, 0, 0, 0, 0, 0, 0, 0, 0, 0, 0, 0]) (by decide +kernel)
set_option maxRecDepth 100000 in
theorem ok_Wd_init : am_okM M_Wd_init = true := am_okMf_ok (hs := [0, 0, 0, 0, 280, 0]) (by decide +kernel)
set_option maxRecDepth 100000 in
theorem ok_Wd_goToFront : am_okM M_Wd_goToFront = true := am_okMf_ok (hs := [0, 0, 281, 0]) (by decide +kernel)
set_option maxRecDepth 100000 in
theorem ok_Wd_goOn : am_okM M_Wd_goOn = true := am_okMf_ok (hs := [0, 0, 0, 0, 281, 282, 0, 0, 0, 282, 0, 283, 0, 283, 0, 0, 0, 0, 0, 0, 283, 0, 0, 0, 281, 0, 0, 281, 0]) (by decide +kernel)
set_option maxRecDepth 100000 in
theorem ok_Wd_start : am_okM M_Wd_start = true := am_okMf_ok (hs := [0, 282, 0]) (by decide +kernel)
set_option maxRecDepth 100000 in
theorem ok_Wd_kind : am_okM M_Wd_kind = true := am_okMf_ok (hs := [0, 283, 0]) (by decide +kernel)
set_option maxRecDepth 100000 in
theorem ok_Wd_value : am_okM M_Wd_value = true := am_okMf_ok (hs := [0, 284, 0]) (by decide +kernel)
set_option maxRecDepth 100000 in
theorem ok_Wd_skipBlanks : am_okM M_Wd_skipBlanks = true := am_okMf_ok (hs := [0, 0, 0, 281, 0, 280, 0, 0, 0, 280, 0, 281, 0, 0, 0, 0, 0, 0, 0, 0, 0, 0, 0, 0, 0, 0, 0, 0, 0, 0, 0, 0, 0, 0, 281, 0, 0, 281, 0, 0]) (by decide +kernel)
set_option maxRecDepth 100000 in
theorem ok_Wd_kindAt : am_okM M_Wd_kindAt = true := am_okMf_ok (hs := [0, 0, 280, 0, 0, 0, 0, 0, 280, 0, 0, 0, 0, 0, 0, 0, 0, 0, 0, 0, 0, 0, 0, 0, 0, 0, 0, 0, 0]) (by decide +kernel)
set_option maxRecDepth 100000 in
theorem ok_Wd_takeAtom : am_okM M_Wd_takeAtom = true := am_okMf_ok (hs := [0, 0, 0, 281, 0, 280, 0, 0, 0, 280, 0, 281, 0, 0, 0, 0, 0, 0, 280, 0, 281, 0, 0, 0, 0, 0, 0, 0, 0, 0, 281, 0, 0, 281, 0, 0, 0, 0, 0, 0, 0, 283, 0, 0, 0, 0, 0, 282, 0, 281, 0, 0, 0, 0, 282, 0, 281, 0, 284, 0]) (by decide +kernel)
set_option maxRecDepth 100000 in
theorem ok_Wd_naturalOf : am_okM M_Wd_naturalOf = true := am_okMf_ok (hs := [0, 0, 0, 0, 0, 0, 0, 0, 280, 0, 0, 0, 0, 0, 0, 492, 0, 0, 0, 493, 0, 0, 0, 494, 0, 493, 0, 0, 0, 0, 0, 0, 0, 0, 0, 0]) (by decide +kernel)
set_option maxRecDepth 100000 in
theorem ok_Wd_symbolOf : am_okM M_Wd_symbolOf = true := am_okMf_ok (hs := [0, 0, 0, 0, 0, 494, 0, 0, 0, 0, 0, 0, 0, 0, 0, 0, 280, 0, 0, 0, 0, 0, 0, 0, 0]) (by decide +kernel)
set_option maxRecDepth 100000 in
theorem cw_X_9 : am_cwI "ObjectTexts" 9 y_St_init M_St_init 0 = true := cwI_f [57, 83, 84, 85] (by decide +kernel)
set_option maxRecDepth 100000 in
theorem cw_X_18 : am_cwI "ObjectTexts" 18 y_Tx_init M_Tx_init 0 = true := cwI_f [66, 253, 254, 255] (by decide +kernel)
set_option maxRecDepth 100000 in
theorem cw_X_25 : am_cwI "ObjectTexts" 25 y_Rd_init M_Rd_init 2 = true := cwI_f [67, 270, 271, 272] (by decide +kernel)
set_option maxRecDepth 100000 in
theorem cw_X_34 : am_cwI "ObjectTexts" 34 y_Te_init M_Te_init 1 = true := cwI_f [69, 332, 333, 334] (by decide +kernel)
set_option maxRecDepth 100000 in
theorem cw_X_43 : am_cwI "ObjectTexts" 43 y_Sh_init M_Sh_init 1 = true := cwI_f [70, 348, 349, 350] (by decide +kernel)
set_option maxRecDepth 100000 in
theorem cw_X_60 : am_cwS "ObjectTexts" 60 y_Ja_fill M_Ja_fill 2 = true := cwS_f [360, 88, 58, 89] (by decide +kernel)
set_option maxRecDepth 100000 in
theorem cw_X_66 : am_cwV "ObjectTexts" 66 y_Tx_await M_Tx_await 5 = true := cwV_f [390, 391, 392, 66, 393] (by decide +kernel)
set_option maxRecDepth 100000 in
theorem cw_X_70 : am_cwV "ObjectTexts" 70 y_Tx_append M_Tx_append 1 = true := cwV_f [398, 399, 400, 66, 401] (by decide +kernel)
set_option maxRecDepth 100000 in
theorem cw_X_74 : am_cwS "ObjectTexts" 74 y_X_isPlace M_X_isPlace 1 = true := cwS_f [411, 412, 56, 413] (by decide +kernel)
set_option maxRecDepth 100000 in
theorem cw_X_78 : am_cwV "ObjectTexts" 78 y_Rd_mostNewObjects M_Rd_mostNewObjects 0 = true := cwV_f [414, 415, 416, 67, 417] (by decide +kernel)
set_option maxRecDepth 100000 in
theorem cw_X_82 : am_cwV "ObjectTexts" 82 y_St_makeRoom M_St_makeRoom 1 = true := cwV_f [423, 424, 425, 57, 426] (by decide +kernel)
set_option maxRecDepth 100000 in
theorem cw_X_85 : am_cwV "ObjectTexts" 85 y_Rd_readText M_Rd_readText 0 = true := cwV_f [453, 454, 455, 67, 456] (by decide +kernel)
set_option maxRecDepth 100000 in
theorem cw_X_88 : am_cwV "ObjectTexts" 88 y_Tx_clear M_Tx_clear 0 = true := cwV_f [572, 573, 574, 66, 575] (by decide +kernel)
set_option maxRecDepth 100000 in
theorem cw_X_91 : am_cwV "ObjectTexts" 91 y_Rd_result M_Rd_result 0 = true := cwV_f [576, 577, 578, 67, 579] (by decide +kernel)
set_option maxRecDepth 100000 in
theorem cw_X_94 : am_cwV "ObjectTexts" 94 y_Rd_latestFault M_Rd_latestFault 0 = true := cwV_f [584, 585, 586, 67, 587] (by decide +kernel)
set_option maxRecDepth 100000 in
theorem cw_X_97 : am_cwV "ObjectTexts" 97 y_Rd_latestFaultPlace M_Rd_latestFaultPlace 0 = true := cwV_f [588, 589, 590, 67, 591] (by decide +kernel)
set_option maxRecDepth 100000 in
theorem cw_X_100 : am_cwV "ObjectTexts" 100 y_Te_tellOn M_Te_tellOn 2 = true := cwV_f [596, 597, 598, 69, 599] (by decide +kernel)
set_option maxRecDepth 100000 in
theorem cw_X_104 : am_cwV "ObjectTexts" 104 y_Sh_length M_Sh_length 0 = true := cwV_f [665, 666, 667, 70, 668] (by decide +kernel)
set_option maxRecDepth 100000 in
theorem cw_X_107 : am_cwV "ObjectTexts" 107 y_Sh_signAt M_Sh_signAt 1 = true := cwV_f [673, 674, 675, 70, 676] (by decide +kernel)
set_option maxRecDepth 100000 in
theorem cw_X_110 : am_cwV "ObjectTexts" 110 y_St_pairOf M_St_pairOf 2 = true := cwV_f [681, 546, 547, 57, 548] (by decide +kernel)
set_option maxRecDepth 100000 in
theorem cw_X_114 : am_cwV "ObjectTexts" 114 y_St_isPair M_St_isPair 1 = true := cwV_f [686, 621, 622, 57, 623] (by decide +kernel)
set_option maxRecDepth 100000 in
theorem cw_X_117 : am_cwV "ObjectTexts" 117 y_St_firstOf M_St_firstOf 1 = true := cwV_f [687, 617, 618, 57, 619] (by decide +kernel)
set_option maxRecDepth 100000 in
theorem cw_X_120 : am_cwV "ObjectTexts" 120 y_St_secondOf M_St_secondOf 1 = true := cwV_f [688, 631, 632, 57, 633] (by decide +kernel)
set_option maxRecDepth 100000 in
theorem cw_X_125 : am_cwV "ObjectTexts" 125 y_St_naturalOf M_St_naturalOf 1 = true := cwV_f [694, 564, 565, 57, 566] (by decide +kernel)
set_option maxRecDepth 100000 in
theorem cw_X_129 : am_cwV "ObjectTexts" 129 y_St_kindOf M_St_kindOf 1 = true := cwV_f [699, 647, 648, 57, 649] (by decide +kernel)
set_option maxRecDepth 100000 in
theorem cw_X_134 : am_cwV "ObjectTexts" 134 y_St_valueOf M_St_valueOf 1 = true := cwV_f [701, 627, 628, 57, 629] (by decide +kernel)
set_option maxRecDepth 100000 in
theorem cw_X_138 : am_cwV "ObjectTexts" 138 y_St_depthOf M_St_depthOf 1 = true := cwV_f [706, 550, 551, 57, 552] (by decide +kernel)
set_option maxRecDepth 100000 in
theorem cw_X_141 : am_cwV "ObjectTexts" 141 y_St_lengthOf M_St_lengthOf 1 = true := cwV_f [707, 555, 556, 57, 557] (by decide +kernel)
set_option maxRecDepth 100000 in
theorem cw_X_144 : am_cwV "ObjectTexts" 144 y_St_countParts M_St_countParts 2 = true := cwV_f [708, 709, 710, 57, 711] (by decide +kernel)
set_option maxRecDepth 100000 in
theorem cw_X_148 : am_cwV "ObjectTexts" 148 y_Sh_isLowerThan M_Sh_isLowerThan 1 = true := cwV_f [724, 725, 726, 70, 727] (by decide +kernel)
set_option maxRecDepth 100000 in
theorem cw_Rd_21 : am_cwI "ObjectTexts$Reader" 21 y_Wd_init M_Wd_init 1 = true := cwI_f [68, 276, 277, 278] (by decide +kernel)
set_option maxRecDepth 100000 in
theorem cw_Rd_50 : am_cwV "ObjectTexts$Reader" 50 y_Tx_length M_Tx_length 0 = true := cwV_f [418, 419, 420, 66, 421] (by decide +kernel)
set_option maxRecDepth 100000 in
theorem cw_Rd_62 : am_cwV "ObjectTexts$Reader" 62 y_Wd_goToFront M_Wd_goToFront 0 = true := cwV_f [457, 458, 459, 68, 460] (by decide +kernel)
set_option maxRecDepth 100000 in
theorem cw_Rd_71 : am_cwV "ObjectTexts$Reader" 71 y_Wd_goOn M_Wd_goOn 0 = true := cwV_f [461, 462, 463, 68, 464] (by decide +kernel)
set_option maxRecDepth 100000 in
theorem cw_Rd_74 : am_cwV "ObjectTexts$Reader" 74 y_Wd_kind M_Wd_kind 0 = true := cwV_f [500, 501, 502, 68, 503] (by decide +kernel)
set_option maxRecDepth 100000 in
theorem cw_Rd_77 : am_cwV "ObjectTexts$Reader" 77 y_Rd_faultOf M_Rd_faultOf 2 = true := cwV_f [504, 506, 10, 67, 507] (by decide +kernel)
set_option maxRecDepth 100000 in
theorem cw_Rd_80 : am_cwV "ObjectTexts$Reader" 80 y_Rd_takeWord M_Rd_takeWord 0 = true := cwV_f [525, 527, 14, 67, 528] (by decide +kernel)
set_option maxRecDepth 100000 in
theorem cw_Rd_83 : am_cwV "ObjectTexts$Reader" 83 y_Wd_start M_Wd_start 0 = true := cwV_f [568, 569, 570, 68, 571] (by decide +kernel)
set_option maxRecDepth 100000 in
theorem cw_Rd_86 : am_cwV "ObjectTexts$Reader" 86 y_Wd_value M_Wd_value 0 = true := cwV_f [508, 509, 510, 68, 511] (by decide +kernel)
set_option maxRecDepth 100000 in
theorem cw_Rd_92 : am_cwV "ObjectTexts$Reader" 92 y_Rd_canStand M_Rd_canStand 1 = true := cwV_f [513, 515, 11, 67, 516] (by decide +kernel)
set_option maxRecDepth 100000 in
theorem cw_Rd_96 : am_cwV "ObjectTexts$Reader" 96 y_Rd_stage M_Rd_stage 0 = true := cwV_f [517, 519, 12, 67, 520] (by decide +kernel)
set_option maxRecDepth 100000 in
theorem cw_Rd_99 : am_cwV "ObjectTexts$Reader" 99 y_Rd_open M_Rd_open 1 = true := cwV_f [529, 531, 15, 67, 532] (by decide +kernel)
set_option maxRecDepth 100000 in
theorem cw_Rd_103 : am_cwV "ObjectTexts$Reader" 103 y_Rd_setStage M_Rd_setStage 1 = true := cwV_f [533, 535, 16, 67, 536] (by decide +kernel)
set_option maxRecDepth 100000 in
theorem cw_Rd_106 : am_cwV "ObjectTexts$Reader" 106 y_Rd_closeList M_Rd_closeList 0 = true := cwV_f [537, 539, 17, 67, 540] (by decide +kernel)
set_option maxRecDepth 100000 in
theorem cw_Rd_109 : am_cwV "ObjectTexts$Reader" 109 y_Rd_placeObject M_Rd_placeObject 1 = true := cwV_f [559, 561, 19, 67, 562] (by decide +kernel)
set_option maxRecDepth 100000 in
theorem cw_Rd_112 : am_cwV "ObjectTexts$Reader" 112 y_St_naturalOf M_St_naturalOf 1 = true := cwV_f [563, 564, 565, 57, 566] (by decide +kernel)
set_option maxRecDepth 100000 in
theorem cw_Rd_116 : am_cwV "ObjectTexts$Reader" 116 y_St_symbolOf M_St_symbolOf 1 = true := cwV_f [567, 206, 207, 57, 208] (by decide +kernel)
set_option maxRecDepth 100000 in
theorem cw_Rd_119 : am_cwV "ObjectTexts$Reader" 119 y_Rd_base M_Rd_base 0 = true := cwV_f [541, 543, 18, 67, 544] (by decide +kernel)
set_option maxRecDepth 100000 in
theorem cw_Rd_122 : am_cwV "ObjectTexts$Reader" 122 y_St_pairOf M_St_pairOf 2 = true := cwV_f [545, 546, 547, 57, 548] (by decide +kernel)
set_option maxRecDepth 100000 in
theorem cw_Rd_128 : am_cwV "ObjectTexts$Reader" 128 y_Rd_isLevel M_Rd_isLevel 0 = true := cwV_f [521, 523, 13, 67, 524] (by decide +kernel)
set_option maxRecDepth 100000 in
theorem cw_Te_19 : am_cwV "ObjectTexts$Teller" 19 y_Sh_clear M_Sh_clear 0 = true := cwV_f [600, 601, 602, 70, 603] (by decide +kernel)
set_option maxRecDepth 100000 in
theorem cw_Te_28 : am_cwV "ObjectTexts$Teller" 28 y_Sh_isFull M_Sh_isFull 0 = true := cwV_f [604, 605, 606, 70, 607] (by decide +kernel)
set_option maxRecDepth 100000 in
theorem cw_Te_32 : am_cwV "ObjectTexts$Teller" 32 y_Te_tellFront M_Te_tellFront 2 = true := cwV_f [608, 610, 20, 69, 611] (by decide +kernel)
set_option maxRecDepth 100000 in
theorem cw_Te_36 : am_cwV "ObjectTexts$Teller" 36 y_St_quotedIn M_St_quotedIn 1 = true := cwV_f [612, 613, 614, 57, 615] (by decide +kernel)
set_option maxRecDepth 100000 in
theorem cw_Te_42 : am_cwV "ObjectTexts$Teller" 42 y_Sh_add M_Sh_add 1 = true := cwV_f [635, 636, 637, 70, 638] (by decide +kernel)
set_option maxRecDepth 100000 in
theorem cw_Te_46 : am_cwV "ObjectTexts$Teller" 46 y_St_isPair M_St_isPair 1 = true := cwV_f [639, 621, 622, 57, 623] (by decide +kernel)
set_option maxRecDepth 100000 in
theorem cw_Te_50 : am_cwV "ObjectTexts$Teller" 50 y_St_secondOf M_St_secondOf 1 = true := cwV_f [640, 631, 632, 57, 633] (by decide +kernel)
set_option maxRecDepth 100000 in
theorem cw_Te_53 : am_cwV "ObjectTexts$Teller" 53 y_St_firstOf M_St_firstOf 1 = true := cwV_f [641, 617, 618, 57, 619] (by decide +kernel)
set_option maxRecDepth 100000 in
theorem cw_Te_56 : am_cwV "ObjectTexts$Teller" 56 y_Te_tellAtom M_Te_tellAtom 2 = true := cwV_f [642, 644, 21, 69, 645] (by decide +kernel)
set_option maxRecDepth 100000 in
theorem cw_Te_60 : am_cwV "ObjectTexts$Teller" 60 y_Te_goOnInLists M_Te_goOnInLists 1 = true := cwV_f [661, 663, 22, 69, 664] (by decide +kernel)
set_option maxRecDepth 100000 in
theorem cw_Te_64 : am_cwV "ObjectTexts$Teller" 64 y_St_kindOf M_St_kindOf 1 = true := cwV_f [646, 647, 648, 57, 649] (by decide +kernel)
set_option maxRecDepth 100000 in
theorem cw_Te_67 : am_cwV "ObjectTexts$Teller" 67 y_St_valueOf M_St_valueOf 1 = true := cwV_f [650, 627, 628, 57, 629] (by decide +kernel)
set_option maxRecDepth 100000 in
theorem cw_Te_75 : am_cwS "ObjectTexts$Teller" 75 y_Te_tellDigits M_Te_tellDigits 3 = true := cwS_f [652, 653, 69, 654] (by decide +kernel)
set_option maxRecDepth 100000 in
theorem cw_Te_81 : am_cwV "ObjectTexts$Teller" 81 y_Js_length M_Js_length 0 = true := cwV_f [655, 95, 96, 60, 97] (by decide +kernel)
set_option maxRecDepth 100000 in
theorem cw_Te_87 : am_cwS "ObjectTexts$Teller" 87 y_Te_highestUnit M_Te_highestUnit 2 = true := cwS_f [656, 657, 69, 658] (by decide +kernel)
set_option maxRecDepth 100000 in
theorem cw_Te_91 : am_cwV "ObjectTexts$Teller" 91 y_Js_charAt M_Js_charAt 1 = true := cwV_f [659, 105, 106, 60, 107] (by decide +kernel)
set_option maxRecDepth 100000 in
theorem cw_Wd_19 : am_cwV "ObjectTexts$Words" 19 y_Wd_skipBlanks M_Wd_skipBlanks 0 = true := cwV_f [465, 467, 5, 68, 468] (by decide +kernel)
set_option maxRecDepth 100000 in
theorem cw_Wd_25 : am_cwV "ObjectTexts$Words" 25 y_Wd_kindAt M_Wd_kindAt 1 = true := cwV_f [474, 476, 6, 68, 477] (by decide +kernel)
set_option maxRecDepth 100000 in
theorem cw_Wd_32 : am_cwV "ObjectTexts$Words" 32 y_Wd_takeAtom M_Wd_takeAtom 0 = true := cwV_f [481, 483, 7, 68, 484] (by decide +kernel)
set_option maxRecDepth 100000 in
theorem cw_Wd_39 : am_cwV "ObjectTexts$Words" 39 y_Tx_length M_Tx_length 0 = true := cwV_f [469, 419, 420, 66, 421] (by decide +kernel)
set_option maxRecDepth 100000 in
theorem cw_Wd_45 : am_cwV "ObjectTexts$Words" 45 y_Tx_signAt M_Tx_signAt 1 = true := cwV_f [470, 471, 472, 66, 473] (by decide +kernel)
set_option maxRecDepth 100000 in
theorem cw_Wd_49 : am_cwS "ObjectTexts$Words" 49 y_Sg_isOfAtom M_Sg_isOfAtom 1 = true := cwS_f [478, 479, 59, 480] (by decide +kernel)
set_option maxRecDepth 100000 in
theorem cw_Wd_55 : am_cwS "ObjectTexts$Words" 55 y_Sg_isDigit M_Sg_isDigit 1 = true := cwS_f [485, 486, 59, 487] (by decide +kernel)
set_option maxRecDepth 100000 in
theorem cw_Wd_58 : am_cwV "ObjectTexts$Words" 58 y_Wd_naturalOf M_Wd_naturalOf 2 = true := cwV_f [488, 490, 8, 68, 491] (by decide +kernel)
set_option maxRecDepth 100000 in
theorem cw_Wd_62 : am_cwV "ObjectTexts$Words" 62 y_Wd_symbolOf M_Wd_symbolOf 2 = true := cwV_f [495, 497, 9, 68, 498] (by decide +kernel)
set_option maxRecDepth 100000 in
theorem cw_Wd_73 : am_cwS "ObjectTexts$Words" 73 y_Sg_withSign M_Sg_withSign 2 = true := cwS_f [499, 143, 59, 144] (by decide +kernel)
set_option maxRecDepth 100000 in
theorem cw_Js_335 : am_cwV "java/lang/String" 335 y_Js_coder M_Js_coder 0 = true := cwV_f [98, 99, 100, 60, 101] (by decide +kernel)
set_option maxRecDepth 100000 in
theorem cw_Js_492 : am_cwV "java/lang/String" 492 y_Js_isLatin1 M_Js_isLatin1 0 = true := cwV_f [108, 109, 110, 60, 111] (by decide +kernel)
set_option maxRecDepth 100000 in
theorem cw_Js_495 : am_cwS "java/lang/String" 495 y_Jl_charAt M_Jl_charAt 2 = true := cwS_f [112, 113, 61, 114] (by decide +kernel)
set_option maxRecDepth 100000 in
theorem cw_Js_505 : am_cwV "java/lang/String" 505 y_Js_length M_Js_length 0 = true := cwV_f [154, 95, 96, 60, 97] (by decide +kernel)
set_option maxRecDepth 100000 in
theorem cw_Js_633 : am_cwV "java/lang/String" 633 y_Js_indexOf_2 M_Js_indexOf_2 2 = true := cwV_f [150, 151, 152, 60, 153] (by decide +kernel)
set_option maxRecDepth 100000 in
theorem cw_Js_637 : am_cwS "java/lang/String" 637 y_Jl_indexOf M_Jl_indexOf 4 = true := cwS_f [155, 156, 61, 157] (by decide +kernel)
set_option maxRecDepth 100000 in
theorem cw_Js_1059 : am_cwS "java/lang/String" 1059 y_Jp_checkIndex M_Jp_checkIndex 3 = true := cwS_f [120, 121, 62, 122] (by decide +kernel)
set_option maxRecDepth 100000 in
theorem cw_Js_1062 : am_cwS "java/lang/String" 1062 y_Jp_checkFromToIndex M_Jp_checkFromToIndex 4 = true := cwS_f [185, 186, 62, 187] (by decide +kernel)
set_option maxRecDepth 100000 in
theorem cw_Jl_9 : am_cwS "java/lang/StringLatin1" 9 y_Js_checkIndex M_Js_checkIndex 2 = true := cwS_f [115, 116, 60, 117] (by decide +kernel)
set_option maxRecDepth 100000 in
theorem cw_Jl_88 : am_cwS "java/lang/StringLatin1" 88 y_Jl_canEncode M_Jl_canEncode 1 = true := cwS_f [158, 159, 61, 160] (by decide +kernel)
set_option maxRecDepth 100000 in
theorem cw_Jl_95 : am_cwS "java/lang/StringLatin1" 95 y_Jl_indexOfChar M_Jl_indexOfChar 4 = true := cwS_f [167, 168, 61, 169] (by decide +kernel)
