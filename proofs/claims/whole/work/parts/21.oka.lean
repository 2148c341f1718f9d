/-! rows are right, calls have their words: by the kernel -/
set_option maxRecDepth 100000 in
theorem ok_Sh_init : am_okM M_Sh_init = true := am_okMf_ok (hs := [0, 0, 0, 0, 0, 0, 0, 353, 0]) (by decide +kernel)
set_option maxRecDepth 100000 in
theorem ok_Sh_clear : am_okM M_Sh_clear = true := am_okMf_ok (hs := [0, 0, 354, 0]) (by decide +kernel)
set_option maxRecDepth 100000 in
theorem ok_Sh_length : am_okM M_Sh_length = true := am_okMf_ok (hs := [0, 354, 0]) (by decide +kernel)
set_option maxRecDepth 100000 in
theorem ok_Sh_isFull : am_okM M_Sh_isFull = true := am_okMf_ok (hs := [0, 354, 0, 353, 0, 0, 0, 0, 0, 0]) (by decide +kernel)
set_option maxRecDepth 100000 in
theorem ok_Sh_add : am_okM M_Sh_add = true := am_okMf_ok (hs := [0, 354, 0, 353, 0, 0, 0, 353, 0, 354, 0, 0, 0, 0, 354, 0, 0, 354, 0]) (by decide +kernel)
set_option maxRecDepth 100000 in
theorem ok_Sh_signAt : am_okM M_Sh_signAt = true := am_okMf_ok (hs := [0, 0, 0, 0, 354, 0, 0, 353, 0, 0, 0, 0, 0]) (by decide +kernel)
set_option maxRecDepth 100000 in
theorem ok_Sh_isLowerThan : am_okM M_Sh_isLowerThan = true := am_okMf_ok (hs := [0, 0, 0, 0, 353, 0, 0, 0, 0, 0, 0, 0, 0, 0, 0, 0, 0, 0, 0, 0, 0, 0, 0, 0, 0, 0, 0, 0, 0]) (by decide +kernel)
set_option maxRecDepth 100000 in
theorem ok_Sg_isDigit : am_okM M_Sg_isDigit = true := am_okMf_ok (hs := [0, 0, 0, 0, 0, 0, 0, 0, 0, 0]) (by decide +kernel)
set_option maxRecDepth 100000 in
theorem ok_Sg_isOfAtom : am_okM M_Sg_isOfAtom = true := am_okMf_ok (hs := [0, 0, 0, 0, 0, 0, 0, 0]) (by decide +kernel)
set_option maxRecDepth 100000 in
theorem ok_Sg_withSign : am_okM M_Sg_withSign = true := am_okMf_ok (hs := [0, 0, 0, 0, 0, 0, 0, 0, 0, 0, 0]) (by decide +kernel)
set_option maxRecDepth 100000 in
theorem ok_Sg_codeOf : am_okM M_Sg_codeOf = true := am_okMf_ok (hs := [0, 0, 0, 0, 0, 0, 0, 0, 0, 0, 0, 0, 0, 0, 0, 0, 0, 0]) (by decide +kernel)
set_option maxRecDepth 100000 in
theorem ok_St_init : am_okM M_St_init = true := am_okMf_ok (hs := [0, 0, 0, 0, 0, 223, 0, 0, 0, 224, 0, 0, 0, 225, 0, 0, 0, 226, 0, 0, 0, 227, 0, 0, 0, 228, 0, 228, 0, 0, 0, 0, 0, 0, 0, 0, 0, 0, 0, 0, 0, 225, 0, 0, 0, 0]) (by decide +kernel)
set_option maxRecDepth 100000 in
theorem ok_St_makeRoom : am_okM M_St_makeRoom = true := am_okMf_ok (hs := [0, 0, 0, 0, 0, 229, 0, 0, 0, 0, 0, 0, 0, 0, 229, 0, 0, 0, 0, 0, 0, 0, 0, 0, 0, 0, 0, 0, 223, 0, 0, 0, 0, 0, 0, 0]) (by decide +kernel)
set_option maxRecDepth 100000 in
theorem ok_St_naturalOf : am_okM M_St_naturalOf = true := am_okMf_ok (hs := [0, 0, 0, 0, 0, 0, 0]) (by decide +kernel)
set_option maxRecDepth 100000 in
theorem ok_St_symbolOf : am_okM M_St_symbolOf = true := am_okMf_ok (hs := [0, 0, 0, 0, 0, 0, 0]) (by decide +kernel)
set_option maxRecDepth 100000 in
theorem ok_St_pairOf : am_okM M_St_pairOf = true := am_okMf_ok (hs := [0, 0, 0, 0, 0, 0, 0, 0, 0, 0, 0, 0, 0, 0, 0, 0, 0, 0, 0, 0, 0, 0, 0, 0, 0, 0, 0, 0, 0, 0, 0, 0, 0, 0, 0, 0]) (by decide +kernel)
set_option maxRecDepth 100000 in
theorem ok_St_kindOf : am_okM M_St_kindOf = true := am_okMf_ok (hs := [0, 0, 0, 0, 0, 223, 0, 0, 624, 0, 0, 0, 0, 0]) (by decide +kernel)
set_option maxRecDepth 100000 in
theorem ok_St_valueOf : am_okM M_St_valueOf = true := am_okMf_ok (hs := [0, 0, 0, 0, 0, 223, 0, 0, 0, 0, 0, 0, 0]) (by decide +kernel)
set_option maxRecDepth 100000 in
theorem ok_St_depthOf : am_okM M_St_depthOf = true := am_okMf_ok (hs := [0, 0, 0, 0, 0, 224, 0, 0, 0, 0, 0]) (by decide +kernel)
set_option maxRecDepth 100000 in
theorem ok_St_lengthOf : am_okM M_St_lengthOf = true := am_okMf_ok (hs := [0, 0, 0, 0, 0, 225, 0, 0, 0, 0, 0]) (by decide +kernel)
set_option maxRecDepth 100000 in
theorem ok_St_isPair : am_okM M_St_isPair = true := am_okMf_ok (hs := [0, 0, 0, 0, 0, 223, 0, 0, 624, 0, 625, 0, 0, 0, 0, 0, 0]) (by decide +kernel)
set_option maxRecDepth 100000 in
theorem ok_St_firstOf : am_okM M_St_firstOf = true := am_okMf_ok (hs := [0, 0, 0, 0, 0, 0, 0, 0, 0, 0, 0, 0, 0]) (by decide +kernel)
set_option maxRecDepth 100000 in
theorem ok_St_secondOf : am_okM M_St_secondOf = true := am_okMf_ok (hs := [0, 0, 0, 0, 0, 0, 0, 634, 0, 0, 0, 0, 0]) (by decide +kernel)
set_option maxRecDepth 100000 in
theorem ok_St_quotedIn : am_okM M_St_quotedIn = true := am_okMf_ok (hs := [0, 0, 0, 0, 0, 0, 0, 0, 0, 0, 0, 0, 0, 0, 0, 0, 0, 0]) (by decide +kernel)
set_option maxRecDepth 100000 in
theorem ok_St_countParts : am_okM M_St_countParts = true := am_okMf_ok (hs := [0, 0, 230, 0, 0, 230, 0, 0, 0, 0, 0, 0, 0, 0, 0, 0, 0, 0, 0, 0, 227, 0, 0, 0, 227, 0, 0, 0, 0, 0, 0, 0, 0, 0, 0, 0, 0, 0, 0, 0, 0, 0, 0, 0, 0, 0, 0, 0, 0, 0, 0, 0, 0, 0, 0, 0]) (by decide +kernel)
set_option maxRecDepth 100000 in
theorem ok_St_addPart : am_okM M_St_addPart = true := am_okMf_ok (hs := [0, 0, 0, 0, 0, 226, 0, 0, 0, 230, 0, 0, 0, 0, 0, 227, 0, 0, 0, 0, 0, 226, 0, 0, 230, 0, 0, 227, 0, 0, 0, 0, 0, 0, 0]) (by decide +kernel)
set_option maxRecDepth 100000 in
theorem ok_St_has : am_okM M_St_has = true := am_okMf_ok (hs := [0, 0, 0, 0, 229, 0, 0, 0, 0, 0]) (by decide +kernel)
set_option maxRecDepth 100000 in
theorem ok_St_numberOf : am_okM M_St_numberOf = true := am_okMf_ok (hs := [0, 0, 0, 0, 0, 0, 0, 0, 0, 0, 0, 0, 0, 0, 0, 0, 228, 0, 0, 0, 0, 0, 228, 0, 0, 0, 0, 0, 0, 0, 229, 0, 223, 0, 0, 0, 0, 0, 228, 0, 0, 229, 0, 0, 223, 0, 229, 0, 0, 0, 224, 0, 229, 0, 0, 0, 225, 0, 229, 0, 0, 0, 0, 229, 0, 0, 229, 0, 229, 0, 0, 0]) (by decide +kernel)
set_option maxRecDepth 100000 in
theorem ok_St_slotOf : am_okM M_St_slotOf = true := am_okMf_ok (hs := [0, 217, 0, 0, 0, 0, 0, 0, 0, 0, 0, 228, 0, 0, 0, 0, 0, 0, 228, 0, 0, 0, 0, 0, 0, 228, 0, 0, 0, 0, 0, 0, 0, 229, 0, 0, 223, 0, 0, 0, 0, 0, 0, 0, 0, 0, 0, 0]) (by decide +kernel)
set_option maxRecDepth 100000 in
theorem ok_St_growTo : am_okM M_St_growTo = true := am_okMf_ok (hs := [0, 0, 223, 0, 0, 0, 0, 0, 0, 0, 0, 223, 0, 0, 223, 0, 0, 224, 0, 0, 224, 0, 0, 225, 0, 0, 225, 0, 0, 226, 0, 0, 226, 0, 0, 0, 227, 0, 0, 0, 0, 0, 228, 0, 228, 0, 0, 0, 0, 0, 0, 229, 0, 0, 0, 223, 0, 0, 0, 0, 0, 0, 0, 0, 228, 0, 0, 0, 0, 0, 0]) (by decide +kernel)
set_option maxRecDepth 100000 in
theorem ok_Tx_init : am_okM M_Tx_init = true := am_okMf_ok (hs := [0, 0, 0, 0, 0, 257, 0, 0, 0, 258, 0]) (by decide +kernel)
set_option maxRecDepth 100000 in
theorem ok_Tx_await : am_okM M_Tx_await = true := am_okMf_ok (hs := [0, 258, 0, 0, 0, 0, 258, 0, 0, 0, 0, 258, 0, 0, 0, 0, 258, 0, 0, 0, 0, 258, 0, 0, 0, 0]) (by decide +kernel)
set_option maxRecDepth 100000 in
theorem ok_Tx_append : am_okM M_Tx_append = true := am_okMf_ok (hs := [0, 0, 0, 0, 0, 0, 0, 0, 259, 0, 0, 0, 0, 0, 0, 0, 0, 0, 0, 257, 0, 259, 0, 0, 0, 0, 0, 0, 0, 0, 0, 0, 259, 0, 0, 259, 0, 258, 0, 0, 0, 259, 0]) (by decide +kernel)
set_option maxRecDepth 100000 in
theorem ok_Tx_clear : am_okM M_Tx_clear = true := am_okMf_ok (hs := [0, 0, 259, 0]) (by decide +kernel)
set_option maxRecDepth 100000 in
theorem ok_Tx_length : am_okM M_Tx_length = true := am_okMf_ok (hs := [0, 259, 0]) (by decide +kernel)
set_option maxRecDepth 100000 in
theorem ok_Tx_signAt : am_okM M_Tx_signAt = true := am_okMf_ok (hs := [0, 0, 0, 0, 259, 0, 0, 257, 0, 0, 0, 0, 0]) (by decide +kernel)
set_option maxRecDepth 100000 in
theorem ok_Tx_waitingByte : am_okM M_Tx_waitingByte = true := am_okMf_ok (hs := [0, 0, 0, 0, 0, 0, 0, 0, 258, 0, 0, 0, 0, 0, 0, 0, 0, 0, 0, 0, 0, 0, 0, 0, 0]) (by decide +kernel)
set_option maxRecDepth 100000 in
theorem cw_Sh_25 : am_cwV "ObjectTexts$Sheet" 25 y_Sh_signAt M_Sh_signAt 1 = true := cwV_f [728, 674, 675, 70, 676] (by decide +kernel)
set_option maxRecDepth 100000 in
theorem cw_Sg_11 : am_cwV "ObjectTexts$Signs" 11 y_Js_indexOf_1 M_Js_indexOf_1 1 = true := cwV_f [146, 147, 148, 60, 149] (by decide +kernel)
set_option maxRecDepth 100000 in
theorem cw_Sg_17 : am_cwV "ObjectTexts$Signs" 17 y_Js_length M_Js_length 0 = true := cwV_f [94, 95, 96, 60, 97] (by decide +kernel)
set_option maxRecDepth 100000 in
theorem cw_Sg_21 : am_cwV "ObjectTexts$Signs" 21 y_Js_charAt M_Js_charAt 1 = true := cwV_f [104, 105, 106, 60, 107] (by decide +kernel)
set_option maxRecDepth 100000 in
theorem cw_Sg_25 : am_cwS "ObjectTexts$Signs" 25 y_Sg_withSign M_Sg_withSign 2 = true := cwS_f [142, 143, 59, 144] (by decide +kernel)
set_option maxRecDepth 100000 in
theorem cw_St_31 : am_cwS "ObjectTexts$Store" 31 y_Ja_fill M_Ja_fill 2 = true := cwS_f [87, 88, 58, 89] (by decide +kernel)
set_option maxRecDepth 100000 in
theorem cw_St_39 : am_cwS "ObjectTexts$Store" 39 y_Sg_codeOf M_Sg_codeOf 1 = true := cwS_f [91, 92, 59, 93] (by decide +kernel)
set_option maxRecDepth 100000 in
theorem cw_St_45 : am_cwV "ObjectTexts$Store" 45 y_St_symbolOf M_St_symbolOf 1 = true := cwV_f [205, 206, 207, 57, 208] (by decide +kernel)
set_option maxRecDepth 100000 in
theorem cw_St_55 : am_cwV "ObjectTexts$Store" 55 y_St_growTo M_St_growTo 1 = true := cwV_f [427, 429, 4, 57, 430] (by decide +kernel)
set_option maxRecDepth 100000 in
theorem cw_St_59 : am_cwV "ObjectTexts$Store" 59 y_St_numberOf M_St_numberOf 4 = true := cwV_f [209, 211, 0, 57, 212] (by decide +kernel)
set_option maxRecDepth 100000 in
theorem cw_St_63 : am_cwV "ObjectTexts$Store" 63 y_St_depthOf M_St_depthOf 1 = true := cwV_f [549, 550, 551, 57, 552] (by decide +kernel)
set_option maxRecDepth 100000 in
theorem cw_St_73 : am_cwV "ObjectTexts$Store" 73 y_St_lengthOf M_St_lengthOf 1 = true := cwV_f [554, 555, 556, 57, 557] (by decide +kernel)
set_option maxRecDepth 100000 in
theorem cw_St_76 : am_cwV "ObjectTexts$Store" 76 y_St_has M_St_has 1 = true := cwV_f [218, 220, 2, 57, 221] (by decide +kernel)
set_option maxRecDepth 100000 in
theorem cw_St_84 : am_cwV "ObjectTexts$Store" 84 y_St_isPair M_St_isPair 1 = true := cwV_f [620, 621, 622, 57, 623] (by decide +kernel)
set_option maxRecDepth 100000 in
theorem cw_St_87 : am_cwV "ObjectTexts$Store" 87 y_St_valueOf M_St_valueOf 1 = true := cwV_f [626, 627, 628, 57, 629] (by decide +kernel)
set_option maxRecDepth 100000 in
theorem cw_St_93 : am_cwV "ObjectTexts$Store" 93 y_St_firstOf M_St_firstOf 1 = true := cwV_f [616, 617, 618, 57, 619] (by decide +kernel)
set_option maxRecDepth 100000 in
theorem cw_St_96 : am_cwV "ObjectTexts$Store" 96 y_St_secondOf M_St_secondOf 1 = true := cwV_f [630, 631, 632, 57, 633] (by decide +kernel)
set_option maxRecDepth 100000 in
theorem cw_St_102 : am_cwV "ObjectTexts$Store" 102 y_St_addPart M_St_addPart 2 = true := cwV_f [712, 714, 23, 57, 715] (by decide +kernel)
set_option maxRecDepth 100000 in
theorem cw_St_105 : am_cwV "ObjectTexts$Store" 105 y_St_slotOf M_St_slotOf 1 = true := cwV_f [213, 215, 1, 57, 216] (by decide +kernel)
set_option maxRecDepth 100000 in
theorem cw_St_110 : am_cwS "ObjectTexts$Store" 110 y_Ja_copyOf_J M_Ja_copyOf_J 2 = true := cwS_f [431, 432, 58, 433] (by decide +kernel)
set_option maxRecDepth 100000 in
theorem cw_St_114 : am_cwS "ObjectTexts$Store" 114 y_Ja_copyOf_I M_Ja_copyOf_I 2 = true := cwS_f [445, 446, 58, 447] (by decide +kernel)
set_option maxRecDepth 100000 in
theorem cw_Tx_23 : am_cwV "ObjectTexts$Text" 23 y_Tx_waitingByte M_Tx_waitingByte 1 = true := cwV_f [402, 404, 3, 66, 405] (by decide +kernel)
set_option maxRecDepth 100000 in
theorem cw_Tx_27 : am_cwS "ObjectTexts$Text" 27 y_Ja_fill M_Ja_fill 2 = true := cwS_f [406, 88, 58, 89] (by decide +kernel)
