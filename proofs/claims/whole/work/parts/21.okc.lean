/-! rows are right, calls have their words: by the kernel -/
set_option maxRecDepth 100000 in
theorem ok_Mo_init : am_okM M_Mo_init = true := am_okMf_ok (hs := [0, 0, 0, 0, 0, 760, 0, 0, 0, 761, 0, 0, 0, 762, 0, 0, 0, 763, 0, 0, 0, 764, 0, 0, 0, 765, 0, 0, 0, 766, 0, 735, 0, 768, 0, 0, 0, 769, 0, 0, 0, 771, 0, 0, 0, 772, 0, 0, 0, 773, 0, 0, 0, 775, 0, 0, 0, 777, 0, 0, 0, 779, 0, 0, 0, 781, 0, 0, 785, 0, 0, 0, 786, 0, 0, 0, 787, 0, 0, 0, 788, 0, 0, 0, 789, 0, 0, 0, 791, 0, 0, 0, 795, 0, 0, 0, 796, 0, 0, 0, 798, 0, 0, 0, 0, 0, 0, 766, 0, 0, 0, 0, 0, 0, 0, 0, 0, 0, 0, 0, 0, 0, 0, 0, 0, 0, 0, 0]) (by decide +kernel)
set_option maxRecDepth 100000 in
theorem ok_Mo_said : am_okM M_Mo_said = true := am_okMf_ok (hs := [0, 0, 778, 0, 0, 0, 0, 0, 0, 0, 0, 0, 0, 0, 0, 0, 0, 0, 0, 0, 0, 0]) (by decide +kernel)
set_option maxRecDepth 100000 in
theorem ok_Mo_spell : am_okM M_Mo_spell = true := am_okMf_ok (hs := [0, 0, 0, 0, 777, 0, 778, 0, 0, 0, 0, 778, 0, 0, 778, 0]) (by decide +kernel)
set_option maxRecDepth 100000 in
theorem ok_Mo_slot : am_okM M_Mo_slot = true := am_okMf_ok (hs := [0, 933, 0, 0, 0, 0, 0, 0, 0, 0, 0, 0, 0, 0]) (by decide +kernel)
set_option maxRecDepth 100000 in
theorem ok_Mo_spelled : am_okM M_Mo_spelled = true := am_okMf_ok (hs := [0, 0, 0, 0, 0, 0, 0, 0, 0, 0, 0, 0, 0, 777, 0, 0, 0, 0, 768, 0, 0, 0, 0, 0, 0, 0, 0, 0, 0, 0, 0]) (by decide +kernel)
set_option maxRecDepth 100000 in
theorem ok_Mo_added : am_okM M_Mo_added = true := am_okMf_ok (hs := [0, 760, 0, 767, 0, 0, 0, 761, 0, 767, 0, 0, 0, 762, 0, 767, 0, 766, 0, 0, 0, 0, 763, 0, 767, 0, 0, 0, 764, 0, 767, 0, 0, 0, 0, 0, 0, 764, 0, 0, 0, 764, 0, 0, 0, 0, 764, 0, 0, 0, 0, 764, 0, 0, 0, 0, 0, 766, 0, 0, 767, 0, 0, 0, 767, 0, 0, 767, 0, 767, 0, 0, 0]) (by decide +kernel)
set_option maxRecDepth 100000 in
theorem ok_Mo_pair : am_okM M_Mo_pair = true := am_okMf_ok (hs := [0, 0, 0, 0, 0, 766, 0, 0, 0, 0, 0, 0, 0, 760, 0, 0, 0, 0, 0, 761, 0, 0, 0, 0, 0, 0, 0, 762, 0, 0, 0, 0, 0, 0, 0, 0, 0, 0]) (by decide +kernel)
set_option maxRecDepth 100000 in
theorem ok_Mo_natural : am_okM M_Mo_natural = true := am_okMf_ok (hs := [0, 0, 0, 0, 0, 0, 0, 0, 0, 766, 0, 0, 0, 0, 0, 0, 0, 760, 0, 0, 0, 0, 0, 765, 0, 0, 0, 0, 0, 0, 0, 0, 762, 0, 0, 0, 0, 0, 765, 0, 767, 0, 0, 0, 0, 0, 0, 0, 0]) (by decide +kernel)
set_option maxRecDepth 100000 in
theorem ok_Mo_isWord : am_okM M_Mo_isWord = true := am_okMf_ok (hs := [0, 769, 0, 0, 0, 778, 0, 0, 0, 0, 0, 0, 0, 0, 0, 778, 0, 0, 0, 0, 768, 0, 0, 0, 0, 0, 0, 0, 777, 0, 0, 0, 0, 0, 0, 0, 0, 0, 0, 0]) (by decide +kernel)
set_option maxRecDepth 100000 in
theorem ok_Mo_symbol : am_okM M_Mo_symbol = true := am_okMf_ok (hs := [0, 0, 0, 778, 0, 0, 0, 0, 766, 0, 0, 0, 0, 0, 0, 0, 760, 0, 0, 0, 0, 0, 0, 761, 0, 0, 0, 0, 0, 0, 0, 762, 0, 0, 0, 0, 0, 769, 0, 770, 0, 778, 0, 0, 0, 0, 0, 778, 0, 0, 768, 0, 0, 770, 0, 0, 0, 0, 777, 0, 0, 0, 0, 0, 0, 0, 770, 0, 0, 770, 0, 0, 0, 770, 0, 0, 0, 0, 0]) (by decide +kernel)
set_option maxRecDepth 100000 in
theorem ok_Mo_isPair : am_okM M_Mo_isPair = true := am_okMf_ok (hs := [0, 760, 0, 0, 0, 0, 0, 0, 0]) (by decide +kernel)
set_option maxRecDepth 100000 in
theorem ok_Mo_isNatural : am_okM M_Mo_isNatural = true := am_okMf_ok (hs := [0, 760, 0, 0, 0, 0, 0, 0, 0, 0]) (by decide +kernel)
set_option maxRecDepth 100000 in
theorem ok_Mo_isSymbol : am_okM M_Mo_isSymbol = true := am_okMf_ok (hs := [0, 760, 0, 0, 0, 0, 0, 0, 0, 0]) (by decide +kernel)
set_option maxRecDepth 100000 in
theorem ok_Mo_list2 : am_okM M_Mo_list2 = true := am_okMf_ok (hs := [0, 0, 0, 0, 0, 0, 0, 0]) (by decide +kernel)
set_option maxRecDepth 100000 in
theorem ok_Mo_isDigit : am_okM M_Mo_isDigit = true := am_okMf_ok (hs := [0, 0, 0, 0, 0, 0, 0, 0, 0, 0]) (by decide +kernel)
set_option maxRecDepth 100000 in
theorem ok_Mo_isAtom : am_okM M_Mo_isAtom = true := am_okMf_ok (hs := [0, 0, 0, 0, 0, 0, 0, 0, 0, 0, 0, 0, 0, 0, 0, 0, 0, 0, 0, 0, 0, 0, 0, 0, 0, 0, 0, 0, 0, 0, 0, 0, 0, 0, 0, 0, 0, 0, 0, 0, 0, 0, 0]) (by decide +kernel)
set_option maxRecDepth 100000 in
theorem ok_Mo_skip : am_okM M_Mo_skip = true := am_okMf_ok (hs := [0, 0, 0, 0, 0, 783, 0, 774, 0, 0, 773, 0, 783, 0, 0, 0, 0, 783, 0, 774, 0, 0, 773, 0, 783, 0, 0, 0, 0, 0, 783, 0, 0, 783, 0, 0, 773, 0, 783, 0, 0, 0, 0, 773, 0, 783, 0, 0, 0, 0, 0, 783, 0, 0, 783, 0, 0, 0, 0, 0]) (by decide +kernel)
set_option maxRecDepth 100000 in
theorem ok_Mo_bad : am_okM M_Mo_bad = true := am_okMf_ok (hs := [0, 784, 0, 0, 0, 0, 784, 0, 0, 785, 0]) (by decide +kernel)
set_option maxRecDepth 100000 in
theorem ok_Mo_mayBegin : am_okM M_Mo_mayBegin = true := am_okMf_ok (hs := [0, 790, 0, 0, 794, 0, 0, 0, 0, 0, 0, 786, 0, 790, 0, 0, 0, 0, 0, 0, 788, 0, 790, 0, 0, 0, 0, 0, 0, 0, 0, 0]) (by decide +kernel)
set_option maxRecDepth 100000 in
theorem ok_Mo_begin : am_okM M_Mo_begin = true := am_okMf_ok (hs := [0, 786, 0, 790, 0, 0, 0, 787, 0, 790, 0, 792, 0, 0, 788, 0, 790, 0, 0, 0, 0, 790, 0, 0, 790, 0]) (by decide +kernel)
set_option maxRecDepth 100000 in
theorem ok_Mo_deliver : am_okM M_Mo_deliver = true := am_okMf_ok (hs := [0, 0, 0, 790, 0, 0, 786, 0, 790, 0, 0, 0, 0, 0, 0, 0, 0, 0, 0, 0, 0, 790, 0, 0, 790, 0, 0, 790, 0, 0, 0, 793, 0, 0, 794, 0, 0, 788, 0, 790, 0, 0, 0, 0, 0, 0, 789, 0, 790, 0, 0, 0, 0, 0, 788, 0, 790, 0, 0, 0, 0, 0, 0, 791, 0, 792, 0, 0, 0, 0, 792, 0, 0, 792, 0]) (by decide +kernel)
set_option maxRecDepth 100000 in
theorem ok_Mo_close : am_okM M_Mo_close = true := am_okMf_ok (hs := [0, 790, 0, 0, 0, 0, 788, 0, 0, 0, 0, 0, 789, 0, 0, 0, 0, 0, 0, 792, 0, 787, 0, 0, 0, 0, 0, 792, 0, 0, 792, 0, 0, 791, 0, 792, 0, 0, 0, 0, 0, 0, 0, 790, 0, 0, 790, 0, 0, 0, 0]) (by decide +kernel)
set_option maxRecDepth 100000 in
theorem ok_Mo_atom : am_okM M_Mo_atom = true := am_okMf_ok (hs := [0, 0, 0, 0, 0, 0, 0, 0, 0, 0, 773, 0, 0, 0, 0, 0, 0, 0, 0, 0, 0, 0, 0, 0, 0, 0, 0, 0, 0, 0, 0, 952, 0, 773, 0, 0, 0, 0, 0, 0, 953, 0, 0, 0, 0, 0, 953, 0, 0, 0, 773, 0, 0, 0, 0, 954, 0, 0, 0, 0, 0, 0, 0, 0, 0, 0, 0, 0, 0, 0, 0, 0, 0, 778, 0, 0, 0, 0, 0, 0, 0, 773, 0, 0, 0, 0, 0, 0, 0, 0]) (by decide +kernel)
set_option maxRecDepth 100000 in
theorem ok_Mo_isInList : am_okM M_Mo_isInList = true := am_okMf_ok (hs := [0, 790, 0, 0, 786, 0, 790, 0, 0, 0, 0, 0, 0, 0, 0]) (by decide +kernel)
set_option maxRecDepth 100000 in
theorem ok_Mo_readWord : am_okM M_Mo_readWord = true := am_okMf_ok (hs := [0, 783, 0, 0, 773, 0, 783, 0, 0, 0, 0, 0, 0, 0, 0, 0, 0, 0, 783, 0, 0, 783, 0, 0, 0, 0, 0, 0, 0, 0, 0, 0, 0, 0, 0, 0, 0, 790, 0, 0, 0, 0, 0, 0, 0, 0, 0, 0, 0, 0, 0, 0, 0, 0, 0, 0, 0, 0, 0, 0, 0, 0, 0, 0, 0, 0, 0, 0, 788, 0, 790, 0, 0, 0, 0, 0, 0, 0, 0, 0, 0, 0, 0, 0, 0, 0, 0, 0, 0, 0, 0, 0, 0, 0, 0, 0, 0, 0, 788, 0, 790, 0, 0, 0, 0, 0, 792, 0, 787, 0, 790, 0, 0, 0, 0, 0, 0, 0, 0, 0, 0, 0, 0, 0, 0, 0, 0, 0, 788, 0, 790, 0, 0, 0, 0, 0, 0, 0, 0, 0, 0, 0, 0, 0, 0, 783, 0, 774, 0, 0, 773, 0, 783, 0, 0, 0, 0, 0, 783, 0, 0, 783, 0, 0, 0, 0, 783, 0, 0, 0, 0, 0, 0, 0, 0, 0, 0, 0, 0, 0, 0, 0, 0, 0, 0, 0, 0, 0, 0, 0, 0, 0, 0, 0, 0, 0]) (by decide +kernel)
set_option maxRecDepth 100000 in
theorem ok_Mo_reads : am_okM M_Mo_reads = true := am_okMf_ok (hs := [0, 0, 783, 0, 0, 790, 0, 0, 792, 0, 0, 794, 0, 0, 784, 0, 0, 785, 0, 0, 0, 0, 0, 784, 0, 0, 783, 0, 774, 0, 0, 0, 0, 0, 0, 0, 0, 0, 784, 0, 0, 794, 0, 0, 0, 0, 774, 0, 0, 0, 774, 0, 784, 0, 0, 0, 0, 0]) (by decide +kernel)
set_option maxRecDepth 100000 in
theorem ok_Mo_tellLetter : am_okM M_Mo_tellLetter = true := am_okMf_ok (hs := [0, 797, 0, 0, 782, 0, 0, 0, 781, 0, 782, 0, 0, 0, 0, 782, 0, 0, 782, 0, 0, 776, 0, 0, 0, 775, 0, 776, 0, 0, 0, 0, 776, 0, 0, 776, 0]) (by decide +kernel)
set_option maxRecDepth 100000 in
theorem ok_Mo_isFull : am_okM M_Mo_isFull = true := am_okMf_ok (hs := [0, 797, 0, 0, 782, 0, 0, 0, 0, 0, 0, 0, 776, 0, 0, 0, 0, 0, 0]) (by decide +kernel)
set_option maxRecDepth 100000 in
theorem ok_Mo_tellAtom : am_okM M_Mo_tellAtom = true := am_okMf_ok (hs := [0, 0, 0, 0, 0, 0, 0, 0, 769, 0, 761, 0, 0, 0, 0, 0, 0, 768, 0, 0, 761, 0, 0, 0, 0, 0, 0, 0, 0, 0, 0, 0, 0, 0, 765, 0, 0, 0, 0, 953, 0, 0, 953, 0, 0, 0, 0, 0, 0, 0, 0, 0, 0, 0, 765, 0, 0, 0, 0, 953, 0, 0, 0, 0, 0, 953, 0, 0, 0, 0]) (by decide +kernel)
set_option maxRecDepth 100000 in
theorem ok_Mo_isQuoted : am_okM M_Mo_isQuoted = true := am_okMf_ok (hs := [0, 0, 0, 0, 0, 760, 0, 0, 0, 0, 0, 0, 761, 0, 0, 0, 0, 0, 761, 0, 761, 0, 0, 0, 0, 0, 0, 0, 0]) (by decide +kernel)
set_option maxRecDepth 100000 in
theorem ok_Mo_later : am_okM M_Mo_later = true := am_okMf_ok (hs := [0, 779, 0, 780, 0, 0, 0, 0, 780, 0, 0, 780, 0]) (by decide +kernel)
set_option maxRecDepth 100000 in
theorem ok_Mo_tellObject : am_okM M_Mo_tellObject = true := am_okMf_ok (hs := [0, 0, 780, 0, 0, 0, 0, 0, 0, 780, 0, 0, 0, 0, 0, 0, 780, 0, 0, 780, 0, 779, 0, 780, 0, 0, 0, 0, 0, 0, 0, 0, 0, 0, 0, 0, 0, 0, 0, 0, 0, 0, 0, 0, 0, 0, 0, 0, 0, 0, 0, 0, 760, 0, 761, 0, 0, 0, 0, 0, 0, 0, 0, 0, 0, 0, 0, 761, 0, 0, 0, 0, 0, 0, 0, 0, 0, 760, 0, 0, 0, 0, 0, 0, 0, 0, 0, 0, 0, 0, 0, 0, 0, 0, 0, 0, 0, 0, 0, 761, 0, 0, 0, 0, 0, 0, 0, 0, 0, 760, 0, 0, 0, 0, 0, 0, 0, 0, 0, 0, 0, 0, 0, 0, 0, 0, 0, 0, 0, 0, 0, 0]) (by decide +kernel)
set_option maxRecDepth 100000 in
theorem ok_Mo_isSmaller : am_okM M_Mo_isSmaller = true := am_okMf_ok (hs := [0, 0, 797, 0, 0, 782, 0, 0, 0, 0, 782, 0, 0, 0, 0, 0, 0, 0, 798, 0, 0, 781, 0, 0, 0, 0, 0, 0, 0, 782, 0, 0, 0, 0, 0, 797, 0, 0, 0, 0, 0, 0, 0, 782, 0, 0, 781, 0, 0, 0, 0, 0, 0, 0, 0, 0, 798, 0, 0, 0, 0, 0, 0, 0, 0, 0, 0, 0, 0, 0, 0, 0, 0, 0, 0, 0]) (by decide +kernel)
set_option maxRecDepth 100000 in
theorem ok_Mo_isPlace : am_okM M_Mo_isPlace = true := am_okMf_ok (hs := [0, 0, 0, 0, 0, 0, 0, 0, 0]) (by decide +kernel)
set_option maxRecDepth 100000 in
theorem ok_Mo_feed : am_okM M_Mo_feed = true := am_okMf_ok (hs := [0, 0, 0, 0, 0, 0, 772, 0, 0, 0, 0, 0, 0, 0, 0, 0, 0, 0, 0, 772, 0, 0, 0, 0, 0, 0, 0, 0, 0, 0, 0, 0, 0, 0, 772, 0, 0, 0, 0, 0, 0, 0, 0, 0, 0, 0, 0, 0, 0, 772, 0, 0, 0, 0, 0, 0, 0, 0, 0, 0, 0, 0, 0, 0, 772, 0, 0, 0, 0, 0, 0, 0, 0, 0, 0, 0, 0, 0, 0, 0, 0]) (by decide +kernel)
set_option maxRecDepth 100000 in
theorem ok_Mo_end : am_okM M_Mo_end = true := am_okMf_ok (hs := [0, 0, 0, 0, 0, 0, 774, 0, 0, 0, 0, 0, 0, 0, 0, 0, 0, 0, 0, 773, 0, 774, 0, 0, 0, 772, 0, 0, 0, 0, 0, 0, 0, 774, 0, 0, 774, 0, 0, 0, 0, 0, 0, 772, 0, 0, 0, 0, 0, 0, 774, 0]) (by decide +kernel)
set_option maxRecDepth 100000 in
theorem ok_Mo_read : am_okM M_Mo_read = true := am_okMf_ok (hs := [0, 0, 0, 0, 0, 0, 0, 0, 0, 771, 0, 0, 793, 0, 0, 784, 0]) (by decide +kernel)
set_option maxRecDepth 100000 in
theorem ok_Mo_fault : am_okM M_Mo_fault = true := am_okMf_ok (hs := [0, 0, 0, 784, 0, 0, 0, 0, 0, 785, 0, 0, 0]) (by decide +kernel)
set_option maxRecDepth 100000 in
theorem ok_Mo_tell : am_okM M_Mo_tell = true := am_okMf_ok (hs := [0, 0, 0, 0, 0, 0, 0, 776, 0, 0, 771, 0, 0, 0, 0, 776, 0]) (by decide +kernel)
set_option maxRecDepth 100000 in
theorem ok_Mo_letter : am_okM M_Mo_letter = true := am_okMf_ok (hs := [0, 0, 0, 0, 776, 0, 0, 775, 0, 0, 0, 0, 0]) (by decide +kernel)
set_option maxRecDepth 100000 in
theorem ok_Mo_cons : am_okM M_Mo_cons = true := am_okMf_ok (hs := [0, 0, 0, 0, 0, 0, 0, 0, 0, 0, 0, 0, 771, 0, 0, 0, 771, 0, 0, 0, 771, 0, 0, 0, 0, 0, 0]) (by decide +kernel)
set_option maxRecDepth 100000 in
theorem ok_Mo_side : am_okM M_Mo_side = true := am_okMf_ok (hs := [0, 0, 0, 0, 0, 0, 0, 0, 0, 0, 0, 0, 0, 771, 0, 0, 0, 0, 0, 0, 0, 771, 0, 0, 0, 0, 760, 0, 771, 0, 0, 0, 0, 0, 761, 0, 771, 0, 0, 0, 0, 0, 0]) (by decide +kernel)
set_option maxRecDepth 100000 in
theorem ok_Mo_set : am_okM M_Mo_set = true := am_okMf_ok (hs := [0, 0, 0, 0, 0, 0, 0, 0, 952, 0, 0, 0, 0, 0, 771, 0, 0, 0, 0, 0, 0, 0]) (by decide +kernel)
set_option maxRecDepth 100000 in
theorem ok_Mo_number : am_okM M_Mo_number = true := am_okMf_ok (hs := [0, 0, 0, 0, 0, 771, 0, 0, 0, 0, 0, 765, 0, 771, 0, 0, 0, 0, 1023, 0]) (by decide +kernel)
set_option maxRecDepth 100000 in
theorem ok_Mo_different : am_okM M_Mo_different = true := am_okMf_ok (hs := [0, 0, 0, 0, 767, 0, 0, 796, 0, 0, 0, 0, 0, 0, 0, 0, 0, 0, 795, 0, 0, 0, 0, 796, 0, 0, 0, 0, 0, 0, 0, 795, 0, 0, 0, 0, 0, 0, 0, 0, 0, 0, 0, 0, 0, 0, 0, 0, 0, 0, 0, 0, 796, 0, 760, 0, 0, 0, 0, 0, 796, 0, 760, 0, 0, 0, 0, 0, 795, 0, 0, 760, 0, 0, 0, 0, 0, 796, 0, 761, 0, 0, 0, 0, 0, 796, 0, 761, 0, 0, 0, 0, 0, 795, 0, 0, 761, 0, 0, 0, 0, 0, 0, 0]) (by decide +kernel)
set_option maxRecDepth 100000 in
theorem ok_Mo_lengthOf : am_okM M_Mo_lengthOf = true := am_okMf_ok (hs := [0, 0, 0, 0, 0, 0, 0, 0, 0, 0, 761, 0, 0, 0, 0, 0, 0, 0, 0, 0, 0]) (by decide +kernel)
set_option maxRecDepth 100000 in
theorem ok_Mo_about : am_okM M_Mo_about = true := am_okMf_ok (hs := [0, 0, 0, 0, 0, 0, 771, 0, 0, 0, 0, 0, 0, 0, 0, 0, 0, 0, 0, 0, 0, 0, 0, 0, 0, 0, 0, 764, 0, 0, 0, 0, 0, 0, 0, 0, 0, 0, 0, 0, 0, 0, 0, 0, 0, 0, 0]) (by decide +kernel)
set_option maxRecDepth 100000 in
theorem ok_Mo_same : am_okM M_Mo_same = true := am_okMf_ok (hs := [0, 0, 0, 0, 0, 0, 0, 771, 0, 0, 0, 771, 0, 0, 0, 0, 0, 0, 0]) (by decide +kernel)
set_option maxRecDepth 100000 in
theorem ok_Mo_below : am_okM M_Mo_below = true := am_okMf_ok (hs := [0, 0, 0, 0, 0, 0, 0, 0, 771, 0, 0, 0, 771, 0, 0, 0, 0, 0, 0, 0, 0]) (by decide +kernel)
set_option maxRecDepth 100000 in
theorem cw_Mo_89 : am_cwV "ObjectTextsModel" 89 y_Mo_said M_Mo_said 5 = true := cwV_f [736, 738, 24, 71, 739] (by decide +kernel)
set_option maxRecDepth 100000 in
theorem cw_Mo_96 : am_cwV "ObjectTextsModel" 96 y_Mo_spell M_Mo_spell 1 = true := cwV_f [740, 742, 25, 71, 743] (by decide +kernel)
set_option maxRecDepth 100000 in
theorem cw_Mo_100 : am_cwV "ObjectTextsModel" 100 y_Mo_symbol M_Mo_symbol 0 = true := cwV_f [744, 746, 26, 71, 747] (by decide +kernel)
set_option maxRecDepth 100000 in
theorem cw_Mo_105 : am_cwS "ObjectTextsModel" 105 y_Mo_slot M_Mo_slot 2 = true := cwS_f [930, 931, 71, 932] (by decide +kernel)
set_option maxRecDepth 100000 in
theorem cw_Mo_109 : am_cwV "ObjectTextsModel" 109 y_Mo_spelled M_Mo_spelled 3 = true := cwV_f [748, 750, 27, 71, 751] (by decide +kernel)
set_option maxRecDepth 100000 in
theorem cw_Mo_116 : am_cwV "ObjectTextsModel" 116 y_Mo_added M_Mo_added 3 = true := cwV_f [756, 758, 29, 71, 759] (by decide +kernel)
set_option maxRecDepth 100000 in
theorem cw_Mo_120 : am_cwV "ObjectTextsModel" 120 y_Mo_isWord M_Mo_isWord 1 = true := cwV_f [752, 754, 28, 71, 755] (by decide +kernel)
set_option maxRecDepth 100000 in
theorem cw_Mo_127 : am_cwV "ObjectTextsModel" 127 y_Mo_pair M_Mo_pair 2 = true := cwV_f [926, 928, 38, 71, 929] (by decide +kernel)
set_option maxRecDepth 100000 in
theorem cw_Mo_130 : am_cwS "ObjectTextsModel" 130 y_Mo_isDigit M_Mo_isDigit 1 = true := cwS_f [945, 946, 71, 947] (by decide +kernel)
set_option maxRecDepth 100000 in
theorem cw_Mo_152 : am_cwV "ObjectTextsModel" 152 y_Mo_list2 M_Mo_list2 2 = true := cwV_f [938, 940, 40, 71, 941] (by decide +kernel)
set_option maxRecDepth 100000 in
theorem cw_Mo_158 : am_cwV "ObjectTextsModel" 158 y_Mo_deliver M_Mo_deliver 1 = true := cwV_f [934, 936, 39, 71, 937] (by decide +kernel)
set_option maxRecDepth 100000 in
theorem cw_Mo_167 : am_cwV "ObjectTextsModel" 167 y_Mo_natural M_Mo_natural 1 = true := cwV_f [955, 957, 42, 71, 958] (by decide +kernel)
set_option maxRecDepth 100000 in
theorem cw_Mo_171 : am_cwV "ObjectTextsModel" 171 y_Mo_mayBegin M_Mo_mayBegin 0 = true := cwV_f [906, 908, 33, 71, 909] (by decide +kernel)
set_option maxRecDepth 100000 in
theorem cw_Mo_175 : am_cwV "ObjectTextsModel" 175 y_Mo_bad M_Mo_bad 2 = true := cwV_f [910, 912, 34, 71, 913] (by decide +kernel)
set_option maxRecDepth 100000 in
theorem cw_Mo_179 : am_cwV "ObjectTextsModel" 179 y_Mo_begin M_Mo_begin 1 = true := cwV_f [914, 916, 35, 71, 917] (by decide +kernel)
set_option maxRecDepth 100000 in
theorem cw_Mo_182 : am_cwV "ObjectTextsModel" 182 y_Mo_isInList M_Mo_isInList 0 = true := cwV_f [918, 920, 36, 71, 921] (by decide +kernel)
set_option maxRecDepth 100000 in
theorem cw_Mo_185 : am_cwV "ObjectTextsModel" 185 y_Mo_close M_Mo_close 0 = true := cwV_f [922, 924, 37, 71, 925] (by decide +kernel)
set_option maxRecDepth 100000 in
theorem cw_Mo_188 : am_cwS "ObjectTextsModel" 188 y_Mo_isAtom M_Mo_isAtom 1 = true := cwS_f [942, 943, 71, 944] (by decide +kernel)
set_option maxRecDepth 100000 in
theorem cw_Mo_191 : am_cwV "ObjectTextsModel" 191 y_Mo_atom M_Mo_atom 2 = true := cwV_f [948, 950, 41, 71, 951] (by decide +kernel)
set_option maxRecDepth 100000 in
theorem cw_Mo_194 : am_cwV "ObjectTextsModel" 194 y_Mo_skip M_Mo_skip 0 = true := cwV_f [898, 900, 31, 71, 901] (by decide +kernel)
set_option maxRecDepth 100000 in
theorem cw_Mo_197 : am_cwV "ObjectTextsModel" 197 y_Mo_readWord M_Mo_readWord 1 = true := cwV_f [902, 904, 32, 71, 905] (by decide +kernel)
set_option maxRecDepth 100000 in
theorem cw_Mo_209 : am_cwV "ObjectTextsModel" 209 y_Mo_isSymbol M_Mo_isSymbol 1 = true := cwV_f [987, 989, 48, 71, 990] (by decide +kernel)
set_option maxRecDepth 100000 in
theorem cw_Mo_212 : am_cwV "ObjectTextsModel" 212 y_Mo_tellLetter M_Mo_tellLetter 1 = true := cwV_f [991, 993, 49, 71, 994] (by decide +kernel)
set_option maxRecDepth 100000 in
theorem cw_Mo_215 : am_cwV "ObjectTextsModel" 215 y_Mo_isPair M_Mo_isPair 1 = true := cwV_f [979, 981, 46, 71, 982] (by decide +kernel)
set_option maxRecDepth 100000 in
theorem cw_Mo_221 : am_cwV "ObjectTextsModel" 221 y_Mo_later M_Mo_later 1 = true := cwV_f [971, 973, 44, 71, 974] (by decide +kernel)
set_option maxRecDepth 100000 in
theorem cw_Mo_224 : am_cwV "ObjectTextsModel" 224 y_Mo_isFull M_Mo_isFull 0 = true := cwV_f [975, 977, 45, 71, 978] (by decide +kernel)
set_option maxRecDepth 100000 in
theorem cw_Mo_227 : am_cwV "ObjectTextsModel" 227 y_Mo_tellAtom M_Mo_tellAtom 1 = true := cwV_f [983, 985, 47, 71, 986] (by decide +kernel)
set_option maxRecDepth 100000 in
theorem cw_Mo_230 : am_cwV "ObjectTextsModel" 230 y_Mo_isQuoted M_Mo_isQuoted 1 = true := cwV_f [995, 997, 50, 71, 998] (by decide +kernel)
set_option maxRecDepth 100000 in
theorem cw_Mo_233 : am_cwV "ObjectTextsModel" 233 y_Mo_tellObject M_Mo_tellObject 1 = true := cwV_f [967, 969, 43, 71, 970] (by decide +kernel)
set_option maxRecDepth 100000 in
theorem cw_Mo_236 : am_cwS "ObjectTextsModel" 236 y_Mo_isPlace M_Mo_isPlace 1 = true := cwS_f [891, 892, 71, 893] (by decide +kernel)
set_option maxRecDepth 100000 in
theorem cw_Mo_239 : am_cwV "ObjectTextsModel" 239 y_Mo_reads M_Mo_reads 0 = true := cwV_f [894, 896, 30, 71, 897] (by decide +kernel)
set_option maxRecDepth 100000 in
theorem cw_Mo_242 : am_cwV "ObjectTextsModel" 242 y_Mo_isNatural M_Mo_isNatural 1 = true := cwV_f [1019, 1021, 51, 71, 1022] (by decide +kernel)
set_option maxRecDepth 100000 in
theorem cw_Mo_247 : am_cwV "ObjectTextsModel" 247 y_Mo_lengthOf M_Mo_lengthOf 1 = true := cwV_f [1028, 1030, 52, 71, 1031] (by decide +kernel)
set_option maxRecDepth 100000 in
theorem cw_Mo_251 : am_cwV "ObjectTextsModel" 251 y_Mo_different M_Mo_different 2 = true := cwV_f [1032, 1034, 53, 71, 1035] (by decide +kernel)
set_option maxRecDepth 100000 in
theorem cw_Mo_255 : am_cwV "ObjectTextsModel" 255 y_Mo_isSmaller M_Mo_isSmaller 2 = true := cwV_f [1044, 1046, 54, 71, 1047] (by decide +kernel)
