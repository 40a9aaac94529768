abbrev mm_T : Type := MethodName × ByteArray × Nat × Option FieldType × Nat × List (Nat × Nat × Nat × Nat) × cl_T
def okM (e : mm_T) : Prop := (∀ q ∈ e.2.2.2.2.2.2.flatten, decode e.2.1 q.1 = .ok q.2) ∧ (match e.2.2.2.2.2.1 with | [] => Cond.code e.1 e.2.1 e.2.2.1 e.2.2.2.1 ∈ wsL_law | hh => Cond.codeWith e.1 e.2.1 e.2.2.1 e.2.2.2.1 hh ∈ wsL_law) ∧ plainFor e.1 = true ∧ (e.1.cls ≠ "java/lang/invoke/MethodHandle" ∧ e.1.cls ≠ "java/lang/invoke/VarHandle") ∧ e.1.cls = P_ow e.2.2.2.2.1 ∧ e.2.2.1 ≤ 30
def okMA (e : mm_T) : Prop := (∀ q ∈ e.2.2.2.2.2.2.flatten, decode e.2.1 q.1 = .ok q.2) ∧ (match e.2.2.2.2.2.1 with | [] => Cond.code e.1 e.2.1 e.2.2.1 e.2.2.2.1 ∈ wsL_law | hh => Cond.codeWith e.1 e.2.1 e.2.2.1 e.2.2.2.1 hh ∈ wsL_law)
def okMB (e : mm_T) : Prop := plainFor e.1 = true ∧ (e.1.cls ≠ "java/lang/invoke/MethodHandle" ∧ e.1.cls ≠ "java/lang/invoke/VarHandle") ∧ e.1.cls = P_ow e.2.2.2.2.1 ∧ e.2.2.1 ≤ 30
def ml0 : List mm_T := [(yX2_init, cX2_init, 1, none, 2, [], clX2_init), (yX0_init, cX0_init, 2, none, 0, [], clX0_init), (yX0_p, cX0_p, 1, (some .int), 0, [], clX0_p), (yX0_of, cX0_of, 5, (some .int), 0, [], clX0_of), (yX0_power, cX0_power, 6, (some .int), 0, [], clX0_power), (yX0_inverse, cX0_inverse, 2, (some .int), 0, [], clX0_inverse), (yX0_detOf, cX0_detOf, 5, (some .int), 0, [], clX0_detOf), (yX9_set, cX9_set, 5, none, 9, [], clX9_set), (yX0_fill, cX0_fill, 6, none, 0, [], clX0_fill), (yX0_tables, cX0_tables, 2, (some .int), 0, [], clX0_tables), (yX2_get, cX2_get, 2, (some .int), 2, [], clX2_get), (yX0_worth, cX0_worth, 7, (some .int), 0, [], clX0_worth), (yX2_set, cX2_set, 3, none, 2, [], clX2_set), (yX0_scale, cX0_scale, 4, none, 0, [], clX0_scale), (yX0_addTo, cX0_addTo, 4, (some .boolean), 0, [], clX0_addTo), (yJ7_fill_53178, cJ7_fill_53178, 4, none, 27, [], clJ7_fill_53178), (yX2_begin, cX2_begin, 2, none, 2, [], clX2_begin), (yX0_multiplyByLine, cX0_multiplyByLine, 5, none, 0, [], clX0_multiplyByLine), (yX0_mixInto, cX0_mixInto, 6, none, 0, [], clX0_mixInto), (yX0_addProduct, cX0_addProduct, 8, none, 0, [], clX0_addProduct), (yX0_multiplyInto, cX0_multiplyInto, 4, (some .boolean), 0, [], clX0_multiplyInto), (yX0_differentiate, cX0_differentiate, 10, none, 0, [], clX0_differentiate), (yX0_overlapInto, cX0_overlapInto, 7, (some .boolean), 0, [], clX0_overlapInto), (yX2_first, cX2_first, 2, (some .int), 2, [], clX2_first), (yX2_copyFrom, cX2_copyFrom, 3, none, 2, [], clX2_copyFrom), (yX0_dropRoot, cX0_dropRoot, 4, none, 0, [], clX0_dropRoot), (yX0_howOften, cX0_howOften, 5, (some .int), 0, [], clX0_howOften), (yX2_matches, cX2_matches, 4, (some .boolean), 2, [], clX2_matches), (yX0_divideInto, cX0_divideInto, 10, (some .boolean), 0, [], clX0_divideInto), (yX2_dropY, cX2_dropY, 3, none, 2, [], clX2_dropY)]
set_option maxRecDepth 100000 in
theorem okma0 : ∀ e ∈ ml0, okMA e := List.forall_mem_cons.mpr ⟨⟨okX2_init, inr4 _ (List.mem_of_getElem? (i := 15) rfl)⟩, List.forall_mem_cons.mpr ⟨⟨okX0_init, inr4 _ (List.mem_of_getElem? (i := 23) rfl)⟩, List.forall_mem_cons.mpr ⟨⟨okX0_p, inr45 _ (List.mem_of_getElem? (i := 0) rfl)⟩, List.forall_mem_cons.mpr ⟨⟨okX0_of, inr11 _ (List.mem_of_getElem? (i := 17) rfl)⟩, List.forall_mem_cons.mpr ⟨⟨okX0_power, inr37 _ (List.mem_of_getElem? (i := 14) rfl)⟩, List.forall_mem_cons.mpr ⟨⟨okX0_inverse, inr41 _ (List.mem_of_getElem? (i := 7) rfl)⟩, List.forall_mem_cons.mpr ⟨⟨okX0_detOf, inr13 _ (List.mem_of_getElem? (i := 18) rfl)⟩, List.forall_mem_cons.mpr ⟨⟨okX9_set, inr14 _ (List.mem_of_getElem? (i := 12) rfl)⟩, List.forall_mem_cons.mpr ⟨⟨okX0_fill, inr14 _ (List.mem_of_getElem? (i := 8) rfl)⟩, List.forall_mem_cons.mpr ⟨⟨okX0_tables, inr44 _ (List.mem_of_getElem? (i := 9) rfl)⟩, List.forall_mem_cons.mpr ⟨⟨okX2_get, inr22 _ (List.mem_of_getElem? (i := 22) rfl)⟩, List.forall_mem_cons.mpr ⟨⟨okX0_worth, inr24 _ (List.mem_of_getElem? (i := 1) rfl)⟩, List.forall_mem_cons.mpr ⟨⟨okX2_set, inr11 _ (List.mem_of_getElem? (i := 22) rfl)⟩, List.forall_mem_cons.mpr ⟨⟨okX0_scale, inr32 _ (List.mem_of_getElem? (i := 21) rfl)⟩, List.forall_mem_cons.mpr ⟨⟨okX0_addTo, inr33 _ (List.mem_of_getElem? (i := 5) rfl)⟩, List.forall_mem_cons.mpr ⟨⟨okJ7_fill_53178, inr11 _ (List.mem_of_getElem? (i := 9) rfl)⟩, List.forall_mem_cons.mpr ⟨⟨okX2_begin, inr11 _ (List.mem_of_getElem? (i := 4) rfl)⟩, List.forall_mem_cons.mpr ⟨⟨okX0_multiplyByLine, inr27 _ (List.mem_of_getElem? (i := 12) rfl)⟩, List.forall_mem_cons.mpr ⟨⟨okX0_mixInto, inr27 _ (List.mem_of_getElem? (i := 2) rfl)⟩, List.forall_mem_cons.mpr ⟨⟨okX0_addProduct, inr33 _ (List.mem_of_getElem? (i := 13) rfl)⟩, List.forall_mem_cons.mpr ⟨⟨okX0_multiplyInto, inr33 _ (List.mem_of_getElem? (i := 9) rfl)⟩, List.forall_mem_cons.mpr ⟨⟨okX0_differentiate, inr33 _ (List.mem_of_getElem? (i := 21) rfl)⟩, List.forall_mem_cons.mpr ⟨⟨okX0_overlapInto, inr33 _ (List.mem_of_getElem? (i := 17) rfl)⟩, List.forall_mem_cons.mpr ⟨⟨okX2_first, inr44 _ (List.mem_of_getElem? (i := 4) rfl)⟩, List.forall_mem_cons.mpr ⟨⟨okX2_copyFrom, inr28 _ (List.mem_of_getElem? (i := 6) rfl)⟩, List.forall_mem_cons.mpr ⟨⟨okX0_dropRoot, inr52 _ (List.mem_of_getElem? (i := 9) rfl)⟩, List.forall_mem_cons.mpr ⟨⟨okX0_howOften, inr52 _ (List.mem_of_getElem? (i := 4) rfl)⟩, List.forall_mem_cons.mpr ⟨⟨okX2_matches, inr27 _ (List.mem_of_getElem? (i := 16) rfl)⟩, List.forall_mem_cons.mpr ⟨⟨okX0_divideInto, inr49 _ (List.mem_of_getElem? (i := 8) rfl)⟩, List.forall_mem_cons.mpr ⟨⟨okX2_dropY, inr51 _ (List.mem_of_getElem? (i := 3) rfl)⟩, fun _ h => nomatch h⟩⟩⟩⟩⟩⟩⟩⟩⟩⟩⟩⟩⟩⟩⟩⟩⟩⟩⟩⟩⟩⟩⟩⟩⟩⟩⟩⟩⟩⟩
set_option maxRecDepth 100000 in
theorem okmb0 : ∀ e ∈ ml0, okMB e := by unfold okMB; decide +kernel
theorem okml0 : ∀ e ∈ ml0, okM e := fun e h => ⟨(okma0 e h).1, (okma0 e h).2, (okmb0 e h).1, (okmb0 e h).2.1, (okmb0 e h).2.2.1, (okmb0 e h).2.2.2⟩
def ml1 : List mm_T := [(yX2_isNought, cX2_isNought, 1, (some .boolean), 2, [], clX2_isNought), (yX0_takeRest, cX0_takeRest, 7, none, 0, [], clX0_takeRest), (yX0_shareInto, cX0_shareInto, 9, none, 0, [], clX0_shareInto), (yX2_row, cX2_row, 3, (some (.array (.object "LetterForms$Form"))), 2, [], clX2_row), (yX1_init, cX1_init, 2, none, 1, [], clX1_init), (yX7_kindAt, cX7_kindAt, 2, (some .int), 7, [], clX7_kindAt), (yX2_pick, cX2_pick, 2, (some (.object "LetterForms$Form")), 2, [], clX2_pick), (yX1_isLaid, cX1_isLaid, 3, (some .boolean), 1, [], clX1_isLaid), (yX7_sizeAt, cX7_sizeAt, 2, (some .int), 7, [], clX7_sizeAt), (yX1_isTurned, cX1_isTurned, 2, (some .boolean), 1, [], clX1_isTurned), (yX1_isJoined, cX1_isJoined, 6, (some .boolean), 1, [], clX1_isJoined), (yX1_valueOf, cX1_valueOf, 6, (some (.object "LetterForms$Form")), 1, [], clX1_valueOf), (yX1_isTotalLaid, cX1_isTotalLaid, 2, (some .boolean), 1, [], clX1_isTotalLaid), (yX1_isTotalJoined, cX1_isTotalJoined, 3, (some .boolean), 1, [], clX1_isTotalJoined), (yX1_total, cX1_total, 6, (some .int), 1, [], clX1_total), (yX2_swapWith, cX2_swapWith, 4, none, 2, [], clX2_swapWith), (yX3_init, cX3_init, 2, none, 3, [], clX3_init), (yX3_pointAt, cX3_pointAt, 2, (some .int), 3, [], clX3_pointAt), (yX3_numberAt, cX3_numberAt, 2, (some .int), 3, [], clX3_numberAt), (yX3_share, cX3_share, 4, none, 3, [], clX3_share), (yX3_beginRow, cX3_beginRow, 2, none, 3, [], clX3_beginRow), (yX3_takeOut, cX3_takeOut, 3, none, 3, [], clX3_takeOut), (yX3_isSumOf, cX3_isSumOf, 3, (some .boolean), 3, [], clX3_isSumOf), (yX3_isNextChoice, cX3_isNextChoice, 4, (some .boolean), 3, [], clX3_isNextChoice), (yX3_isFound, cX3_isFound, 4, (some .boolean), 3, [], clX3_isFound), (yX3_numberOf, cX3_numberOf, 6, (some .int), 3, [], clX3_numberOf), (yX3_find, cX3_find, 3, none, 3, [], clX3_find), (yX7_init, cX7_init, 1, none, 7, [], clX7_init), (yX4_init, cX4_init, 1, none, 4, [], clX4_init), (yX4_put, cX4_put, 3, none, 4, [], clX4_put)]
set_option maxRecDepth 100000 in
theorem okma1 : ∀ e ∈ ml1, okMA e := List.forall_mem_cons.mpr ⟨⟨okX2_isNought, inr44 _ (List.mem_of_getElem? (i := 0) rfl)⟩, List.forall_mem_cons.mpr ⟨⟨okX0_takeRest, inr51 _ (List.mem_of_getElem? (i := 8) rfl)⟩, List.forall_mem_cons.mpr ⟨⟨okX0_shareInto, inr50 _ (List.mem_of_getElem? (i := 21) rfl)⟩, List.forall_mem_cons.mpr ⟨⟨okX2_row, inr4 _ (List.mem_of_getElem? (i := 11) rfl)⟩, List.forall_mem_cons.mpr ⟨⟨okX1_init, inr5 _ (List.mem_of_getElem? (i := 7) rfl)⟩, List.forall_mem_cons.mpr ⟨⟨okX7_kindAt, inr19 _ (List.mem_of_getElem? (i := 6) rfl)⟩, List.forall_mem_cons.mpr ⟨⟨okX2_pick, inr11 _ (List.mem_of_getElem? (i := 0) rfl)⟩, List.forall_mem_cons.mpr ⟨⟨okX1_isLaid, inr32 _ (List.mem_of_getElem? (i := 7) rfl)⟩, List.forall_mem_cons.mpr ⟨⟨okX7_sizeAt, inr19 _ (List.mem_of_getElem? (i := 10) rfl)⟩, List.forall_mem_cons.mpr ⟨⟨okX1_isTurned, inr32 _ (List.mem_of_getElem? (i := 17) rfl)⟩, List.forall_mem_cons.mpr ⟨⟨okX1_isJoined, inr33 _ (List.mem_of_getElem? (i := 1) rfl)⟩, List.forall_mem_cons.mpr ⟨⟨okX1_valueOf, inr32 _ (List.mem_of_getElem? (i := 0) rfl)⟩, List.forall_mem_cons.mpr ⟨⟨okX1_isTotalLaid, inr36 _ (List.mem_of_getElem? (i := 15) rfl)⟩, List.forall_mem_cons.mpr ⟨⟨okX1_isTotalJoined, inr36 _ (List.mem_of_getElem? (i := 19) rfl)⟩, List.forall_mem_cons.mpr ⟨⟨okX1_total, inr36 _ (List.mem_of_getElem? (i := 11) rfl)⟩, List.forall_mem_cons.mpr ⟨⟨okX2_swapWith, inr30 _ (List.mem_of_getElem? (i := 0) rfl)⟩, List.forall_mem_cons.mpr ⟨⟨okX3_init, inr6 _ (List.mem_of_getElem? (i := 15) rfl)⟩, List.forall_mem_cons.mpr ⟨⟨okX3_pointAt, inr56 _ (List.mem_of_getElem? (i := 23) rfl)⟩, List.forall_mem_cons.mpr ⟨⟨okX3_numberAt, inr57 _ (List.mem_of_getElem? (i := 4) rfl)⟩, List.forall_mem_cons.mpr ⟨⟨okX3_share, inr55 _ (List.mem_of_getElem? (i := 13) rfl)⟩, List.forall_mem_cons.mpr ⟨⟨okX3_beginRow, inr56 _ (List.mem_of_getElem? (i := 5) rfl)⟩, List.forall_mem_cons.mpr ⟨⟨okX3_takeOut, inr56 _ (List.mem_of_getElem? (i := 9) rfl)⟩, List.forall_mem_cons.mpr ⟨⟨okX3_isSumOf, inr56 _ (List.mem_of_getElem? (i := 0) rfl)⟩, List.forall_mem_cons.mpr ⟨⟨okX3_isNextChoice, inr56 _ (List.mem_of_getElem? (i := 14) rfl)⟩, List.forall_mem_cons.mpr ⟨⟨okX3_isFound, inr55 _ (List.mem_of_getElem? (i := 20) rfl)⟩, List.forall_mem_cons.mpr ⟨⟨okX3_numberOf, inr56 _ (List.mem_of_getElem? (i := 19) rfl)⟩, List.forall_mem_cons.mpr ⟨⟨okX3_find, inr55 _ (List.mem_of_getElem? (i := 6) rfl)⟩, List.forall_mem_cons.mpr ⟨⟨okX7_init, inr3 _ (List.mem_of_getElem? (i := 15) rfl)⟩, List.forall_mem_cons.mpr ⟨⟨okX4_init, inr3 _ (List.mem_of_getElem? (i := 6) rfl)⟩, List.forall_mem_cons.mpr ⟨⟨okX4_put, inr8 _ (List.mem_of_getElem? (i := 6) rfl)⟩, fun _ h => nomatch h⟩⟩⟩⟩⟩⟩⟩⟩⟩⟩⟩⟩⟩⟩⟩⟩⟩⟩⟩⟩⟩⟩⟩⟩⟩⟩⟩⟩⟩⟩
set_option maxRecDepth 100000 in
theorem okmb1 : ∀ e ∈ ml1, okMB e := by unfold okMB; decide +kernel
theorem okml1 : ∀ e ∈ ml1, okM e := fun e h => ⟨(okma1 e h).1, (okma1 e h).2, (okmb1 e h).1, (okmb1 e h).2.1, (okmb1 e h).2.2.1, (okmb1 e h).2.2.2⟩
def ml2 : List mm_T := [(yX4_useUp, cX4_useUp, 2, (some .int), 4, [], clX4_useUp), (yX4_byteAt, cX4_byteAt, 2, (some .int), 4, [], clX4_byteAt), (yX4_isThingMore, cX4_isThingMore, 1, (some .boolean), 4, [], clX4_isThingMore), (yX4_next, cX4_next, 1, (some .int), 4, [], clX4_next), (yX4_take, cX4_take, 2, (some .boolean), 4, [], clX4_take), (yX4_isDigit, cX4_isDigit, 1, (some .boolean), 4, [], clX4_isDigit), (yX7_put, cX7_put, 3, none, 7, [], clX7_put), (yX4_readNumber, cX4_readNumber, 5, (some .boolean), 4, [], clX4_readNumber), (yX4_isLetter, cX4_isLetter, 1, (some .boolean), 4, [], clX4_isLetter), (yX4_readLetter, cX4_readLetter, 1, (some .boolean), 4, [], clX4_readLetter), (yX4_readOverlap, cX4_readOverlap, 2, (some .boolean), 4, [], clX4_readOverlap), (yX4_readPart, cX4_readPart, 3, (some .boolean), 4, [], clX4_readPart), (yX4_readProduct, cX4_readProduct, 3, (some .boolean), 4, [], clX4_readProduct), (yX4_readSum, cX4_readSum, 3, (some .boolean), 4, [], clX4_readSum), (yX4_read, cX4_read, 3, (some .int), 4, [], clX4_read), (yX5_init, cX5_init, 3, none, 5, [], clX5_init), (yX5_draw, cX5_draw, 7, none, 5, [], clX5_draw), (yX8_signsAt, cX8_signsAt, 2, (some (.object "LetterForms$Signs")), 8, [], clX8_signsAt), (yX5_isAppended, cX5_isAppended, 4, (some .boolean), 5, [], clX5_isAppended), (yX5_isHeld, cX5_isHeld, 8, (some .boolean), 5, [], clX5_isHeld), (yX5_independent, cX5_independent, 10, (some .int), 5, [], clX5_independent), (yJ7_fill_d0a16, cJ7_fill_d0a16, 5, none, 27, [], clJ7_fill_d0a16), (yX5_addWays, cX5_addWays, 3, none, 5, [], clX5_addWays), (yX5_ways, cX5_ways, 8, (some .long), 5, [], clX5_ways), (yX6_init, cX6_init, 2, none, 6, [], clX6_init), (yX6_pointX, cX6_pointX, 1, (some .int), 6, [], clX6_pointX), (yX6_pointY, cX6_pointY, 1, (some .int), 6, [], clX6_pointY), (yX6_aim, cX6_aim, 6, none, 6, [], clX6_aim), (yX6_aimAt, cX6_aimAt, 2, (some .int), 6, [], clX6_aimAt), (yX6_valueAt, cX6_valueAt, 4, (some .int), 6, [], clX6_valueAt)]
set_option maxRecDepth 100000 in
theorem okma2 : ∀ e ∈ ml2, okMA e := List.forall_mem_cons.mpr ⟨⟨okX4_useUp, inr10 _ (List.mem_of_getElem? (i := 12) rfl)⟩, List.forall_mem_cons.mpr ⟨⟨okX4_byteAt, inr11 _ (List.mem_of_getElem? (i := 13) rfl)⟩, List.forall_mem_cons.mpr ⟨⟨okX4_isThingMore, inr17 _ (List.mem_of_getElem? (i := 5) rfl)⟩, List.forall_mem_cons.mpr ⟨⟨okX4_next, inr17 _ (List.mem_of_getElem? (i := 0) rfl)⟩, List.forall_mem_cons.mpr ⟨⟨okX4_take, inr17 _ (List.mem_of_getElem? (i := 15) rfl)⟩, List.forall_mem_cons.mpr ⟨⟨okX4_isDigit, inr17 _ (List.mem_of_getElem? (i := 18) rfl)⟩, List.forall_mem_cons.mpr ⟨⟨okX7_put, inr17 _ (List.mem_of_getElem? (i := 9) rfl)⟩, List.forall_mem_cons.mpr ⟨⟨okX4_readNumber, inr17 _ (List.mem_of_getElem? (i := 22) rfl)⟩, List.forall_mem_cons.mpr ⟨⟨okX4_isLetter, inr18 _ (List.mem_of_getElem? (i := 6) rfl)⟩, List.forall_mem_cons.mpr ⟨⟨okX4_readLetter, inr18 _ (List.mem_of_getElem? (i := 3) rfl)⟩, List.forall_mem_cons.mpr ⟨⟨okX4_readOverlap, inr17 _ (List.mem_of_getElem? (i := 11) rfl)⟩, List.forall_mem_cons.mpr ⟨⟨okX4_readPart, inr17 _ (List.mem_of_getElem? (i := 23) rfl)⟩, List.forall_mem_cons.mpr ⟨⟨okX4_readProduct, inr18 _ (List.mem_of_getElem? (i := 13) rfl)⟩, List.forall_mem_cons.mpr ⟨⟨okX4_readSum, inr16 _ (List.mem_of_getElem? (i := 17) rfl)⟩, List.forall_mem_cons.mpr ⟨⟨okX4_read, inr16 _ (List.mem_of_getElem? (i := 9) rfl)⟩, List.forall_mem_cons.mpr ⟨⟨okX5_init, inr5 _ (List.mem_of_getElem? (i := 18) rfl)⟩, List.forall_mem_cons.mpr ⟨⟨okX5_draw, inr40 _ (List.mem_of_getElem? (i := 6) rfl)⟩, List.forall_mem_cons.mpr ⟨⟨okX8_signsAt, inr18 _ (List.mem_of_getElem? (i := 22) rfl)⟩, List.forall_mem_cons.mpr ⟨⟨okX5_isAppended, inr40 _ (List.mem_of_getElem? (i := 17) rfl)⟩, List.forall_mem_cons.mpr ⟨⟨okX5_isHeld, inr40 _ (List.mem_of_getElem? (i := 23) rfl)⟩, List.forall_mem_cons.mpr ⟨⟨okX5_independent, inr39 _ (List.mem_of_getElem? (i := 23) rfl)⟩, List.forall_mem_cons.mpr ⟨⟨okJ7_fill_d0a16, inr39 _ (List.mem_of_getElem? (i := 0) rfl)⟩, List.forall_mem_cons.mpr ⟨⟨okX5_addWays, inr39 _ (List.mem_of_getElem? (i := 4) rfl)⟩, List.forall_mem_cons.mpr ⟨⟨okX5_ways, inr38 _ (List.mem_of_getElem? (i := 21) rfl)⟩, List.forall_mem_cons.mpr ⟨⟨okX6_init, inr6 _ (List.mem_of_getElem? (i := 6) rfl)⟩, List.forall_mem_cons.mpr ⟨⟨okX6_pointX, inr44 _ (List.mem_of_getElem? (i := 16) rfl)⟩, List.forall_mem_cons.mpr ⟨⟨okX6_pointY, inr44 _ (List.mem_of_getElem? (i := 19) rfl)⟩, List.forall_mem_cons.mpr ⟨⟨okX6_aim, inr44 _ (List.mem_of_getElem? (i := 13) rfl)⟩, List.forall_mem_cons.mpr ⟨⟨okX6_aimAt, inr45 _ (List.mem_of_getElem? (i := 4) rfl)⟩, List.forall_mem_cons.mpr ⟨⟨okX6_valueAt, inr45 _ (List.mem_of_getElem? (i := 12) rfl)⟩, fun _ h => nomatch h⟩⟩⟩⟩⟩⟩⟩⟩⟩⟩⟩⟩⟩⟩⟩⟩⟩⟩⟩⟩⟩⟩⟩⟩⟩⟩⟩⟩⟩⟩
set_option maxRecDepth 100000 in
theorem okmb2 : ∀ e ∈ ml2, okMB e := by unfold okMB; decide +kernel
theorem okml2 : ∀ e ∈ ml2, okM e := fun e h => ⟨(okma2 e h).1, (okma2 e h).2, (okmb2 e h).1, (okmb2 e h).2.1, (okmb2 e h).2.2.1, (okmb2 e h).2.2.2⟩
def ml3 : List mm_T := [(yX6_choose, cX6_choose, 6, (some .int), 6, [], clX6_choose), (yX6_meet, cX6_meet, 10, none, 6, [], clX6_meet), (yX6_run, cX6_run, 7, none, 6, [], clX6_run), (yX7_copyFrom, cX7_copyFrom, 3, none, 7, [], clX7_copyFrom), (yX9_init, cX9_init, 1, none, 9, [], clX9_init), (yX8_init, cX8_init, 2, none, 8, [], clX8_init), (yX8_formAt, cX8_formAt, 2, (some (.object "LetterForms$Form")), 8, [], clX8_formAt), (yX8_tableAt, cX8_tableAt, 2, (some (.object "LetterForms$Table")), 8, [], clX8_tableAt), (yX8_nextForm, cX8_nextForm, 1, (some (.object "LetterForms$Form")), 8, [], clX8_nextForm), (yX8_nextTable, cX8_nextTable, 1, (some (.object "LetterForms$Table")), 8, [], clX8_nextTable), (yX8_nextSigns, cX8_nextSigns, 1, (some (.object "LetterForms$Signs")), 8, [], clX8_nextSigns), (yX8_noughts, cX8_noughts, 4, (some .int), 8, [], clX8_noughts), (yX8_forgetFirst, cX8_forgetFirst, 4, none, 8, [], clX8_forgetFirst), (yX8_write, cX8_write, 4, none, 8, [], clX8_write), (yX8_forgetUndone, cX8_forgetUndone, 1, none, 8, [], clX8_forgetUndone), (yX8_nextBack, cX8_nextBack, 1, (some .int), 8, [], clX8_nextBack), (yX8_nextOn, cX8_nextOn, 1, (some .int), 8, [], clX8_nextOn), (yX8_stepBack, cX8_stepBack, 3, none, 8, [], clX8_stepBack), (yX8_stepOn, cX8_stepOn, 3, none, 8, [], clX8_stepOn), (yX8_copyActs, cX8_copyActs, 5, none, 8, [], clX8_copyActs), (yX8_copyFrom, cX8_copyFrom, 5, none, 8, [], clX8_copyFrom), (yX10_init, cX10_init, 1, none, 10, [], clX10_init), (yX10_isReduced, cX10_isReduced, 1, (some .boolean), 10, [], clX10_isReduced), (yJ9_floorDiv_f86c9, cJ9_floorDiv_f86c9, 6, (some .long), 29, [], clJ9_floorDiv_f86c9), (yX10_shift, cX10_shift, 3, none, 10, [], clX10_shift), (yX10_swap, cX10_swap, 7, none, 10, [], clX10_swap), (yX10_reduce, cX10_reduce, 5, none, 10, [], clX10_reduce), (yX10_turns, cX10_turns, 1, (some .int), 10, [], clX10_turns), (yX10_tell, cX10_tell, 2, (some .long), 10, [], clX10_tell), (yX10_divisor, cX10_divisor, 6, (some .int), 10, [], clX10_divisor)]
set_option maxRecDepth 100000 in
theorem okma3 : ∀ e ∈ ml3, okMA e := List.forall_mem_cons.mpr ⟨⟨okX6_choose, inr45 _ (List.mem_of_getElem? (i := 8) rfl)⟩, List.forall_mem_cons.mpr ⟨⟨okX6_meet, inr45 _ (List.mem_of_getElem? (i := 16) rfl)⟩, List.forall_mem_cons.mpr ⟨⟨okX6_run, inr43 _ (List.mem_of_getElem? (i := 17) rfl)⟩, List.forall_mem_cons.mpr ⟨⟨okX7_copyFrom, inr19 _ (List.mem_of_getElem? (i := 2) rfl)⟩, List.forall_mem_cons.mpr ⟨⟨okX9_init, inr4 _ (List.mem_of_getElem? (i := 19) rfl)⟩, List.forall_mem_cons.mpr ⟨⟨okX8_init, inr3 _ (List.mem_of_getElem? (i := 21) rfl)⟩, List.forall_mem_cons.mpr ⟨⟨okX8_formAt, inr10 _ (List.mem_of_getElem? (i := 21) rfl)⟩, List.forall_mem_cons.mpr ⟨⟨okX8_tableAt, inr14 _ (List.mem_of_getElem? (i := 4) rfl)⟩, List.forall_mem_cons.mpr ⟨⟨okX8_nextForm, inr10 _ (List.mem_of_getElem? (i := 16) rfl)⟩, List.forall_mem_cons.mpr ⟨⟨okX8_nextTable, inr13 _ (List.mem_of_getElem? (i := 23) rfl)⟩, List.forall_mem_cons.mpr ⟨⟨okX8_nextSigns, inr18 _ (List.mem_of_getElem? (i := 17) rfl)⟩, List.forall_mem_cons.mpr ⟨⟨okX8_noughts, inr69 _ (List.mem_of_getElem? (i := 7) rfl)⟩, List.forall_mem_cons.mpr ⟨⟨okX8_forgetFirst, inr28 _ (List.mem_of_getElem? (i := 2) rfl)⟩, List.forall_mem_cons.mpr ⟨⟨okX8_write, inr27 _ (List.mem_of_getElem? (i := 21) rfl)⟩, List.forall_mem_cons.mpr ⟨⟨okX8_forgetUndone, inr12 _ (List.mem_of_getElem? (i := 2) rfl)⟩, List.forall_mem_cons.mpr ⟨⟨okX8_nextBack, inr29 _ (List.mem_of_getElem? (i := 16) rfl)⟩, List.forall_mem_cons.mpr ⟨⟨okX8_nextOn, inr31 _ (List.mem_of_getElem? (i := 0) rfl)⟩, List.forall_mem_cons.mpr ⟨⟨okX8_stepBack, inr29 _ (List.mem_of_getElem? (i := 20) rfl)⟩, List.forall_mem_cons.mpr ⟨⟨okX8_stepOn, inr31 _ (List.mem_of_getElem? (i := 4) rfl)⟩, List.forall_mem_cons.mpr ⟨⟨okX8_copyActs, inr68 _ (List.mem_of_getElem? (i := 6) rfl)⟩, List.forall_mem_cons.mpr ⟨⟨okX8_copyFrom, inr67 _ (List.mem_of_getElem? (i := 22) rfl)⟩, List.forall_mem_cons.mpr ⟨⟨okX10_init, inr6 _ (List.mem_of_getElem? (i := 23) rfl)⟩, List.forall_mem_cons.mpr ⟨⟨okX10_isReduced, inr60 _ (List.mem_of_getElem? (i := 18) rfl)⟩, List.forall_mem_cons.mpr ⟨⟨okJ9_floorDiv_f86c9, inr61 _ (List.mem_of_getElem? (i := 2) rfl)⟩, List.forall_mem_cons.mpr ⟨⟨okX10_shift, inr60 _ (List.mem_of_getElem? (i := 22) rfl)⟩, List.forall_mem_cons.mpr ⟨⟨okX10_swap, inr61 _ (List.mem_of_getElem? (i := 6) rfl)⟩, List.forall_mem_cons.mpr ⟨⟨okX10_reduce, inr60 _ (List.mem_of_getElem? (i := 5) rfl)⟩, List.forall_mem_cons.mpr ⟨⟨okX10_turns, inr61 _ (List.mem_of_getElem? (i := 15) rfl)⟩, List.forall_mem_cons.mpr ⟨⟨okX10_tell, inr61 _ (List.mem_of_getElem? (i := 10) rfl)⟩, List.forall_mem_cons.mpr ⟨⟨okX10_divisor, inr63 _ (List.mem_of_getElem? (i := 21) rfl)⟩, fun _ h => nomatch h⟩⟩⟩⟩⟩⟩⟩⟩⟩⟩⟩⟩⟩⟩⟩⟩⟩⟩⟩⟩⟩⟩⟩⟩⟩⟩⟩⟩⟩⟩
set_option maxRecDepth 100000 in
theorem okmb3 : ∀ e ∈ ml3, okMB e := by unfold okMB; decide +kernel
theorem okml3 : ∀ e ∈ ml3, okM e := fun e h => ⟨(okma3 e h).1, (okma3 e h).2, (okmb3 e h).1, (okmb3 e h).2.1, (okmb3 e h).2.2.1, (okmb3 e h).2.2.2⟩
def ml4 : List mm_T := [(yX10_seek, cX10_seek, 10, (some .int), 10, [], clX10_seek), (yX10_rootsOfCubic, cX10_rootsOfCubic, 10, (some .int), 10, [], clX10_rootsOfCubic), (yX10_differences, cX10_differences, 10, (some .long), 10, [], clX10_differences), (yX10_rootsOfDoubles, cX10_rootsOfDoubles, 4, (some .int), 10, [], clX10_rootsOfDoubles), (yX10_rootsOfQuartic, cX10_rootsOfQuartic, 18, (some .int), 10, [], clX10_rootsOfQuartic), (yX11_init, cX11_init, 1, none, 11, [], clX11_init), (yX11_feed, cX11_feed, 6, (some .int), 11, [], clX11_feed), (yX11_end, cX11_end, 2, (some .boolean), 11, [], clX11_end), (yX11_field, cX11_field, 2, none, 11, [], clX11_field), (yX11_form, cX11_form, 4, (some .int), 11, [], clX11_form), (yX11_table, cX11_table, 6, (some .int), 11, [], clX11_table), (yX11_signs, cX11_signs, 2, (some .int), 11, [], clX11_signs), (yX11_fault, cX11_fault, 1, (some .int), 11, [], clX11_fault), (yX11_toldForm, cX11_toldForm, 3, (some (.object "LetterForms$Form")), 11, [], clX11_toldForm), (yX11_toldTable, cX11_toldTable, 3, (some (.object "LetterForms$Table")), 11, [], clX11_toldTable), (yX11_toldSigns, cX11_toldSigns, 3, (some (.object "LetterForms$Signs")), 11, [], clX11_toldSigns), (yX11_degreeOrNumber, cX11_degreeOrNumber, 2, (some .int), 11, [], clX11_degreeOrNumber), (yX11_look, cX11_look, 3, (some .int), 11, [], clX11_look), (yX11_at, cX11_at, 5, (some .int), 11, [], clX11_at), (yX11_det, cX11_det, 3, (some .int), 11, [], clX11_det), (yX11_told, cX11_told, 4, (some .int), 11, [], clX11_told), (yX11_join, cX11_join, 6, (some .int), 11, [], clX11_join), (yX11_turn, cX11_turn, 5, (some .int), 11, [], clX11_turn), (yX11_mix, cX11_mix, 6, (some .boolean), 11, [], clX11_mix), (yX11_undo, cX11_undo, 3, (some .int), 11, [], clX11_undo), (yX11_redo, cX11_redo, 3, (some .int), 11, [], clX11_redo), (yX11_value, cX11_value, 7, (some .int), 11, [], clX11_value), (yX11_rank, cX11_rank, 3, (some .int), 11, [], clX11_rank), (yX11_stays, cX11_stays, 11, (some .boolean), 11, [], clX11_stays), (yX11_isOneValue, cX11_isOneValue, 7, (some .boolean), 11, [], clX11_isOneValue)]
set_option maxRecDepth 100000 in
theorem okma4 : ∀ e ∈ ml4, okMA e := List.forall_mem_cons.mpr ⟨⟨okX10_seek, inr63 _ (List.mem_of_getElem? (i := 18) rfl)⟩, List.forall_mem_cons.mpr ⟨⟨okX10_rootsOfCubic, inr65 _ (List.mem_of_getElem? (i := 16) rfl)⟩, List.forall_mem_cons.mpr ⟨⟨okX10_differences, inr66 _ (List.mem_of_getElem? (i := 6) rfl)⟩, List.forall_mem_cons.mpr ⟨⟨okX10_rootsOfDoubles, inr66 _ (List.mem_of_getElem? (i := 15) rfl)⟩, List.forall_mem_cons.mpr ⟨⟨okX10_rootsOfQuartic, inr65 _ (List.mem_of_getElem? (i := 23) rfl)⟩, List.forall_mem_cons.mpr ⟨⟨okX11_init, inr1 _ (List.mem_of_getElem? (i := 9) rfl)⟩, List.forall_mem_cons.mpr ⟨⟨okX11_feed, inr8 _ (List.mem_of_getElem? (i := 1) rfl)⟩, List.forall_mem_cons.mpr ⟨⟨okX11_end, inr8 _ (List.mem_of_getElem? (i := 17) rfl)⟩, List.forall_mem_cons.mpr ⟨⟨okX11_field, inr9 _ (List.mem_of_getElem? (i := 7) rfl)⟩, List.forall_mem_cons.mpr ⟨⟨okX11_form, inr10 _ (List.mem_of_getElem? (i := 6) rfl)⟩, List.forall_mem_cons.mpr ⟨⟨okX11_table, inr13 _ (List.mem_of_getElem? (i := 14) rfl)⟩, List.forall_mem_cons.mpr ⟨⟨okX11_signs, inr16 _ (List.mem_of_getElem? (i := 3) rfl)⟩, List.forall_mem_cons.mpr ⟨⟨okX11_fault, inr21 _ (List.mem_of_getElem? (i := 19) rfl)⟩, List.forall_mem_cons.mpr ⟨⟨okX11_toldForm, inr22 _ (List.mem_of_getElem? (i := 11) rfl)⟩, List.forall_mem_cons.mpr ⟨⟨okX11_toldTable, inr25 _ (List.mem_of_getElem? (i := 22) rfl)⟩, List.forall_mem_cons.mpr ⟨⟨okX11_toldSigns, inr31 _ (List.mem_of_getElem? (i := 19) rfl)⟩, List.forall_mem_cons.mpr ⟨⟨okX11_degreeOrNumber, inr22 _ (List.mem_of_getElem? (i := 17) rfl)⟩, List.forall_mem_cons.mpr ⟨⟨okX11_look, inr22 _ (List.mem_of_getElem? (i := 7) rfl)⟩, List.forall_mem_cons.mpr ⟨⟨okX11_at, inr23 _ (List.mem_of_getElem? (i := 21) rfl)⟩, List.forall_mem_cons.mpr ⟨⟨okX11_det, inr25 _ (List.mem_of_getElem? (i := 14) rfl)⟩, List.forall_mem_cons.mpr ⟨⟨okX11_told, inr48 _ (List.mem_of_getElem? (i := 17) rfl)⟩, List.forall_mem_cons.mpr ⟨⟨okX11_join, inr47 _ (List.mem_of_getElem? (i := 18) rfl)⟩, List.forall_mem_cons.mpr ⟨⟨okX11_turn, inr48 _ (List.mem_of_getElem? (i := 5) rfl)⟩, List.forall_mem_cons.mpr ⟨⟨okX11_mix, inr26 _ (List.mem_of_getElem? (i := 22) rfl)⟩, List.forall_mem_cons.mpr ⟨⟨okX11_undo, inr29 _ (List.mem_of_getElem? (i := 12) rfl)⟩, List.forall_mem_cons.mpr ⟨⟨okX11_redo, inr30 _ (List.mem_of_getElem? (i := 20) rfl)⟩, List.forall_mem_cons.mpr ⟨⟨okX11_value, inr31 _ (List.mem_of_getElem? (i := 15) rfl)⟩, List.forall_mem_cons.mpr ⟨⟨okX11_rank, inr36 _ (List.mem_of_getElem? (i := 7) rfl)⟩, List.forall_mem_cons.mpr ⟨⟨okX11_stays, inr37 _ (List.mem_of_getElem? (i := 10) rfl)⟩, List.forall_mem_cons.mpr ⟨⟨okX11_isOneValue, inr38 _ (List.mem_of_getElem? (i := 6) rfl)⟩, fun _ h => nomatch h⟩⟩⟩⟩⟩⟩⟩⟩⟩⟩⟩⟩⟩⟩⟩⟩⟩⟩⟩⟩⟩⟩⟩⟩⟩⟩⟩⟩⟩⟩
set_option maxRecDepth 100000 in
theorem okmb4 : ∀ e ∈ ml4, okMB e := by unfold okMB; decide +kernel
theorem okml4 : ∀ e ∈ ml4, okM e := fun e h => ⟨(okma4 e h).1, (okma4 e h).2, (okmb4 e h).1, (okmb4 e h).2.1, (okmb4 e h).2.2.1, (okmb4 e h).2.2.2⟩
def ml5 : List mm_T := [(yX11_agree, cX11_agree, 8, (some .int), 11, [], clX11_agree), (yX11_count, cX11_count, 5, (some .long), 11, [], clX11_count), (yJ6_bitCount_0f7a4, cJ6_bitCount_0f7a4, 1, (some .int), 26, [], clJ6_bitCount_0f7a4), (yX11_span, cX11_span, 5, (some .int), 11, [], clX11_span), (yX11_basis, cX11_basis, 4, (some .int), 11, [], clX11_basis), (yX11_root, cX11_root, 4, (some .int), 11, [], clX11_root), (yX11_roots, cX11_roots, 5, (some .int), 11, [], clX11_roots), (yX11_empty, cX11_empty, 4, (some .boolean), 11, [], clX11_empty), (yX11_same, cX11_same, 5, (some .int), 11, [], clX11_same), (yX11_keep, cX11_keep, 3, (some .int), 11, [], clX11_keep), (yX11_kind, cX11_kind, 5, (some .int), 11, [], clX11_kind), (yX11_orbit, cX11_orbit, 3, (some .int), 11, [], clX11_orbit), (yX11_powers, cX11_powers, 4, (some .int), 11, [], clX11_powers), (yX11_common, cX11_common, 6, (some .int), 11, [], clX11_common), (yX11_quotient, cX11_quotient, 6, (some .int), 11, [], clX11_quotient), (yX11_plain, cX11_plain, 3, (some .boolean), 11, [], clX11_plain), (yX11_overlap, cX11_overlap, 7, (some .int), 11, [], clX11_overlap), (yX11_isWhole, cX11_isWhole, 2, (some .boolean), 11, [], clX11_isWhole), (yX11_reduced, cX11_reduced, 5, (some .long), 11, [], clX11_reduced), (yJ9_floorMod_7cf53, cJ9_floorMod_7cf53, 3, (some .int), 29, [], clJ9_floorMod_7cf53), (yX11_isDisc, cX11_isDisc, 1, (some .boolean), 11, [], clX11_isDisc), (yX11_classes, cX11_classes, 3, (some .int), 11, [], clX11_classes), (yX11_reducedAt, cX11_reducedAt, 5, (some .int), 11, [], clX11_reducedAt), (yX11_real, cX11_real, 7, (some .int), 11, [], clX11_real), (yX11_image, cX11_image, 1, none, 11, [], clX11_image), (yX11_back, cX11_back, 1, (some .boolean), 11, [], clX11_back), (yX11_stock, cX11_stock, 2, (some .int), 11, [], clX11_stock), (yX12_thrown, cX12_thrown, 1, (some .int), 12, [], clX12_thrown), (yX12_throwsIf, cX12_throwsIf, 3, (some .boolean), 12, [], clX12_throwsIf), (yX12_in, cX12_in, 3, (some .boolean), 12, [], clX12_in)]
set_option maxRecDepth 100000 in
theorem okma5 : ∀ e ∈ ml5, okMA e := List.forall_mem_cons.mpr ⟨⟨okX11_agree, inr38 _ (List.mem_of_getElem? (i := 2) rfl)⟩, List.forall_mem_cons.mpr ⟨⟨okX11_count, inr38 _ (List.mem_of_getElem? (i := 17) rfl)⟩, List.forall_mem_cons.mpr ⟨⟨okJ6_bitCount_0f7a4, inr41 _ (List.mem_of_getElem? (i := 12) rfl)⟩, List.forall_mem_cons.mpr ⟨⟨okX11_span, inr39 _ (List.mem_of_getElem? (i := 19) rfl)⟩, List.forall_mem_cons.mpr ⟨⟨okX11_basis, inr43 _ (List.mem_of_getElem? (i := 1) rfl)⟩, List.forall_mem_cons.mpr ⟨⟨okX11_root, inr52 _ (List.mem_of_getElem? (i := 0) rfl)⟩, List.forall_mem_cons.mpr ⟨⟨okX11_roots, inr53 _ (List.mem_of_getElem? (i := 4) rfl)⟩, List.forall_mem_cons.mpr ⟨⟨okX11_empty, inr53 _ (List.mem_of_getElem? (i := 15) rfl)⟩, List.forall_mem_cons.mpr ⟨⟨okX11_same, inr54 _ (List.mem_of_getElem? (i := 2) rfl)⟩, List.forall_mem_cons.mpr ⟨⟨okX11_keep, inr54 _ (List.mem_of_getElem? (i := 14) rfl)⟩, List.forall_mem_cons.mpr ⟨⟨okX11_kind, inr43 _ (List.mem_of_getElem? (i := 12) rfl)⟩, List.forall_mem_cons.mpr ⟨⟨okX11_orbit, inr46 _ (List.mem_of_getElem? (i := 22) rfl)⟩, List.forall_mem_cons.mpr ⟨⟨okX11_powers, inr55 _ (List.mem_of_getElem? (i := 1) rfl)⟩, List.forall_mem_cons.mpr ⟨⟨okX11_common, inr58 _ (List.mem_of_getElem? (i := 16) rfl)⟩, List.forall_mem_cons.mpr ⟨⟨okX11_quotient, inr49 _ (List.mem_of_getElem? (i := 4) rfl)⟩, List.forall_mem_cons.mpr ⟨⟨okX11_plain, inr50 _ (List.mem_of_getElem? (i := 15) rfl)⟩, List.forall_mem_cons.mpr ⟨⟨okX11_overlap, inr59 _ (List.mem_of_getElem? (i := 7) rfl)⟩, List.forall_mem_cons.mpr ⟨⟨okX11_isWhole, inr60 _ (List.mem_of_getElem? (i := 1) rfl)⟩, List.forall_mem_cons.mpr ⟨⟨okX11_reduced, inr59 _ (List.mem_of_getElem? (i := 20) rfl)⟩, List.forall_mem_cons.mpr ⟨⟨okJ9_floorMod_7cf53, inr63 _ (List.mem_of_getElem? (i := 14) rfl)⟩, List.forall_mem_cons.mpr ⟨⟨okX11_isDisc, inr63 _ (List.mem_of_getElem? (i := 11) rfl)⟩, List.forall_mem_cons.mpr ⟨⟨okX11_classes, inr63 _ (List.mem_of_getElem? (i := 8) rfl)⟩, List.forall_mem_cons.mpr ⟨⟨okX11_reducedAt, inr65 _ (List.mem_of_getElem? (i := 2) rfl)⟩, List.forall_mem_cons.mpr ⟨⟨okX11_real, inr65 _ (List.mem_of_getElem? (i := 13) rfl)⟩, List.forall_mem_cons.mpr ⟨⟨okX11_image, inr67 _ (List.mem_of_getElem? (i := 17) rfl)⟩, List.forall_mem_cons.mpr ⟨⟨okX11_back, inr68 _ (List.mem_of_getElem? (i := 17) rfl)⟩, List.forall_mem_cons.mpr ⟨⟨okX11_stock, inr69 _ (List.mem_of_getElem? (i := 1) rfl)⟩, List.forall_mem_cons.mpr ⟨⟨okX12_thrown, inr59 _ (List.mem_of_getElem? (i := 0) rfl)⟩, List.forall_mem_cons.mpr ⟨⟨okX12_throwsIf, inr9 _ (List.mem_of_getElem? (i := 22) rfl)⟩, List.forall_mem_cons.mpr ⟨⟨okX12_in, inr12 _ (List.mem_of_getElem? (i := 16) rfl)⟩, fun _ h => nomatch h⟩⟩⟩⟩⟩⟩⟩⟩⟩⟩⟩⟩⟩⟩⟩⟩⟩⟩⟩⟩⟩⟩⟩⟩⟩⟩⟩⟩⟩⟩
set_option maxRecDepth 100000 in
theorem okmb5 : ∀ e ∈ ml5, okMB e := by unfold okMB; decide +kernel
theorem okml5 : ∀ e ∈ ml5, okM e := fun e h => ⟨(okma5 e h).1, (okma5 e h).2, (okmb5 e h).1, (okmb5 e h).2.1, (okmb5 e h).2.2.1, (okmb5 e h).2.2.2⟩
def ml6 : List mm_T := [(yX12_init, cX12_init, 1, none, 12, [], clX12_init), (yX12_image, cX12_image, 2, none, 12, [], clX12_image), (yX12_back, cX12_back, 2, (some .boolean), 12, [], clX12_back), (yX12_p, cX12_p, 1, (some .int), 12, [], clX12_p), (yX12_noForm, cX12_noForm, 2, (some .boolean), 12, [], clX12_noForm), (yX12_noTable, cX12_noTable, 2, (some .boolean), 12, [], clX12_noTable), (yX12_noSigns, cX12_noSigns, 2, (some .boolean), 12, [], clX12_noSigns), (yX12_formAt, cX12_formAt, 1, (some .int), 12, [], clX12_formAt), (yX12_degreeOf, cX12_degreeOf, 2, (some .int), 12, [], clX12_degreeOf), (yX12_numberOf, cX12_numberOf, 3, (some .int), 12, [], clX12_numberOf), (yX12_ofTable, cX12_ofTable, 3, (some .int), 12, [], clX12_ofTable), (yJ9_floorMod_f86c9, cJ9_floorMod_f86c9, 6, (some .long), 29, [], clJ9_floorMod_f86c9), (yX12_mod, cX12_mod, 3, (some .int), 12, [], clX12_mod), (yX12_times, cX12_times, 3, (some .int), 12, [], clX12_times), (yX12_plus, cX12_plus, 3, (some .int), 12, [], clX12_plus), (yX12_less, cX12_less, 3, (some .int), 12, [], clX12_less), (yX12_power, cX12_power, 5, (some .int), 12, [], clX12_power), (yX12_inverse, cX12_inverse, 2, (some .int), 12, [], clX12_inverse), (yX12_of, cX12_of, 3, (some .int), 12, [], clX12_of), (yX12_put, cX12_put, 4, none, 12, [], clX12_put), (yX12_takes, cX12_takes, 4, none, 12, [], clX12_takes), (yX12_copies, cX12_copies, 4, none, 12, [], clX12_copies), (yX12_clears, cX12_clears, 4, none, 12, [], clX12_clears), (yX12_isNought, cX12_isNought, 4, (some .boolean), 12, [], clX12_isNought), (yX12_isLike, cX12_isLike, 5, (some .boolean), 12, [], clX12_isLike), (yX12_multiplies, cX12_multiplies, 6, none, 12, [], clX12_multiplies), (yX12_differs, cX12_differs, 7, (some .int), 12, [], clX12_differs), (yX12_differentiates, cX12_differentiates, 6, none, 12, [], clX12_differentiates), (yX12_over, cX12_over, 4, (some .int), 12, [], clX12_over), (yX12_overlaps, cX12_overlaps, 8, none, 12, [], clX12_overlaps)]
set_option maxRecDepth 100000 in
theorem okma6 : ∀ e ∈ ml6, okMA e := List.forall_mem_cons.mpr ⟨⟨okX12_init, inr7 _ (List.mem_of_getElem? (i := 3) rfl)⟩, List.forall_mem_cons.mpr ⟨⟨okX12_image, inr68 _ (List.mem_of_getElem? (i := 12) rfl)⟩, List.forall_mem_cons.mpr ⟨⟨okX12_back, inr68 _ (List.mem_of_getElem? (i := 21) rfl)⟩, List.forall_mem_cons.mpr ⟨⟨okX12_p, inr13 _ (List.mem_of_getElem? (i := 3) rfl)⟩, List.forall_mem_cons.mpr ⟨⟨okX12_noForm, inr23 _ (List.mem_of_getElem? (i := 6) rfl)⟩, List.forall_mem_cons.mpr ⟨⟨okX12_noTable, inr26 _ (List.mem_of_getElem? (i := 7) rfl)⟩, List.forall_mem_cons.mpr ⟨⟨okX12_noSigns, inr34 _ (List.mem_of_getElem? (i := 5) rfl)⟩, List.forall_mem_cons.mpr ⟨⟨okX12_formAt, inr12 _ (List.mem_of_getElem? (i := 19) rfl)⟩, List.forall_mem_cons.mpr ⟨⟨okX12_degreeOf, inr23 _ (List.mem_of_getElem? (i := 10) rfl)⟩, List.forall_mem_cons.mpr ⟨⟨okX12_numberOf, inr23 _ (List.mem_of_getElem? (i := 14) rfl)⟩, List.forall_mem_cons.mpr ⟨⟨okX12_ofTable, inr26 _ (List.mem_of_getElem? (i := 15) rfl)⟩, List.forall_mem_cons.mpr ⟨⟨okJ9_floorMod_f86c9, inr13 _ (List.mem_of_getElem? (i := 7) rfl)⟩, List.forall_mem_cons.mpr ⟨⟨okX12_mod, inr12 _ (List.mem_of_getElem? (i := 23) rfl)⟩, List.forall_mem_cons.mpr ⟨⟨okX12_times, inr15 _ (List.mem_of_getElem? (i := 12) rfl)⟩, List.forall_mem_cons.mpr ⟨⟨okX12_plus, inr25 _ (List.mem_of_getElem? (i := 7) rfl)⟩, List.forall_mem_cons.mpr ⟨⟨okX12_less, inr15 _ (List.mem_of_getElem? (i := 16) rfl)⟩, List.forall_mem_cons.mpr ⟨⟨okX12_power, inr25 _ (List.mem_of_getElem? (i := 3) rfl)⟩, List.forall_mem_cons.mpr ⟨⟨okX12_inverse, inr30 _ (List.mem_of_getElem? (i := 16) rfl)⟩, List.forall_mem_cons.mpr ⟨⟨okX12_of, inr24 _ (List.mem_of_getElem? (i := 23) rfl)⟩, List.forall_mem_cons.mpr ⟨⟨okX12_put, inr24 _ (List.mem_of_getElem? (i := 15) rfl)⟩, List.forall_mem_cons.mpr ⟨⟨okX12_takes, inr24 _ (List.mem_of_getElem? (i := 11) rfl)⟩, List.forall_mem_cons.mpr ⟨⟨okX12_copies, inr34 _ (List.mem_of_getElem? (i := 21) rfl)⟩, List.forall_mem_cons.mpr ⟨⟨okX12_clears, inr29 _ (List.mem_of_getElem? (i := 0) rfl)⟩, List.forall_mem_cons.mpr ⟨⟨okX12_isNought, inr46 _ (List.mem_of_getElem? (i := 7) rfl)⟩, List.forall_mem_cons.mpr ⟨⟨okX12_isLike, inr29 _ (List.mem_of_getElem? (i := 8) rfl)⟩, List.forall_mem_cons.mpr ⟨⟨okX12_multiplies, inr35 _ (List.mem_of_getElem? (i := 9) rfl)⟩, List.forall_mem_cons.mpr ⟨⟨okX12_differs, inr35 _ (List.mem_of_getElem? (i := 21) rfl)⟩, List.forall_mem_cons.mpr ⟨⟨okX12_differentiates, inr35 _ (List.mem_of_getElem? (i := 17) rfl)⟩, List.forall_mem_cons.mpr ⟨⟨okX12_over, inr36 _ (List.mem_of_getElem? (i := 0) rfl)⟩, List.forall_mem_cons.mpr ⟨⟨okX12_overlaps, inr35 _ (List.mem_of_getElem? (i := 13) rfl)⟩, fun _ h => nomatch h⟩⟩⟩⟩⟩⟩⟩⟩⟩⟩⟩⟩⟩⟩⟩⟩⟩⟩⟩⟩⟩⟩⟩⟩⟩⟩⟩⟩⟩⟩
set_option maxRecDepth 100000 in
theorem okmb6 : ∀ e ∈ ml6, okMB e := by unfold okMB; decide +kernel
theorem okml6 : ∀ e ∈ ml6, okM e := fun e h => ⟨(okma6 e h).1, (okma6 e h).2, (okmb6 e h).1, (okmb6 e h).2.1, (okmb6 e h).2.2.1, (okmb6 e h).2.2.2⟩
def ml7 : List mm_T := [(yX12_takesTable, cX12_takesTable, 5, none, 12, [], clX12_takesTable), (yX12_tables, cX12_tables, 2, none, 12, [], clX12_tables), (yX12_detNow, cX12_detNow, 1, (some .int), 12, [], clX12_detNow), (yX12_widens, cX12_widens, 5, none, 12, [], clX12_widens), (yX12_mixes, cX12_mixes, 6, none, 12, [], clX12_mixes), (yX12_valueAt, cX12_valueAt, 6, (some .int), 12, [], clX12_valueAt), (yX12_feed, cX12_feed, 7, (some .int), 12, [], clX12_feed), (yX12_end, cX12_end, 2, (some .boolean), 12, [], clX12_end), (yX12_isAt, cX12_isAt, 3, (some .boolean), 12, [], clX12_isAt), (yX12_blanks, cX12_blanks, 1, none, 12, [], clX12_blanks), (yX12_has, cX12_has, 2, (some .boolean), 12, [], clX12_has), (yX12_counts, cX12_counts, 2, (some .boolean), 12, [], clX12_counts), (yX12_number, cX12_number, 3, (some .int), 12, [], clX12_number), (yX12_fault, cX12_fault, 1, (some .int), 12, [], clX12_fault), (yX12_emits, cX12_emits, 3, (some .boolean), 12, [], clX12_emits), (yX12_deeper, cX12_deeper, 1, (some .boolean), 12, [], clX12_deeper), (yX12_readOverlap, cX12_readOverlap, 2, (some .boolean), 12, [], clX12_readOverlap), (yX12_readProduct, cX12_readProduct, 1, (some .boolean), 12, [], clX12_readProduct), (yX12_readSum, cX12_readSum, 1, (some .boolean), 12, [], clX12_readSum), (yX12_readUnit, cX12_readUnit, 2, (some .boolean), 12, [], clX12_readUnit), (yX12_uses, cX12_uses, 1, none, 12, [], clX12_uses), (yX12_signs, cX12_signs, 4, (some .int), 12, [], clX12_signs), (yX12_field, cX12_field, 2, none, 12, [], clX12_field), (yX12_form, cX12_form, 3, (some .int), 12, [], clX12_form), (yX12_lays, cX12_lays, 2, (some .int), 12, [], clX12_lays), (yX12_table, cX12_table, 5, (some .int), 12, [], clX12_table), (yX12_join, cX12_join, 7, (some .int), 12, [], clX12_join), (yX12_turnsBack, cX12_turnsBack, 2, none, 12, [], clX12_turnsBack), (yX12_turn, cX12_turn, 2, (some .int), 12, [], clX12_turn), (yX12_told, cX12_told, 3, (some .int), 12, [], clX12_told)]
set_option maxRecDepth 100000 in
theorem okma7 : ∀ e ∈ ml7, okMA e := List.forall_mem_cons.mpr ⟨⟨okX12_takesTable, inr15 _ (List.mem_of_getElem? (i := 0) rfl)⟩, List.forall_mem_cons.mpr ⟨⟨okX12_tables, inr26 _ (List.mem_of_getElem? (i := 11) rfl)⟩, List.forall_mem_cons.mpr ⟨⟨okX12_detNow, inr15 _ (List.mem_of_getElem? (i := 8) rfl)⟩, List.forall_mem_cons.mpr ⟨⟨okX12_widens, inr29 _ (List.mem_of_getElem? (i := 4) rfl)⟩, List.forall_mem_cons.mpr ⟨⟨okX12_mixes, inr28 _ (List.mem_of_getElem? (i := 20) rfl)⟩, List.forall_mem_cons.mpr ⟨⟨okX12_valueAt, inr24 _ (List.mem_of_getElem? (i := 19) rfl)⟩, List.forall_mem_cons.mpr ⟨⟨okX12_feed, inr8 _ (List.mem_of_getElem? (i := 11) rfl)⟩, List.forall_mem_cons.mpr ⟨⟨okX12_end, inr8 _ (List.mem_of_getElem? (i := 21) rfl)⟩, List.forall_mem_cons.mpr ⟨⟨okX12_isAt, inr20 _ (List.mem_of_getElem? (i := 14) rfl)⟩, List.forall_mem_cons.mpr ⟨⟨okX12_blanks, inr20 _ (List.mem_of_getElem? (i := 10) rfl)⟩, List.forall_mem_cons.mpr ⟨⟨okX12_has, inr21 _ (List.mem_of_getElem? (i := 3) rfl)⟩, List.forall_mem_cons.mpr ⟨⟨okX12_counts, inr20 _ (List.mem_of_getElem? (i := 6) rfl)⟩, List.forall_mem_cons.mpr ⟨⟨okX12_number, inr21 _ (List.mem_of_getElem? (i := 7) rfl)⟩, List.forall_mem_cons.mpr ⟨⟨okX12_fault, inr21 _ (List.mem_of_getElem? (i := 23) rfl)⟩, List.forall_mem_cons.mpr ⟨⟨okX12_emits, inr20 _ (List.mem_of_getElem? (i := 18) rfl)⟩, List.forall_mem_cons.mpr ⟨⟨okX12_deeper, inr20 _ (List.mem_of_getElem? (i := 23) rfl)⟩, List.forall_mem_cons.mpr ⟨⟨okX12_readOverlap, inr20 _ (List.mem_of_getElem? (i := 19) rfl)⟩, List.forall_mem_cons.mpr ⟨⟨okX12_readProduct, inr21 _ (List.mem_of_getElem? (i := 8) rfl)⟩, List.forall_mem_cons.mpr ⟨⟨okX12_readSum, inr19 _ (List.mem_of_getElem? (i := 23) rfl)⟩, List.forall_mem_cons.mpr ⟨⟨okX12_readUnit, inr21 _ (List.mem_of_getElem? (i := 12) rfl)⟩, List.forall_mem_cons.mpr ⟨⟨okX12_uses, inr12 _ (List.mem_of_getElem? (i := 12) rfl)⟩, List.forall_mem_cons.mpr ⟨⟨okX12_signs, inr19 _ (List.mem_of_getElem? (i := 15) rfl)⟩, List.forall_mem_cons.mpr ⟨⟨okX12_field, inr9 _ (List.mem_of_getElem? (i := 18) rfl)⟩, List.forall_mem_cons.mpr ⟨⟨okX12_form, inr12 _ (List.mem_of_getElem? (i := 7) rfl)⟩, List.forall_mem_cons.mpr ⟨⟨okX12_lays, inr15 _ (List.mem_of_getElem? (i := 20) rfl)⟩, List.forall_mem_cons.mpr ⟨⟨okX12_table, inr14 _ (List.mem_of_getElem? (i := 20) rfl)⟩, List.forall_mem_cons.mpr ⟨⟨okX12_join, inr47 _ (List.mem_of_getElem? (i := 22) rfl)⟩, List.forall_mem_cons.mpr ⟨⟨okX12_turnsBack, inr30 _ (List.mem_of_getElem? (i := 12) rfl)⟩, List.forall_mem_cons.mpr ⟨⟨okX12_turn, inr48 _ (List.mem_of_getElem? (i := 10) rfl)⟩, List.forall_mem_cons.mpr ⟨⟨okX12_told, inr48 _ (List.mem_of_getElem? (i := 21) rfl)⟩, fun _ h => nomatch h⟩⟩⟩⟩⟩⟩⟩⟩⟩⟩⟩⟩⟩⟩⟩⟩⟩⟩⟩⟩⟩⟩⟩⟩⟩⟩⟩⟩⟩⟩
set_option maxRecDepth 100000 in
theorem okmb7 : ∀ e ∈ ml7, okMB e := by unfold okMB; decide +kernel
theorem okml7 : ∀ e ∈ ml7, okM e := fun e h => ⟨(okma7 e h).1, (okma7 e h).2, (okmb7 e h).1, (okmb7 e h).2.1, (okmb7 e h).2.2.1, (okmb7 e h).2.2.2⟩
def ml8 : List mm_T := [(yX12_det, cX12_det, 2, (some .int), 12, [], clX12_det), (yX12_look, cX12_look, 3, (some .int), 12, [], clX12_look), (yX12_at, cX12_at, 4, (some .int), 12, [], clX12_at), (yX12_mixesForm, cX12_mixesForm, 3, (some .boolean), 12, [], clX12_mixesForm), (yX12_mix, cX12_mix, 5, (some .boolean), 12, [], clX12_mix), (yX12_again, cX12_again, 4, (some .int), 12, [], clX12_again), (yX12_undo, cX12_undo, 1, (some .int), 12, [], clX12_undo), (yX12_redo, cX12_redo, 1, (some .int), 12, [], clX12_redo), (yX12_stepOf, cX12_stepOf, 3, (some .int), 12, [], clX12_stepOf), (yX12_toldBy, cX12_toldBy, 3, (some .int), 12, [], clX12_toldBy), (yX12_stepsOf, cX12_stepsOf, 2, (some .int), 12, [], clX12_stepsOf), (yX12_joins, cX12_joins, 6, (some .boolean), 12, [], clX12_joins), (yX12_makes, cX12_makes, 6, (some .boolean), 12, [], clX12_makes), (yX12_value, cX12_value, 4, (some .int), 12, [], clX12_value), (yX12_rankOf, cX12_rankOf, 9, (some .int), 12, [], clX12_rankOf), (yX12_rank, cX12_rank, 3, (some .int), 12, [], clX12_rank), (yX12_stays, cX12_stays, 7, (some .boolean), 12, [], clX12_stays), (yX12_agree, cX12_agree, 7, (some .int), 12, [], clX12_agree), (yX12_waysOf, cX12_waysOf, 7, (some .long), 12, [], clX12_waysOf), (yX12_count, cX12_count, 5, (some .long), 12, [], clX12_count), (yX12_draws, cX12_draws, 5, none, 12, [], clX12_draws), (yX12_rowOf, cX12_rowOf, 7, (some .boolean), 12, [], clX12_rowOf), (yX12_firstOf, cX12_firstOf, 3, (some .int), 12, [], clX12_firstOf), (yX12_isNew, cX12_isNew, 7, (some .boolean), 12, [], clX12_isNew), (yX12_basisOf, cX12_basisOf, 8, (some .int), 12, [], clX12_basisOf), (yX12_span, cX12_span, 5, (some .int), 12, [], clX12_span), (yX12_basis, cX12_basis, 4, (some .int), 12, [], clX12_basis), (yX12_noPoint, cX12_noPoint, 2, (some .boolean), 12, [], clX12_noPoint), (yX12_oftenRoot, cX12_oftenRoot, 5, (some .int), 12, [], clX12_oftenRoot), (yX12_root, cX12_root, 3, (some .int), 12, [], clX12_root)]
set_option maxRecDepth 100000 in
theorem okma8 : ∀ e ∈ ml8, okMA e := List.forall_mem_cons.mpr ⟨⟨okX12_det, inr26 _ (List.mem_of_getElem? (i := 3) rfl)⟩, List.forall_mem_cons.mpr ⟨⟨okX12_look, inr23 _ (List.mem_of_getElem? (i := 2) rfl)⟩, List.forall_mem_cons.mpr ⟨⟨okX12_at, inr24 _ (List.mem_of_getElem? (i := 7) rfl)⟩, List.forall_mem_cons.mpr ⟨⟨okX12_mixesForm, inr28 _ (List.mem_of_getElem? (i := 16) rfl)⟩, List.forall_mem_cons.mpr ⟨⟨okX12_mix, inr28 _ (List.mem_of_getElem? (i := 12) rfl)⟩, List.forall_mem_cons.mpr ⟨⟨okX12_again, inr30 _ (List.mem_of_getElem? (i := 8) rfl)⟩, List.forall_mem_cons.mpr ⟨⟨okX12_undo, inr30 _ (List.mem_of_getElem? (i := 4) rfl)⟩, List.forall_mem_cons.mpr ⟨⟨okX12_redo, inr31 _ (List.mem_of_getElem? (i := 8) rfl)⟩, List.forall_mem_cons.mpr ⟨⟨okX12_stepOf, inr34 _ (List.mem_of_getElem? (i := 17) rfl)⟩, List.forall_mem_cons.mpr ⟨⟨okX12_toldBy, inr35 _ (List.mem_of_getElem? (i := 1) rfl)⟩, List.forall_mem_cons.mpr ⟨⟨okX12_stepsOf, inr34 _ (List.mem_of_getElem? (i := 13) rfl)⟩, List.forall_mem_cons.mpr ⟨⟨okX12_joins, inr35 _ (List.mem_of_getElem? (i := 5) rfl)⟩, List.forall_mem_cons.mpr ⟨⟨okX12_makes, inr34 _ (List.mem_of_getElem? (i := 9) rfl)⟩, List.forall_mem_cons.mpr ⟨⟨okX12_value, inr34 _ (List.mem_of_getElem? (i := 1) rfl)⟩, List.forall_mem_cons.mpr ⟨⟨okX12_rankOf, inr37 _ (List.mem_of_getElem? (i := 3) rfl)⟩, List.forall_mem_cons.mpr ⟨⟨okX12_rank, inr36 _ (List.mem_of_getElem? (i := 23) rfl)⟩, List.forall_mem_cons.mpr ⟨⟨okX12_stays, inr37 _ (List.mem_of_getElem? (i := 19) rfl)⟩, List.forall_mem_cons.mpr ⟨⟨okX12_agree, inr38 _ (List.mem_of_getElem? (i := 10) rfl)⟩, List.forall_mem_cons.mpr ⟨⟨okX12_waysOf, inr39 _ (List.mem_of_getElem? (i := 12) rfl)⟩, List.forall_mem_cons.mpr ⟨⟨okX12_count, inr39 _ (List.mem_of_getElem? (i := 8) rfl)⟩, List.forall_mem_cons.mpr ⟨⟨okX12_draws, inr42 _ (List.mem_of_getElem? (i := 3) rfl)⟩, List.forall_mem_cons.mpr ⟨⟨okX12_rowOf, inr42 _ (List.mem_of_getElem? (i := 8) rfl)⟩, List.forall_mem_cons.mpr ⟨⟨okX12_firstOf, inr42 _ (List.mem_of_getElem? (i := 17) rfl)⟩, List.forall_mem_cons.mpr ⟨⟨okX12_isNew, inr42 _ (List.mem_of_getElem? (i := 13) rfl)⟩, List.forall_mem_cons.mpr ⟨⟨okX12_basisOf, inr41 _ (List.mem_of_getElem? (i := 23) rfl)⟩, List.forall_mem_cons.mpr ⟨⟨okX12_span, inr41 _ (List.mem_of_getElem? (i := 19) rfl)⟩, List.forall_mem_cons.mpr ⟨⟨okX12_basis, inr43 _ (List.mem_of_getElem? (i := 5) rfl)⟩, List.forall_mem_cons.mpr ⟨⟨okX12_noPoint, inr52 _ (List.mem_of_getElem? (i := 17) rfl)⟩, List.forall_mem_cons.mpr ⟨⟨okX12_oftenRoot, inr52 _ (List.mem_of_getElem? (i := 21) rfl)⟩, List.forall_mem_cons.mpr ⟨⟨okX12_root, inr52 _ (List.mem_of_getElem? (i := 13) rfl)⟩, fun _ h => nomatch h⟩⟩⟩⟩⟩⟩⟩⟩⟩⟩⟩⟩⟩⟩⟩⟩⟩⟩⟩⟩⟩⟩⟩⟩⟩⟩⟩⟩⟩⟩
set_option maxRecDepth 100000 in
theorem okmb8 : ∀ e ∈ ml8, okMB e := by unfold okMB; decide +kernel
theorem okml8 : ∀ e ∈ ml8, okM e := fun e h => ⟨(okma8 e h).1, (okma8 e h).2, (okmb8 e h).1, (okmb8 e h).2.1, (okmb8 e h).2.2.1, (okmb8 e h).2.2.2⟩
def ml9 : List mm_T := [(yX12_roots, cX12_roots, 4, (some .int), 12, [], clX12_roots), (yX12_empty, cX12_empty, 4, (some .boolean), 12, [], clX12_empty), (yX12_values, cX12_values, 4, none, 12, [], clX12_values), (yX12_tried, cX12_tried, 9, (some .int), 12, [], clX12_tried), (yX12_sameOf, cX12_sameOf, 3, (some .int), 12, [], clX12_sameOf), (yX12_same, cX12_same, 3, (some .int), 12, [], clX12_same), (yX12_allTables, cX12_allTables, 1, (some .int), 12, [], clX12_allTables), (yX12_keeps, cX12_keeps, 2, (some .int), 12, [], clX12_keeps), (yX12_keep, cX12_keep, 2, (some .int), 12, [], clX12_keep), (yX12_orbit, cX12_orbit, 2, (some .int), 12, [], clX12_orbit), (yX12_kind, cX12_kind, 3, (some .int), 12, [], clX12_kind), (yX12_powerAt, cX12_powerAt, 3, (some .int), 12, [], clX12_powerAt), (yX12_raises, cX12_raises, 4, none, 12, [], clX12_raises), (yX12_isLast, cX12_isLast, 6, (some .boolean), 12, [], clX12_isLast), (yX12_isPair, cX12_isPair, 3, (some .boolean), 12, [], clX12_isPair), (yX12_isTriple, cX12_isTriple, 2, (some .boolean), 12, [], clX12_isTriple), (yX12_isSum, cX12_isSum, 5, (some .boolean), 12, [], clX12_isSum), (yX12_powers, cX12_powers, 3, (some .int), 12, [], clX12_powers), (yX12_strips, cX12_strips, 4, (some .int), 12, [], clX12_strips), (yX12_divides, cX12_divides, 8, none, 12, [], clX12_divides), (yX12_commons, cX12_commons, 5, none, 12, [], clX12_commons), (yX12_toldOf, cX12_toldOf, 3, (some .int), 12, [], clX12_toldOf), (yX12_common, cX12_common, 4, (some .int), 12, [], clX12_common), (yX12_hasQuotient, cX12_hasQuotient, 4, (some .boolean), 12, [], clX12_hasQuotient), (yX12_quotient, cX12_quotient, 4, (some .int), 12, [], clX12_quotient), (yX12_plain, cX12_plain, 2, (some .boolean), 12, [], clX12_plain), (yX12_overlap, cX12_overlap, 5, (some .int), 12, [], clX12_overlap), (yX12_joinsWhole, cX12_joinsWhole, 17, none, 12, [], clX12_joinsWhole), (yX12_isWide, cX12_isWide, 1, (some .boolean), 12, [], clX12_isWide), (yX12_isTurned, cX12_isTurned, 1, (some .boolean), 12, [], clX12_isTurned)]
set_option maxRecDepth 100000 in
theorem okma9 : ∀ e ∈ ml9, okMA e := List.forall_mem_cons.mpr ⟨⟨okX12_roots, inr53 _ (List.mem_of_getElem? (i := 8) rfl)⟩, List.forall_mem_cons.mpr ⟨⟨okX12_empty, inr53 _ (List.mem_of_getElem? (i := 19) rfl)⟩, List.forall_mem_cons.mpr ⟨⟨okX12_values, inr46 _ (List.mem_of_getElem? (i := 15) rfl)⟩, List.forall_mem_cons.mpr ⟨⟨okX12_tried, inr46 _ (List.mem_of_getElem? (i := 11) rfl)⟩, List.forall_mem_cons.mpr ⟨⟨okX12_sameOf, inr46 _ (List.mem_of_getElem? (i := 3) rfl)⟩, List.forall_mem_cons.mpr ⟨⟨okX12_same, inr54 _ (List.mem_of_getElem? (i := 7) rfl)⟩, List.forall_mem_cons.mpr ⟨⟨okX12_allTables, inr47 _ (List.mem_of_getElem? (i := 7) rfl)⟩, List.forall_mem_cons.mpr ⟨⟨okX12_keeps, inr47 _ (List.mem_of_getElem? (i := 11) rfl)⟩, List.forall_mem_cons.mpr ⟨⟨okX12_keep, inr54 _ (List.mem_of_getElem? (i := 18) rfl)⟩, List.forall_mem_cons.mpr ⟨⟨okX12_orbit, inr47 _ (List.mem_of_getElem? (i := 3) rfl)⟩, List.forall_mem_cons.mpr ⟨⟨okX12_kind, inr45 _ (List.mem_of_getElem? (i := 23) rfl)⟩, List.forall_mem_cons.mpr ⟨⟨okX12_powerAt, inr58 _ (List.mem_of_getElem? (i := 1) rfl)⟩, List.forall_mem_cons.mpr ⟨⟨okX12_raises, inr57 _ (List.mem_of_getElem? (i := 13) rfl)⟩, List.forall_mem_cons.mpr ⟨⟨okX12_isLast, inr57 _ (List.mem_of_getElem? (i := 21) rfl)⟩, List.forall_mem_cons.mpr ⟨⟨okX12_isPair, inr58 _ (List.mem_of_getElem? (i := 5) rfl)⟩, List.forall_mem_cons.mpr ⟨⟨okX12_isTriple, inr58 _ (List.mem_of_getElem? (i := 9) rfl)⟩, List.forall_mem_cons.mpr ⟨⟨okX12_isSum, inr57 _ (List.mem_of_getElem? (i := 17) rfl)⟩, List.forall_mem_cons.mpr ⟨⟨okX12_powers, inr57 _ (List.mem_of_getElem? (i := 8) rfl)⟩, List.forall_mem_cons.mpr ⟨⟨okX12_strips, inr50 _ (List.mem_of_getElem? (i := 0) rfl)⟩, List.forall_mem_cons.mpr ⟨⟨okX12_divides, inr50 _ (List.mem_of_getElem? (i := 4) rfl)⟩, List.forall_mem_cons.mpr ⟨⟨okX12_commons, inr51 _ (List.mem_of_getElem? (i := 16) rfl)⟩, List.forall_mem_cons.mpr ⟨⟨okX12_toldOf, inr50 _ (List.mem_of_getElem? (i := 8) rfl)⟩, List.forall_mem_cons.mpr ⟨⟨okX12_common, inr58 _ (List.mem_of_getElem? (i := 20) rfl)⟩, List.forall_mem_cons.mpr ⟨⟨okX12_hasQuotient, inr49 _ (List.mem_of_getElem? (i := 20) rfl)⟩, List.forall_mem_cons.mpr ⟨⟨okX12_quotient, inr49 _ (List.mem_of_getElem? (i := 16) rfl)⟩, List.forall_mem_cons.mpr ⟨⟨okX12_plain, inr51 _ (List.mem_of_getElem? (i := 12) rfl)⟩, List.forall_mem_cons.mpr ⟨⟨okX12_overlap, inr59 _ (List.mem_of_getElem? (i := 12) rfl)⟩, List.forall_mem_cons.mpr ⟨⟨okX12_joinsWhole, inr62 _ (List.mem_of_getElem? (i := 22) rfl)⟩, List.forall_mem_cons.mpr ⟨⟨okX12_isWide, inr62 _ (List.mem_of_getElem? (i := 13) rfl)⟩, List.forall_mem_cons.mpr ⟨⟨okX12_isTurned, inr62 _ (List.mem_of_getElem? (i := 17) rfl)⟩, fun _ h => nomatch h⟩⟩⟩⟩⟩⟩⟩⟩⟩⟩⟩⟩⟩⟩⟩⟩⟩⟩⟩⟩⟩⟩⟩⟩⟩⟩⟩⟩⟩⟩
set_option maxRecDepth 100000 in
theorem okmb9 : ∀ e ∈ ml9, okMB e := by unfold okMB; decide +kernel
theorem okml9 : ∀ e ∈ ml9, okM e := fun e h => ⟨(okma9 e h).1, (okma9 e h).2, (okmb9 e h).1, (okmb9 e h).2.1, (okmb9 e h).2.2.1, (okmb9 e h).2.2.2⟩
def ml10 : List mm_T := [(yX12_reduces, cX12_reduces, 3, none, 12, [], clX12_reduces), (yX12_turnsOf, cX12_turnsOf, 6, (some .int), 12, [], clX12_turnsOf), (yX12_isThousand, cX12_isThousand, 1, (some .boolean), 12, [], clX12_isThousand), (yX12_reduced, cX12_reduced, 6, (some .long), 12, [], clX12_reduced), (yX12_shared, cX12_shared, 5, (some .int), 12, [], clX12_shared), (yX12_noDisc, cX12_noDisc, 1, (some .boolean), 12, [], clX12_noDisc), (yX12_reducedMany, cX12_reducedMany, 8, (some .int), 12, [], clX12_reducedMany), (yX12_classes, cX12_classes, 3, (some .int), 12, [], clX12_classes), (yX12_reducedAt, cX12_reducedAt, 4, (some .int), 12, [], clX12_reducedAt), (yX12_realOfCubic, cX12_realOfCubic, 10, (some .int), 12, [], clX12_realOfCubic), (yX12_realOfQuartic, cX12_realOfQuartic, 22, (some .int), 12, [], clX12_realOfQuartic), (yX12_isThirty, cX12_isThirty, 1, (some .boolean), 12, [], clX12_isThirty), (yX12_real, cX12_real, 7, (some .int), 12, [], clX12_real), (yX12_stock, cX12_stock, 4, (some .int), 12, [], clX12_stock), (yJ9_abs_0f7a4, cJ9_abs_0f7a4, 1, (some .int), 29, [], clJ9_abs_0f7a4), (yJ9_min_7cf53, cJ9_min_7cf53, 2, (some .int), 29, [], clJ9_min_7cf53), (yL_field, cL_field, 3, (some .int), 13, [(0, 5, 8, 13), (0, 5, 11, 15)], clL_field), (yL_form, cL_form, 3, (some .int), 13, [(0, 8, 11, 13), (0, 8, 14, 21)], clL_form), (yL_table, cL_table, 7, (some .int), 13, [(0, 14, 17, 13), (0, 14, 21, 21)], clL_table), (yL_signs, cL_signs, 3, (some .int), 13, [(0, 8, 11, 13), (0, 8, 14, 21)], clL_signs), (yL_look, cL_look, 5, (some .int), 13, [(0, 10, 13, 34)], clL_look), (yL_at, cL_at, 6, (some .int), 13, [(0, 12, 15, 34)], clL_at), (yL_det, cL_det, 4, (some .int), 13, [(0, 9, 12, 34)], clL_det), (yL_mix, cL_mix, 5, (some .int), 13, [(0, 17, 20, 34)], clL_mix), (yL_value, cL_value, 6, (some .int), 13, [(0, 12, 15, 34)], clL_value), (yL_rank, cL_rank, 5, (some .int), 13, [(0, 10, 13, 34)], clL_rank), (yL_stays, cL_stays, 6, (some .int), 13, [(0, 19, 22, 34)], clL_stays), (yL_agree, cL_agree, 6, (some .int), 13, [(0, 12, 15, 34), (0, 12, 19, 13)], clL_agree), (yL_count, cL_count, 6, (some .int), 13, [(0, 11, 14, 13)], clL_count), (yL_span, cL_span, 6, (some .int), 13, [(0, 12, 15, 13)], clL_span)]
set_option maxRecDepth 100000 in
theorem okma10 : ∀ e ∈ ml10, okMA e := List.forall_mem_cons.mpr ⟨⟨okX12_reduces, inr62 _ (List.mem_of_getElem? (i := 7) rfl)⟩, List.forall_mem_cons.mpr ⟨⟨okX12_turnsOf, inr63 _ (List.mem_of_getElem? (i := 1) rfl)⟩, List.forall_mem_cons.mpr ⟨⟨okX12_isThousand, inr62 _ (List.mem_of_getElem? (i := 3) rfl)⟩, List.forall_mem_cons.mpr ⟨⟨okX12_reduced, inr61 _ (List.mem_of_getElem? (i := 19) rfl)⟩, List.forall_mem_cons.mpr ⟨⟨okX12_shared, inr64 _ (List.mem_of_getElem? (i := 18) rfl)⟩, List.forall_mem_cons.mpr ⟨⟨okX12_noDisc, inr64 _ (List.mem_of_getElem? (i := 7) rfl)⟩, List.forall_mem_cons.mpr ⟨⟨okX12_reducedMany, inr64 _ (List.mem_of_getElem? (i := 12) rfl)⟩, List.forall_mem_cons.mpr ⟨⟨okX12_classes, inr64 _ (List.mem_of_getElem? (i := 4) rfl)⟩, List.forall_mem_cons.mpr ⟨⟨okX12_reducedAt, inr65 _ (List.mem_of_getElem? (i := 6) rfl)⟩, List.forall_mem_cons.mpr ⟨⟨okX12_realOfCubic, inr67 _ (List.mem_of_getElem? (i := 1) rfl)⟩, List.forall_mem_cons.mpr ⟨⟨okX12_realOfQuartic, inr67 _ (List.mem_of_getElem? (i := 7) rfl)⟩, List.forall_mem_cons.mpr ⟨⟨okX12_isThirty, inr66 _ (List.mem_of_getElem? (i := 22) rfl)⟩, List.forall_mem_cons.mpr ⟨⟨okX12_real, inr66 _ (List.mem_of_getElem? (i := 19) rfl)⟩, List.forall_mem_cons.mpr ⟨⟨okX12_stock, inr69 _ (List.mem_of_getElem? (i := 12) rfl)⟩, List.forall_mem_cons.mpr ⟨⟨okJ9_abs_0f7a4, inr64 _ (List.mem_of_getElem? (i := 0) rfl)⟩, List.forall_mem_cons.mpr ⟨⟨okJ9_min_7cf53, inr41 _ (List.mem_of_getElem? (i := 3) rfl)⟩, List.forall_mem_cons.mpr ⟨⟨okL_field, inr9 _ (List.mem_of_getElem? (i := 1) rfl)⟩, List.forall_mem_cons.mpr ⟨⟨okL_form, inr10 _ (List.mem_of_getElem? (i := 1) rfl)⟩, List.forall_mem_cons.mpr ⟨⟨okL_table, inr13 _ (List.mem_of_getElem? (i := 10) rfl)⟩, List.forall_mem_cons.mpr ⟨⟨okL_signs, inr15 _ (List.mem_of_getElem? (i := 23) rfl)⟩, List.forall_mem_cons.mpr ⟨⟨okL_look, inr22 _ (List.mem_of_getElem? (i := 2) rfl)⟩, List.forall_mem_cons.mpr ⟨⟨okL_at, inr23 _ (List.mem_of_getElem? (i := 17) rfl)⟩, List.forall_mem_cons.mpr ⟨⟨okL_det, inr25 _ (List.mem_of_getElem? (i := 10) rfl)⟩, List.forall_mem_cons.mpr ⟨⟨okL_mix, inr26 _ (List.mem_of_getElem? (i := 18) rfl)⟩, List.forall_mem_cons.mpr ⟨⟨okL_value, inr31 _ (List.mem_of_getElem? (i := 11) rfl)⟩, List.forall_mem_cons.mpr ⟨⟨okL_rank, inr36 _ (List.mem_of_getElem? (i := 3) rfl)⟩, List.forall_mem_cons.mpr ⟨⟨okL_stays, inr37 _ (List.mem_of_getElem? (i := 6) rfl)⟩, List.forall_mem_cons.mpr ⟨⟨okL_agree, inr37 _ (List.mem_of_getElem? (i := 22) rfl)⟩, List.forall_mem_cons.mpr ⟨⟨okL_count, inr38 _ (List.mem_of_getElem? (i := 13) rfl)⟩, List.forall_mem_cons.mpr ⟨⟨okL_span, inr39 _ (List.mem_of_getElem? (i := 15) rfl)⟩, fun _ h => nomatch h⟩⟩⟩⟩⟩⟩⟩⟩⟩⟩⟩⟩⟩⟩⟩⟩⟩⟩⟩⟩⟩⟩⟩⟩⟩⟩⟩⟩⟩⟩
set_option maxRecDepth 100000 in
theorem okmb10 : ∀ e ∈ ml10, okMB e := by unfold okMB; decide +kernel
theorem okml10 : ∀ e ∈ ml10, okM e := fun e h => ⟨(okma10 e h).1, (okma10 e h).2, (okmb10 e h).1, (okmb10 e h).2.1, (okmb10 e h).2.2.1, (okmb10 e h).2.2.2⟩
def ml11 : List mm_T := [(yL_basis, cL_basis, 6, (some .int), 13, [(0, 12, 15, 13)], clL_basis), (yL_kind, cL_kind, 4, (some .int), 13, [(0, 9, 12, 34)], clL_kind), (yL_orbit, cL_orbit, 4, (some .int), 13, [(0, 9, 12, 34)], clL_orbit), (yL_join, cL_join, 5, (some .int), 13, [(0, 10, 13, 34), (0, 10, 17, 21)], clL_join), (yL_turn, cL_turn, 4, (some .int), 13, [(0, 9, 12, 34), (0, 9, 15, 21)], clL_turn), (yL_told, cL_told, 5, (some .int), 13, [(0, 10, 13, 34)], clL_told), (yL_quotient, cL_quotient, 6, (some .int), 13, [(0, 12, 15, 34)], clL_quotient), (yL_plain, cL_plain, 4, (some .int), 13, [(0, 16, 19, 34)], clL_plain), (yL_root, cL_root, 5, (some .int), 13, [(0, 10, 13, 34), (0, 10, 17, 13)], clL_root), (yL_roots, cL_roots, 4, (some .int), 13, [(0, 9, 12, 34)], clL_roots), (yL_empty, cL_empty, 4, (some .int), 13, [(0, 16, 19, 34)], clL_empty), (yL_same, cL_same, 5, (some .int), 13, [(0, 10, 13, 34)], clL_same), (yL_keep, cL_keep, 4, (some .int), 13, [(0, 9, 12, 34)], clL_keep), (yL_powers, cL_powers, 5, (some .int), 13, [(0, 10, 13, 34), (0, 10, 17, 13)], clL_powers), (yL_common, cL_common, 6, (some .int), 13, [(0, 12, 15, 34)], clL_common), (yL_overlap, cL_overlap, 7, (some .int), 13, [(0, 14, 17, 34), (0, 14, 21, 13)], clL_overlap), (yL_reduced, cL_reduced, 7, (some .int), 13, [(0, 13, 16, 13), (0, 13, 20, 122)], clL_reduced), (yL_classes, cL_classes, 5, (some .int), 13, [(0, 10, 13, 13)], clL_classes), (yL_reducedAt, cL_reducedAt, 6, (some .int), 13, [(0, 12, 15, 13), (0, 12, 19, 122)], clL_reducedAt), (yL_real, cL_real, 8, (some .int), 13, [(0, 16, 19, 13)], clL_real)]
set_option maxRecDepth 100000 in
theorem okma11 : ∀ e ∈ ml11, okMA e := List.forall_mem_cons.mpr ⟨⟨okL_basis, inr42 _ (List.mem_of_getElem? (i := 21) rfl)⟩, List.forall_mem_cons.mpr ⟨⟨okL_kind, inr43 _ (List.mem_of_getElem? (i := 8) rfl)⟩, List.forall_mem_cons.mpr ⟨⟨okL_orbit, inr46 _ (List.mem_of_getElem? (i := 18) rfl)⟩, List.forall_mem_cons.mpr ⟨⟨okL_join, inr47 _ (List.mem_of_getElem? (i := 14) rfl)⟩, List.forall_mem_cons.mpr ⟨⟨okL_turn, inr48 _ (List.mem_of_getElem? (i := 1) rfl)⟩, List.forall_mem_cons.mpr ⟨⟨okL_told, inr48 _ (List.mem_of_getElem? (i := 13) rfl)⟩, List.forall_mem_cons.mpr ⟨⟨okL_quotient, inr49 _ (List.mem_of_getElem? (i := 0) rfl)⟩, List.forall_mem_cons.mpr ⟨⟨okL_plain, inr50 _ (List.mem_of_getElem? (i := 11) rfl)⟩, List.forall_mem_cons.mpr ⟨⟨okL_root, inr51 _ (List.mem_of_getElem? (i := 20) rfl)⟩, List.forall_mem_cons.mpr ⟨⟨okL_roots, inr53 _ (List.mem_of_getElem? (i := 0) rfl)⟩, List.forall_mem_cons.mpr ⟨⟨okL_empty, inr53 _ (List.mem_of_getElem? (i := 11) rfl)⟩, List.forall_mem_cons.mpr ⟨⟨okL_same, inr53 _ (List.mem_of_getElem? (i := 22) rfl)⟩, List.forall_mem_cons.mpr ⟨⟨okL_keep, inr54 _ (List.mem_of_getElem? (i := 10) rfl)⟩, List.forall_mem_cons.mpr ⟨⟨okL_powers, inr54 _ (List.mem_of_getElem? (i := 21) rfl)⟩, List.forall_mem_cons.mpr ⟨⟨okL_common, inr58 _ (List.mem_of_getElem? (i := 12) rfl)⟩, List.forall_mem_cons.mpr ⟨⟨okL_overlap, inr59 _ (List.mem_of_getElem? (i := 3) rfl)⟩, List.forall_mem_cons.mpr ⟨⟨okL_reduced, inr59 _ (List.mem_of_getElem? (i := 15) rfl)⟩, List.forall_mem_cons.mpr ⟨⟨okL_classes, inr63 _ (List.mem_of_getElem? (i := 4) rfl)⟩, List.forall_mem_cons.mpr ⟨⟨okL_reducedAt, inr64 _ (List.mem_of_getElem? (i := 22) rfl)⟩, List.forall_mem_cons.mpr ⟨⟨okL_real, inr65 _ (List.mem_of_getElem? (i := 9) rfl)⟩, fun _ h => nomatch h⟩⟩⟩⟩⟩⟩⟩⟩⟩⟩⟩⟩⟩⟩⟩⟩⟩⟩⟩⟩
set_option maxRecDepth 100000 in
theorem okmb11 : ∀ e ∈ ml11, okMB e := by unfold okMB; decide +kernel
theorem okml11 : ∀ e ∈ ml11, okM e := fun e h => ⟨(okma11 e h).1, (okma11 e h).2, (okmb11 e h).1, (okmb11 e h).2.1, (okmb11 e h).2.2.1, (okmb11 e h).2.2.2⟩
def mlL : List (List mm_T) := [ml0, ml1, ml2, ml3, ml4, ml5, ml6, ml7, ml8, ml9, ml10, ml11]
theorem mlL_ok : ∀ B ∈ mlL, ∀ e ∈ B, okM e := List.forall_mem_cons.mpr ⟨okml0, List.forall_mem_cons.mpr ⟨okml1, List.forall_mem_cons.mpr ⟨okml2, List.forall_mem_cons.mpr ⟨okml3, List.forall_mem_cons.mpr ⟨okml4, List.forall_mem_cons.mpr ⟨okml5, List.forall_mem_cons.mpr ⟨okml6, List.forall_mem_cons.mpr ⟨okml7, List.forall_mem_cons.mpr ⟨okml8, List.forall_mem_cons.mpr ⟨okml9, List.forall_mem_cons.mpr ⟨okml10, List.forall_mem_cons.mpr ⟨okml11, fun _ h => nomatch h⟩⟩⟩⟩⟩⟩⟩⟩⟩⟩⟩⟩
def P_ml : List mm_T := mlL.flatten
def P_mq (k : Nat) : Option mm_T := (mlL[k / 30]?).bind (fun B => B[k % 30]?)
theorem P_mq_in {k : Nat} {y : mm_T} (h : P_mq k = some y) : y ∈ P_ml := by
  unfold P_mq at h
  cases hB : mlL[k / 30]? with
  | none => rw [hB] at h; cases h
  | some B => rw [hB] at h; exact List.mem_flatten.mpr ⟨B, List.mem_of_getElem? hB, List.mem_of_getElem? (show B[k % 30]? = some y from h)⟩
theorem okP_ml : ∀ e ∈ P_ml, okM e := fun e h => by
  obtain ⟨B, hB, he⟩ := List.mem_flatten.mp h
  exact mlL_ok B hB e he
def okF (e : Nat × Nat × Nat × Nat) : Prop := ∃ C T N, vwCl[e.2.2.1]? = some (C, T, N) ∧ e.2.2.2 < N ∧ Cond.fieldLink (P_ow e.1) e.2.1 (T e.2.2.2).1 (T e.2.2.2).2.1 (T e.2.2.2).2.2.1 ∈ wsL_law
def fl0_0 : List (Nat × Nat × Nat × Nat) := [(0, 12, 0, 1)]
set_option maxRecDepth 100000 in
theorem fl0_0_ok : ∀ e ∈ fl0_0, okF e := List.forall_mem_cons.mpr ⟨⟨_, _, _, rfl, Nat.le_of_ble_eq_true rfl, inr5 _ (List.mem_of_getElem? (i := 2) rfl)⟩, fun _ h => nomatch h⟩
def fl0_1 : List (Nat × Nat × Nat × Nat) := [(0, 18, 0, 2), (0, 21, 0, 0), (0, 25, 8, 0)]
set_option maxRecDepth 100000 in
theorem fl0_1_ok : ∀ e ∈ fl0_1, okF e := List.forall_mem_cons.mpr ⟨⟨_, _, _, rfl, Nat.le_of_ble_eq_true rfl, inr5 _ (List.mem_of_getElem? (i := 3) rfl)⟩, List.forall_mem_cons.mpr ⟨⟨_, _, _, rfl, Nat.le_of_ble_eq_true rfl, inr5 _ (List.mem_of_getElem? (i := 4) rfl)⟩, List.forall_mem_cons.mpr ⟨⟨_, _, _, rfl, Nat.le_of_ble_eq_true rfl, inr11 _ (List.mem_of_getElem? (i := 18) rfl)⟩, fun _ h => nomatch h⟩⟩⟩
def fl0_2 : List (Nat × Nat × Nat × Nat) := [(0, 45, 2, 0)]
set_option maxRecDepth 100000 in
theorem fl0_2_ok : ∀ e ∈ fl0_2, okF e := List.forall_mem_cons.mpr ⟨⟨_, _, _, rfl, Nat.le_of_ble_eq_true rfl, inr24 _ (List.mem_of_getElem? (i := 2) rfl)⟩, fun _ h => nomatch h⟩
def fl0_3 : List (Nat × Nat × Nat × Nat) := [(0, 59, 9, 0), (0, 62, 9, 1)]
set_option maxRecDepth 100000 in
theorem fl0_3_ok : ∀ e ∈ fl0_3, okF e := List.forall_mem_cons.mpr ⟨⟨_, _, _, rfl, Nat.le_of_ble_eq_true rfl, inr27 _ (List.mem_of_getElem? (i := 3) rfl)⟩, List.forall_mem_cons.mpr ⟨⟨_, _, _, rfl, Nat.le_of_ble_eq_true rfl, inr27 _ (List.mem_of_getElem? (i := 4) rfl)⟩, fun _ h => nomatch h⟩⟩
def fl0_4 : List (Nat × Nat × Nat × Nat) := [(0, 69, 9, 2), (0, 72, 9, 3)]
set_option maxRecDepth 100000 in
theorem fl0_4_ok : ∀ e ∈ fl0_4, okF e := List.forall_mem_cons.mpr ⟨⟨_, _, _, rfl, Nat.le_of_ble_eq_true rfl, inr27 _ (List.mem_of_getElem? (i := 5) rfl)⟩, List.forall_mem_cons.mpr ⟨⟨_, _, _, rfl, Nat.le_of_ble_eq_true rfl, inr27 _ (List.mem_of_getElem? (i := 6) rfl)⟩, fun _ h => nomatch h⟩⟩
def fl0L : List (List (Nat × Nat × Nat × Nat)) := [fl0_0, fl0_1, fl0_2, fl0_3, fl0_4]
theorem fl0L_ok : ∀ B ∈ fl0L, ∀ e ∈ B, okF e := List.forall_mem_cons.mpr ⟨fl0_0_ok, List.forall_mem_cons.mpr ⟨fl0_1_ok, List.forall_mem_cons.mpr ⟨fl0_2_ok, List.forall_mem_cons.mpr ⟨fl0_3_ok, List.forall_mem_cons.mpr ⟨fl0_4_ok, fun _ h => nomatch h⟩⟩⟩⟩⟩
def fl1_0 : List (Nat × Nat × Nat × Nat) := [(1, 15, 1, 1)]
set_option maxRecDepth 100000 in
theorem fl1_0_ok : ∀ e ∈ fl1_0, okF e := List.forall_mem_cons.mpr ⟨⟨_, _, _, rfl, Nat.le_of_ble_eq_true rfl, inr5 _ (List.mem_of_getElem? (i := 9) rfl)⟩, fun _ h => nomatch h⟩
def fl1_1 : List (Nat × Nat × Nat × Nat) := [(1, 21, 1, 2), (1, 26, 1, 3), (1, 30, 1, 4)]
set_option maxRecDepth 100000 in
theorem fl1_1_ok : ∀ e ∈ fl1_1, okF e := List.forall_mem_cons.mpr ⟨⟨_, _, _, rfl, Nat.le_of_ble_eq_true rfl, inr5 _ (List.mem_of_getElem? (i := 10) rfl)⟩, List.forall_mem_cons.mpr ⟨⟨_, _, _, rfl, Nat.le_of_ble_eq_true rfl, inr5 _ (List.mem_of_getElem? (i := 12) rfl)⟩, List.forall_mem_cons.mpr ⟨⟨_, _, _, rfl, Nat.le_of_ble_eq_true rfl, inr5 _ (List.mem_of_getElem? (i := 13) rfl)⟩, fun _ h => nomatch h⟩⟩⟩
def fl1_2 : List (Nat × Nat × Nat × Nat) := [(1, 33, 1, 0), (1, 37, 1, 5), (1, 41, 7, 2)]
set_option maxRecDepth 100000 in
theorem fl1_2_ok : ∀ e ∈ fl1_2, okF e := List.forall_mem_cons.mpr ⟨⟨_, _, _, rfl, Nat.le_of_ble_eq_true rfl, inr5 _ (List.mem_of_getElem? (i := 14) rfl)⟩, List.forall_mem_cons.mpr ⟨⟨_, _, _, rfl, Nat.le_of_ble_eq_true rfl, inr32 _ (List.mem_of_getElem? (i := 1) rfl)⟩, List.forall_mem_cons.mpr ⟨⟨_, _, _, rfl, Nat.le_of_ble_eq_true rfl, inr32 _ (List.mem_of_getElem? (i := 2) rfl)⟩, fun _ h => nomatch h⟩⟩⟩
def fl1L : List (List (Nat × Nat × Nat × Nat)) := [fl1_0, fl1_1, fl1_2]
theorem fl1L_ok : ∀ B ∈ fl1L, ∀ e ∈ B, okF e := List.forall_mem_cons.mpr ⟨fl1_0_ok, List.forall_mem_cons.mpr ⟨fl1_1_ok, List.forall_mem_cons.mpr ⟨fl1_2_ok, fun _ h => nomatch h⟩⟩⟩
def fl2_0 : List (Nat × Nat × Nat × Nat) := [(2, 9, 2, 1)]
set_option maxRecDepth 100000 in
theorem fl2_0_ok : ∀ e ∈ fl2_0, okF e := List.forall_mem_cons.mpr ⟨⟨_, _, _, rfl, Nat.le_of_ble_eq_true rfl, inr4 _ (List.mem_of_getElem? (i := 17) rfl)⟩, fun _ h => nomatch h⟩
def fl2_1 : List (Nat × Nat × Nat × Nat) := [(2, 16, 2, 0)]
set_option maxRecDepth 100000 in
theorem fl2_1_ok : ∀ e ∈ fl2_1, okF e := List.forall_mem_cons.mpr ⟨⟨_, _, _, rfl, Nat.le_of_ble_eq_true rfl, inr11 _ (List.mem_of_getElem? (i := 5) rfl)⟩, fun _ h => nomatch h⟩
def fl2L : List (List (Nat × Nat × Nat × Nat)) := [fl2_0, fl2_1]
theorem fl2L_ok : ∀ B ∈ fl2L, ∀ e ∈ B, okF e := List.forall_mem_cons.mpr ⟨fl2_0_ok, List.forall_mem_cons.mpr ⟨fl2_1_ok, fun _ h => nomatch h⟩⟩
def fl3_0 : List (Nat × Nat × Nat × Nat) := [(3, 9, 3, 2), (3, 15, 3, 3)]
set_option maxRecDepth 100000 in
theorem fl3_0_ok : ∀ e ∈ fl3_0, okF e := List.forall_mem_cons.mpr ⟨⟨_, _, _, rfl, Nat.le_of_ble_eq_true rfl, inr6 _ (List.mem_of_getElem? (i := 17) rfl)⟩, List.forall_mem_cons.mpr ⟨⟨_, _, _, rfl, Nat.le_of_ble_eq_true rfl, inr6 _ (List.mem_of_getElem? (i := 18) rfl)⟩, fun _ h => nomatch h⟩⟩
def fl3_1 : List (Nat × Nat × Nat × Nat) := [(3, 18, 3, 4), (3, 21, 3, 5), (3, 24, 3, 1), (3, 28, 3, 0)]
set_option maxRecDepth 100000 in
theorem fl3_1_ok : ∀ e ∈ fl3_1, okF e := List.forall_mem_cons.mpr ⟨⟨_, _, _, rfl, Nat.le_of_ble_eq_true rfl, inr6 _ (List.mem_of_getElem? (i := 19) rfl)⟩, List.forall_mem_cons.mpr ⟨⟨_, _, _, rfl, Nat.le_of_ble_eq_true rfl, inr6 _ (List.mem_of_getElem? (i := 20) rfl)⟩, List.forall_mem_cons.mpr ⟨⟨_, _, _, rfl, Nat.le_of_ble_eq_true rfl, inr6 _ (List.mem_of_getElem? (i := 21) rfl)⟩, List.forall_mem_cons.mpr ⟨⟨_, _, _, rfl, Nat.le_of_ble_eq_true rfl, inr55 _ (List.mem_of_getElem? (i := 7) rfl)⟩, fun _ h => nomatch h⟩⟩⟩⟩
def fl3_2 : List (Nat × Nat × Nat × Nat) := [(3, 32, 2, 0), (3, 37, 3, 6)]
set_option maxRecDepth 100000 in
theorem fl3_2_ok : ∀ e ∈ fl3_2, okF e := List.forall_mem_cons.mpr ⟨⟨_, _, _, rfl, Nat.le_of_ble_eq_true rfl, inr55 _ (List.mem_of_getElem? (i := 8) rfl)⟩, List.forall_mem_cons.mpr ⟨⟨_, _, _, rfl, Nat.le_of_ble_eq_true rfl, inr55 _ (List.mem_of_getElem? (i := 9) rfl)⟩, fun _ h => nomatch h⟩⟩
def fl3_5 : List (Nat × Nat × Nat × Nat) := [(3, 85, 3, 7)]
set_option maxRecDepth 100000 in
theorem fl3_5_ok : ∀ e ∈ fl3_5, okF e := List.forall_mem_cons.mpr ⟨⟨_, _, _, rfl, Nat.le_of_ble_eq_true rfl, inr56 _ (List.mem_of_getElem? (i := 1) rfl)⟩, fun _ h => nomatch h⟩
def fl3L : List (List (Nat × Nat × Nat × Nat)) := [fl3_0, fl3_1, fl3_2, [], [], fl3_5]
theorem fl3L_ok : ∀ B ∈ fl3L, ∀ e ∈ B, okF e := List.forall_mem_cons.mpr ⟨fl3_0_ok, List.forall_mem_cons.mpr ⟨fl3_1_ok, List.forall_mem_cons.mpr ⟨fl3_2_ok, List.forall_mem_cons.mpr ⟨(fun _ h => nomatch h), List.forall_mem_cons.mpr ⟨(fun _ h => nomatch h), List.forall_mem_cons.mpr ⟨fl3_5_ok, fun _ h => nomatch h⟩⟩⟩⟩⟩⟩
def fl4_0 : List (Nat × Nat × Nat × Nat) := [(4, 12, 4, 0)]
set_option maxRecDepth 100000 in
theorem fl4_0_ok : ∀ e ∈ fl4_0, okF e := List.forall_mem_cons.mpr ⟨⟨_, _, _, rfl, Nat.le_of_ble_eq_true rfl, inr3 _ (List.mem_of_getElem? (i := 11) rfl)⟩, fun _ h => nomatch h⟩
def fl4_1 : List (Nat × Nat × Nat × Nat) := [(4, 18, 4, 2), (4, 22, 4, 1), (4, 26, 4, 3), (4, 29, 4, 4)]
set_option maxRecDepth 100000 in
theorem fl4_1_ok : ∀ e ∈ fl4_1, okF e := List.forall_mem_cons.mpr ⟨⟨_, _, _, rfl, Nat.le_of_ble_eq_true rfl, inr3 _ (List.mem_of_getElem? (i := 13) rfl)⟩, List.forall_mem_cons.mpr ⟨⟨_, _, _, rfl, Nat.le_of_ble_eq_true rfl, inr8 _ (List.mem_of_getElem? (i := 7) rfl)⟩, List.forall_mem_cons.mpr ⟨⟨_, _, _, rfl, Nat.le_of_ble_eq_true rfl, inr16 _ (List.mem_of_getElem? (i := 10) rfl)⟩, List.forall_mem_cons.mpr ⟨⟨_, _, _, rfl, Nat.le_of_ble_eq_true rfl, inr16 _ (List.mem_of_getElem? (i := 11) rfl)⟩, fun _ h => nomatch h⟩⟩⟩⟩
def fl4_2 : List (Nat × Nat × Nat × Nat) := [(4, 32, 4, 5), (4, 35, 7, 2)]
set_option maxRecDepth 100000 in
theorem fl4_2_ok : ∀ e ∈ fl4_2, okF e := List.forall_mem_cons.mpr ⟨⟨_, _, _, rfl, Nat.le_of_ble_eq_true rfl, inr16 _ (List.mem_of_getElem? (i := 12) rfl)⟩, List.forall_mem_cons.mpr ⟨⟨_, _, _, rfl, Nat.le_of_ble_eq_true rfl, inr16 _ (List.mem_of_getElem? (i := 13) rfl)⟩, fun _ h => nomatch h⟩⟩
def fl4L : List (List (Nat × Nat × Nat × Nat)) := [fl4_0, fl4_1, fl4_2]
theorem fl4L_ok : ∀ B ∈ fl4L, ∀ e ∈ B, okF e := List.forall_mem_cons.mpr ⟨fl4_0_ok, List.forall_mem_cons.mpr ⟨fl4_1_ok, List.forall_mem_cons.mpr ⟨fl4_2_ok, fun _ h => nomatch h⟩⟩⟩
def fl5_0 : List (Nat × Nat × Nat × Nat) := [(5, 15, 5, 2)]
set_option maxRecDepth 100000 in
theorem fl5_0_ok : ∀ e ∈ fl5_0, okF e := List.forall_mem_cons.mpr ⟨⟨_, _, _, rfl, Nat.le_of_ble_eq_true rfl, inr5 _ (List.mem_of_getElem? (i := 20) rfl)⟩, fun _ h => nomatch h⟩
def fl5_1 : List (Nat × Nat × Nat × Nat) := [(5, 23, 5, 3), (5, 26, 5, 4), (5, 30, 5, 5)]
set_option maxRecDepth 100000 in
theorem fl5_1_ok : ∀ e ∈ fl5_1, okF e := List.forall_mem_cons.mpr ⟨⟨_, _, _, rfl, Nat.le_of_ble_eq_true rfl, inr5 _ (List.mem_of_getElem? (i := 22) rfl)⟩, List.forall_mem_cons.mpr ⟨⟨_, _, _, rfl, Nat.le_of_ble_eq_true rfl, inr5 _ (List.mem_of_getElem? (i := 23) rfl)⟩, List.forall_mem_cons.mpr ⟨⟨_, _, _, rfl, Nat.le_of_ble_eq_true rfl, inr6 _ (List.mem_of_getElem? (i := 0) rfl)⟩, fun _ h => nomatch h⟩⟩⟩
def fl5_2 : List (Nat × Nat × Nat × Nat) := [(5, 34, 5, 0), (5, 38, 5, 1), (5, 46, 5, 6)]
set_option maxRecDepth 100000 in
theorem fl5_2_ok : ∀ e ∈ fl5_2, okF e := List.forall_mem_cons.mpr ⟨⟨_, _, _, rfl, Nat.le_of_ble_eq_true rfl, inr6 _ (List.mem_of_getElem? (i := 1) rfl)⟩, List.forall_mem_cons.mpr ⟨⟨_, _, _, rfl, Nat.le_of_ble_eq_true rfl, inr6 _ (List.mem_of_getElem? (i := 2) rfl)⟩, List.forall_mem_cons.mpr ⟨⟨_, _, _, rfl, Nat.le_of_ble_eq_true rfl, inr40 _ (List.mem_of_getElem? (i := 0) rfl)⟩, fun _ h => nomatch h⟩⟩⟩
def fl5_3 : List (Nat × Nat × Nat × Nat) := [(5, 50, 5, 7), (5, 59, 5, 8)]
set_option maxRecDepth 100000 in
theorem fl5_3_ok : ∀ e ∈ fl5_3, okF e := List.forall_mem_cons.mpr ⟨⟨_, _, _, rfl, Nat.le_of_ble_eq_true rfl, inr40 _ (List.mem_of_getElem? (i := 1) rfl)⟩, List.forall_mem_cons.mpr ⟨⟨_, _, _, rfl, Nat.le_of_ble_eq_true rfl, inr40 _ (List.mem_of_getElem? (i := 2) rfl)⟩, fun _ h => nomatch h⟩⟩
def fl5_5 : List (Nat × Nat × Nat × Nat) := [(5, 94, 2, 0)]
set_option maxRecDepth 100000 in
theorem fl5_5_ok : ∀ e ∈ fl5_5, okF e := List.forall_mem_cons.mpr ⟨⟨_, _, _, rfl, Nat.le_of_ble_eq_true rfl, inr40 _ (List.mem_of_getElem? (i := 18) rfl)⟩, fun _ h => nomatch h⟩
def fl5L : List (List (Nat × Nat × Nat × Nat)) := [fl5_0, fl5_1, fl5_2, fl5_3, [], fl5_5]
theorem fl5L_ok : ∀ B ∈ fl5L, ∀ e ∈ B, okF e := List.forall_mem_cons.mpr ⟨fl5_0_ok, List.forall_mem_cons.mpr ⟨fl5_1_ok, List.forall_mem_cons.mpr ⟨fl5_2_ok, List.forall_mem_cons.mpr ⟨fl5_3_ok, List.forall_mem_cons.mpr ⟨(fun _ h => nomatch h), List.forall_mem_cons.mpr ⟨fl5_5_ok, fun _ h => nomatch h⟩⟩⟩⟩⟩⟩
def fl6_0 : List (Nat × Nat × Nat × Nat) := [(6, 9, 6, 3), (6, 15, 6, 4)]
set_option maxRecDepth 100000 in
theorem fl6_0_ok : ∀ e ∈ fl6_0, okF e := List.forall_mem_cons.mpr ⟨⟨_, _, _, rfl, Nat.le_of_ble_eq_true rfl, inr6 _ (List.mem_of_getElem? (i := 8) rfl)⟩, List.forall_mem_cons.mpr ⟨⟨_, _, _, rfl, Nat.le_of_ble_eq_true rfl, inr6 _ (List.mem_of_getElem? (i := 9) rfl)⟩, fun _ h => nomatch h⟩⟩
def fl6_1 : List (Nat × Nat × Nat × Nat) := [(6, 18, 6, 5), (6, 21, 6, 6), (6, 24, 6, 2), (6, 28, 6, 0)]
set_option maxRecDepth 100000 in
theorem fl6_1_ok : ∀ e ∈ fl6_1, okF e := List.forall_mem_cons.mpr ⟨⟨_, _, _, rfl, Nat.le_of_ble_eq_true rfl, inr6 _ (List.mem_of_getElem? (i := 10) rfl)⟩, List.forall_mem_cons.mpr ⟨⟨_, _, _, rfl, Nat.le_of_ble_eq_true rfl, inr6 _ (List.mem_of_getElem? (i := 11) rfl)⟩, List.forall_mem_cons.mpr ⟨⟨_, _, _, rfl, Nat.le_of_ble_eq_true rfl, inr6 _ (List.mem_of_getElem? (i := 12) rfl)⟩, List.forall_mem_cons.mpr ⟨⟨_, _, _, rfl, Nat.le_of_ble_eq_true rfl, inr43 _ (List.mem_of_getElem? (i := 18) rfl)⟩, fun _ h => nomatch h⟩⟩⟩⟩
def fl6_2 : List (Nat × Nat × Nat × Nat) := [(6, 32, 6, 1), (6, 35, 2, 0)]
set_option maxRecDepth 100000 in
theorem fl6_2_ok : ∀ e ∈ fl6_2, okF e := List.forall_mem_cons.mpr ⟨⟨_, _, _, rfl, Nat.le_of_ble_eq_true rfl, inr43 _ (List.mem_of_getElem? (i := 19) rfl)⟩, List.forall_mem_cons.mpr ⟨⟨_, _, _, rfl, Nat.le_of_ble_eq_true rfl, inr43 _ (List.mem_of_getElem? (i := 20) rfl)⟩, fun _ h => nomatch h⟩⟩
def fl6L : List (List (Nat × Nat × Nat × Nat)) := [fl6_0, fl6_1, fl6_2]
theorem fl6L_ok : ∀ B ∈ fl6L, ∀ e ∈ B, okF e := List.forall_mem_cons.mpr ⟨fl6_0_ok, List.forall_mem_cons.mpr ⟨fl6_1_ok, List.forall_mem_cons.mpr ⟨fl6_2_ok, fun _ h => nomatch h⟩⟩⟩
def fl7_0 : List (Nat × Nat × Nat × Nat) := [(7, 9, 7, 0), (7, 15, 7, 1)]
set_option maxRecDepth 100000 in
theorem fl7_0_ok : ∀ e ∈ fl7_0, okF e := List.forall_mem_cons.mpr ⟨⟨_, _, _, rfl, Nat.le_of_ble_eq_true rfl, inr3 _ (List.mem_of_getElem? (i := 17) rfl)⟩, List.forall_mem_cons.mpr ⟨⟨_, _, _, rfl, Nat.le_of_ble_eq_true rfl, inr3 _ (List.mem_of_getElem? (i := 18) rfl)⟩, fun _ h => nomatch h⟩⟩
def fl7_1 : List (Nat × Nat × Nat × Nat) := [(7, 18, 7, 2)]
set_option maxRecDepth 100000 in
theorem fl7_1_ok : ∀ e ∈ fl7_1, okF e := List.forall_mem_cons.mpr ⟨⟨_, _, _, rfl, Nat.le_of_ble_eq_true rfl, inr17 _ (List.mem_of_getElem? (i := 10) rfl)⟩, fun _ h => nomatch h⟩
def fl7L : List (List (Nat × Nat × Nat × Nat)) := [fl7_0, fl7_1]
theorem fl7L_ok : ∀ B ∈ fl7L, ∀ e ∈ B, okF e := List.forall_mem_cons.mpr ⟨fl7_0_ok, List.forall_mem_cons.mpr ⟨fl7_1_ok, fun _ h => nomatch h⟩⟩
def fl8_0 : List (Nat × Nat × Nat × Nat) := [(8, 9, 8, 0), (8, 15, 8, 6)]
set_option maxRecDepth 100000 in
theorem fl8_0_ok : ∀ e ∈ fl8_0, okF e := List.forall_mem_cons.mpr ⟨⟨_, _, _, rfl, Nat.le_of_ble_eq_true rfl, inr3 _ (List.mem_of_getElem? (i := 23) rfl)⟩, List.forall_mem_cons.mpr ⟨⟨_, _, _, rfl, Nat.le_of_ble_eq_true rfl, inr4 _ (List.mem_of_getElem? (i := 0) rfl)⟩, fun _ h => nomatch h⟩⟩
def fl8_1 : List (Nat × Nat × Nat × Nat) := [(8, 25, 8, 7), (8, 29, 8, 8)]
set_option maxRecDepth 100000 in
theorem fl8_1_ok : ∀ e ∈ fl8_1, okF e := List.forall_mem_cons.mpr ⟨⟨_, _, _, rfl, Nat.le_of_ble_eq_true rfl, inr4 _ (List.mem_of_getElem? (i := 1) rfl)⟩, List.forall_mem_cons.mpr ⟨⟨_, _, _, rfl, Nat.le_of_ble_eq_true rfl, inr4 _ (List.mem_of_getElem? (i := 2) rfl)⟩, fun _ h => nomatch h⟩⟩
def fl8_2 : List (Nat × Nat × Nat × Nat) := [(8, 34, 8, 9), (8, 40, 8, 10), (8, 46, 8, 1)]
set_option maxRecDepth 100000 in
theorem fl8_2_ok : ∀ e ∈ fl8_2, okF e := List.forall_mem_cons.mpr ⟨⟨_, _, _, rfl, Nat.le_of_ble_eq_true rfl, inr4 _ (List.mem_of_getElem? (i := 4) rfl)⟩, List.forall_mem_cons.mpr ⟨⟨_, _, _, rfl, Nat.le_of_ble_eq_true rfl, inr4 _ (List.mem_of_getElem? (i := 6) rfl)⟩, List.forall_mem_cons.mpr ⟨⟨_, _, _, rfl, Nat.le_of_ble_eq_true rfl, inr10 _ (List.mem_of_getElem? (i := 17) rfl)⟩, fun _ h => nomatch h⟩⟩⟩
def fl8_3 : List (Nat × Nat × Nat × Nat) := [(8, 53, 8, 2), (8, 56, 8, 3)]
set_option maxRecDepth 100000 in
theorem fl8_3_ok : ∀ e ∈ fl8_3, okF e := List.forall_mem_cons.mpr ⟨⟨_, _, _, rfl, Nat.le_of_ble_eq_true rfl, inr14 _ (List.mem_of_getElem? (i := 0) rfl)⟩, List.forall_mem_cons.mpr ⟨⟨_, _, _, rfl, Nat.le_of_ble_eq_true rfl, inr18 _ (List.mem_of_getElem? (i := 18) rfl)⟩, fun _ h => nomatch h⟩⟩
def fl8_4 : List (Nat × Nat × Nat × Nat) := [(8, 75, 8, 5), (8, 78, 8, 4)]
set_option maxRecDepth 100000 in
theorem fl8_4_ok : ∀ e ∈ fl8_4, okF e := List.forall_mem_cons.mpr ⟨⟨_, _, _, rfl, Nat.le_of_ble_eq_true rfl, inr12 _ (List.mem_of_getElem? (i := 3) rfl)⟩, List.forall_mem_cons.mpr ⟨⟨_, _, _, rfl, Nat.le_of_ble_eq_true rfl, inr27 _ (List.mem_of_getElem? (i := 22) rfl)⟩, fun _ h => nomatch h⟩⟩
def fl8_5 : List (Nat × Nat × Nat × Nat) := [(8, 95, 9, 0)]
set_option maxRecDepth 100000 in
theorem fl8_5_ok : ∀ e ∈ fl8_5, okF e := List.forall_mem_cons.mpr ⟨⟨_, _, _, rfl, Nat.le_of_ble_eq_true rfl, inr67 _ (List.mem_of_getElem? (i := 23) rfl)⟩, fun _ h => nomatch h⟩
def fl8_6 : List (Nat × Nat × Nat × Nat) := [(8, 98, 9, 1), (8, 101, 9, 2), (8, 104, 9, 3)]
set_option maxRecDepth 100000 in
theorem fl8_6_ok : ∀ e ∈ fl8_6, okF e := List.forall_mem_cons.mpr ⟨⟨_, _, _, rfl, Nat.le_of_ble_eq_true rfl, inr68 _ (List.mem_of_getElem? (i := 0) rfl)⟩, List.forall_mem_cons.mpr ⟨⟨_, _, _, rfl, Nat.le_of_ble_eq_true rfl, inr68 _ (List.mem_of_getElem? (i := 1) rfl)⟩, List.forall_mem_cons.mpr ⟨⟨_, _, _, rfl, Nat.le_of_ble_eq_true rfl, inr68 _ (List.mem_of_getElem? (i := 2) rfl)⟩, fun _ h => nomatch h⟩⟩⟩
def fl8L : List (List (Nat × Nat × Nat × Nat)) := [fl8_0, fl8_1, fl8_2, fl8_3, fl8_4, fl8_5, fl8_6]
theorem fl8L_ok : ∀ B ∈ fl8L, ∀ e ∈ B, okF e := List.forall_mem_cons.mpr ⟨fl8_0_ok, List.forall_mem_cons.mpr ⟨fl8_1_ok, List.forall_mem_cons.mpr ⟨fl8_2_ok, List.forall_mem_cons.mpr ⟨fl8_3_ok, List.forall_mem_cons.mpr ⟨fl8_4_ok, List.forall_mem_cons.mpr ⟨fl8_5_ok, List.forall_mem_cons.mpr ⟨fl8_6_ok, fun _ h => nomatch h⟩⟩⟩⟩⟩⟩⟩
def fl9_0 : List (Nat × Nat × Nat × Nat) := [(9, 7, 9, 0), (9, 13, 9, 1)]
set_option maxRecDepth 100000 in
theorem fl9_0_ok : ∀ e ∈ fl9_0, okF e := List.forall_mem_cons.mpr ⟨⟨_, _, _, rfl, Nat.le_of_ble_eq_true rfl, inr14 _ (List.mem_of_getElem? (i := 13) rfl)⟩, List.forall_mem_cons.mpr ⟨⟨_, _, _, rfl, Nat.le_of_ble_eq_true rfl, inr14 _ (List.mem_of_getElem? (i := 14) rfl)⟩, fun _ h => nomatch h⟩⟩
def fl9_1 : List (Nat × Nat × Nat × Nat) := [(9, 16, 9, 2), (9, 19, 9, 3)]
set_option maxRecDepth 100000 in
theorem fl9_1_ok : ∀ e ∈ fl9_1, okF e := List.forall_mem_cons.mpr ⟨⟨_, _, _, rfl, Nat.le_of_ble_eq_true rfl, inr14 _ (List.mem_of_getElem? (i := 15) rfl)⟩, List.forall_mem_cons.mpr ⟨⟨_, _, _, rfl, Nat.le_of_ble_eq_true rfl, inr14 _ (List.mem_of_getElem? (i := 16) rfl)⟩, fun _ h => nomatch h⟩⟩
def fl9L : List (List (Nat × Nat × Nat × Nat)) := [fl9_0, fl9_1]
theorem fl9L_ok : ∀ B ∈ fl9L, ∀ e ∈ B, okF e := List.forall_mem_cons.mpr ⟨fl9_0_ok, List.forall_mem_cons.mpr ⟨fl9_1_ok, fun _ h => nomatch h⟩⟩
def fl10_0 : List (Nat × Nat × Nat × Nat) := [(10, 9, 10, 0), (10, 15, 10, 1)]
set_option maxRecDepth 100000 in
theorem fl10_0_ok : ∀ e ∈ fl10_0, okF e := List.forall_mem_cons.mpr ⟨⟨_, _, _, rfl, Nat.le_of_ble_eq_true rfl, inr60 _ (List.mem_of_getElem? (i := 6) rfl)⟩, List.forall_mem_cons.mpr ⟨⟨_, _, _, rfl, Nat.le_of_ble_eq_true rfl, inr60 _ (List.mem_of_getElem? (i := 7) rfl)⟩, fun _ h => nomatch h⟩⟩
def fl10_1 : List (Nat × Nat × Nat × Nat) := [(10, 18, 10, 2), (10, 21, 10, 3), (10, 24, 10, 4), (10, 27, 10, 5), (10, 30, 10, 6)]
set_option maxRecDepth 100000 in
theorem fl10_1_ok : ∀ e ∈ fl10_1, okF e := List.forall_mem_cons.mpr ⟨⟨_, _, _, rfl, Nat.le_of_ble_eq_true rfl, inr60 _ (List.mem_of_getElem? (i := 8) rfl)⟩, List.forall_mem_cons.mpr ⟨⟨_, _, _, rfl, Nat.le_of_ble_eq_true rfl, inr60 _ (List.mem_of_getElem? (i := 9) rfl)⟩, List.forall_mem_cons.mpr ⟨⟨_, _, _, rfl, Nat.le_of_ble_eq_true rfl, inr60 _ (List.mem_of_getElem? (i := 10) rfl)⟩, List.forall_mem_cons.mpr ⟨⟨_, _, _, rfl, Nat.le_of_ble_eq_true rfl, inr60 _ (List.mem_of_getElem? (i := 11) rfl)⟩, List.forall_mem_cons.mpr ⟨⟨_, _, _, rfl, Nat.le_of_ble_eq_true rfl, inr60 _ (List.mem_of_getElem? (i := 12) rfl)⟩, fun _ h => nomatch h⟩⟩⟩⟩⟩
def fl10_2 : List (Nat × Nat × Nat × Nat) := [(10, 33, 10, 7)]
set_option maxRecDepth 100000 in
theorem fl10_2_ok : ∀ e ∈ fl10_2, okF e := List.forall_mem_cons.mpr ⟨⟨_, _, _, rfl, Nat.le_of_ble_eq_true rfl, inr60 _ (List.mem_of_getElem? (i := 13) rfl)⟩, fun _ h => nomatch h⟩
def fl10L : List (List (Nat × Nat × Nat × Nat)) := [fl10_0, fl10_1, fl10_2]
theorem fl10L_ok : ∀ B ∈ fl10L, ∀ e ∈ B, okF e := List.forall_mem_cons.mpr ⟨fl10_0_ok, List.forall_mem_cons.mpr ⟨fl10_1_ok, List.forall_mem_cons.mpr ⟨fl10_2_ok, fun _ h => nomatch h⟩⟩⟩
def fl11_0 : List (Nat × Nat × Nat × Nat) := [(11, 12, 11, 0)]
set_option maxRecDepth 100000 in
theorem fl11_0_ok : ∀ e ∈ fl11_0, okF e := List.forall_mem_cons.mpr ⟨⟨_, _, _, rfl, Nat.le_of_ble_eq_true rfl, inr1 _ (List.mem_of_getElem? (i := 16) rfl)⟩, fun _ h => nomatch h⟩
def fl11_1 : List (Nat × Nat × Nat × Nat) := [(11, 19, 11, 1), (11, 23, 11, 2), (11, 26, 11, 4)]
set_option maxRecDepth 100000 in
theorem fl11_1_ok : ∀ e ∈ fl11_1, okF e := List.forall_mem_cons.mpr ⟨⟨_, _, _, rfl, Nat.le_of_ble_eq_true rfl, inr1 _ (List.mem_of_getElem? (i := 20) rfl)⟩, List.forall_mem_cons.mpr ⟨⟨_, _, _, rfl, Nat.le_of_ble_eq_true rfl, inr1 _ (List.mem_of_getElem? (i := 21) rfl)⟩, List.forall_mem_cons.mpr ⟨⟨_, _, _, rfl, Nat.le_of_ble_eq_true rfl, inr1 _ (List.mem_of_getElem? (i := 22) rfl)⟩, fun _ h => nomatch h⟩⟩⟩
def fl11_2 : List (Nat × Nat × Nat × Nat) := [(11, 35, 11, 5), (11, 44, 11, 6)]
set_option maxRecDepth 100000 in
theorem fl11_2_ok : ∀ e ∈ fl11_2, okF e := List.forall_mem_cons.mpr ⟨⟨_, _, _, rfl, Nat.le_of_ble_eq_true rfl, inr2 _ (List.mem_of_getElem? (i := 2) rfl)⟩, List.forall_mem_cons.mpr ⟨⟨_, _, _, rfl, Nat.le_of_ble_eq_true rfl, inr2 _ (List.mem_of_getElem? (i := 6) rfl)⟩, fun _ h => nomatch h⟩⟩
def fl11_3 : List (Nat × Nat × Nat × Nat) := [(11, 53, 11, 7), (11, 60, 11, 8)]
set_option maxRecDepth 100000 in
theorem fl11_3_ok : ∀ e ∈ fl11_3, okF e := List.forall_mem_cons.mpr ⟨⟨_, _, _, rfl, Nat.le_of_ble_eq_true rfl, inr2 _ (List.mem_of_getElem? (i := 10) rfl)⟩, List.forall_mem_cons.mpr ⟨⟨_, _, _, rfl, Nat.le_of_ble_eq_true rfl, inr2 _ (List.mem_of_getElem? (i := 14) rfl)⟩, fun _ h => nomatch h⟩⟩
def fl11_4 : List (Nat × Nat × Nat × Nat) := [(11, 67, 11, 9), (11, 74, 11, 10)]
set_option maxRecDepth 100000 in
theorem fl11_4_ok : ∀ e ∈ fl11_4, okF e := List.forall_mem_cons.mpr ⟨⟨_, _, _, rfl, Nat.le_of_ble_eq_true rfl, inr2 _ (List.mem_of_getElem? (i := 18) rfl)⟩, List.forall_mem_cons.mpr ⟨⟨_, _, _, rfl, Nat.le_of_ble_eq_true rfl, inr2 _ (List.mem_of_getElem? (i := 22) rfl)⟩, fun _ h => nomatch h⟩⟩
def fl11_5 : List (Nat × Nat × Nat × Nat) := [(11, 81, 11, 11), (11, 85, 11, 12), (11, 88, 11, 13), (11, 91, 4, 1)]
set_option maxRecDepth 100000 in
theorem fl11_5_ok : ∀ e ∈ fl11_5, okF e := List.forall_mem_cons.mpr ⟨⟨_, _, _, rfl, Nat.le_of_ble_eq_true rfl, inr3 _ (List.mem_of_getElem? (i := 2) rfl)⟩, List.forall_mem_cons.mpr ⟨⟨_, _, _, rfl, Nat.le_of_ble_eq_true rfl, inr3 _ (List.mem_of_getElem? (i := 3) rfl)⟩, List.forall_mem_cons.mpr ⟨⟨_, _, _, rfl, Nat.le_of_ble_eq_true rfl, inr3 _ (List.mem_of_getElem? (i := 4) rfl)⟩, List.forall_mem_cons.mpr ⟨⟨_, _, _, rfl, Nat.le_of_ble_eq_true rfl, inr8 _ (List.mem_of_getElem? (i := 2) rfl)⟩, fun _ h => nomatch h⟩⟩⟩⟩
def fl11_6 : List (Nat × Nat × Nat × Nat) := [(11, 101, 8, 1), (11, 104, 8, 2), (11, 110, 8, 0)]
set_option maxRecDepth 100000 in
theorem fl11_6_ok : ∀ e ∈ fl11_6, okF e := List.forall_mem_cons.mpr ⟨⟨_, _, _, rfl, Nat.le_of_ble_eq_true rfl, inr9 _ (List.mem_of_getElem? (i := 12) rfl)⟩, List.forall_mem_cons.mpr ⟨⟨_, _, _, rfl, Nat.le_of_ble_eq_true rfl, inr9 _ (List.mem_of_getElem? (i := 13) rfl)⟩, List.forall_mem_cons.mpr ⟨⟨_, _, _, rfl, Nat.le_of_ble_eq_true rfl, inr9 _ (List.mem_of_getElem? (i := 14) rfl)⟩, fun _ h => nomatch h⟩⟩⟩
def fl11_10 : List (Nat × Nat × Nat × Nat) := [(11, 161, 4, 0), (11, 171, 8, 3)]
set_option maxRecDepth 100000 in
theorem fl11_10_ok : ∀ e ∈ fl11_10, okF e := List.forall_mem_cons.mpr ⟨⟨_, _, _, rfl, Nat.le_of_ble_eq_true rfl, inr16 _ (List.mem_of_getElem? (i := 4) rfl)⟩, List.forall_mem_cons.mpr ⟨⟨_, _, _, rfl, Nat.le_of_ble_eq_true rfl, inr16 _ (List.mem_of_getElem? (i := 5) rfl)⟩, fun _ h => nomatch h⟩⟩
def fl11_11 : List (Nat × Nat × Nat × Nat) := [(11, 189, 2, 0)]
set_option maxRecDepth 100000 in
theorem fl11_11_ok : ∀ e ∈ fl11_11, okF e := List.forall_mem_cons.mpr ⟨⟨_, _, _, rfl, Nat.le_of_ble_eq_true rfl, inr22 _ (List.mem_of_getElem? (i := 18) rfl)⟩, fun _ h => nomatch h⟩
def fl11_13 : List (Nat × Nat × Nat × Nat) := [(11, 209, 9, 0), (11, 214, 9, 1), (11, 217, 9, 2), (11, 220, 9, 3)]
set_option maxRecDepth 100000 in
theorem fl11_13_ok : ∀ e ∈ fl11_13, okF e := List.forall_mem_cons.mpr ⟨⟨_, _, _, rfl, Nat.le_of_ble_eq_true rfl, inr25 _ (List.mem_of_getElem? (i := 15) rfl)⟩, List.forall_mem_cons.mpr ⟨⟨_, _, _, rfl, Nat.le_of_ble_eq_true rfl, inr25 _ (List.mem_of_getElem? (i := 16) rfl)⟩, List.forall_mem_cons.mpr ⟨⟨_, _, _, rfl, Nat.le_of_ble_eq_true rfl, inr25 _ (List.mem_of_getElem? (i := 17) rfl)⟩, List.forall_mem_cons.mpr ⟨⟨_, _, _, rfl, Nat.le_of_ble_eq_true rfl, inr25 _ (List.mem_of_getElem? (i := 18) rfl)⟩, fun _ h => nomatch h⟩⟩⟩⟩
def fl11_18 : List (Nat × Nat × Nat × Nat) := [(11, 299, 6, 1), (11, 296, 6, 0)]
set_option maxRecDepth 100000 in
theorem fl11_18_ok : ∀ e ∈ fl11_18, okF e := List.forall_mem_cons.mpr ⟨⟨_, _, _, rfl, Nat.le_of_ble_eq_true rfl, inr43 _ (List.mem_of_getElem? (i := 13) rfl)⟩, List.forall_mem_cons.mpr ⟨⟨_, _, _, rfl, Nat.le_of_ble_eq_true rfl, inr54 _ (List.mem_of_getElem? (i := 3) rfl)⟩, fun _ h => nomatch h⟩⟩
def fl11_19 : List (Nat × Nat × Nat × Nat) := [(11, 308, 3, 0)]
set_option maxRecDepth 100000 in
theorem fl11_19_ok : ∀ e ∈ fl11_19, okF e := List.forall_mem_cons.mpr ⟨⟨_, _, _, rfl, Nat.le_of_ble_eq_true rfl, inr55 _ (List.mem_of_getElem? (i := 2) rfl)⟩, fun _ h => nomatch h⟩
def fl11_23 : List (Nat × Nat × Nat × Nat) := [(11, 375, 11, 3), (11, 379, 8, 4), (11, 382, 8, 5)]
set_option maxRecDepth 100000 in
theorem fl11_23_ok : ∀ e ∈ fl11_23, okF e := List.forall_mem_cons.mpr ⟨⟨_, _, _, rfl, Nat.le_of_ble_eq_true rfl, inr67 _ (List.mem_of_getElem? (i := 18) rfl)⟩, List.forall_mem_cons.mpr ⟨⟨_, _, _, rfl, Nat.le_of_ble_eq_true rfl, inr69 _ (List.mem_of_getElem? (i := 2) rfl)⟩, List.forall_mem_cons.mpr ⟨⟨_, _, _, rfl, Nat.le_of_ble_eq_true rfl, inr69 _ (List.mem_of_getElem? (i := 3) rfl)⟩, fun _ h => nomatch h⟩⟩⟩
def fl11L : List (List (Nat × Nat × Nat × Nat)) := [fl11_0, fl11_1, fl11_2, fl11_3, fl11_4, fl11_5, fl11_6, [], [], [], fl11_10, fl11_11, [], fl11_13, [], [], [], [], fl11_18, fl11_19, [], [], [], fl11_23]
theorem fl11L_ok : ∀ B ∈ fl11L, ∀ e ∈ B, okF e := List.forall_mem_cons.mpr ⟨fl11_0_ok, List.forall_mem_cons.mpr ⟨fl11_1_ok, List.forall_mem_cons.mpr ⟨fl11_2_ok, List.forall_mem_cons.mpr ⟨fl11_3_ok, List.forall_mem_cons.mpr ⟨fl11_4_ok, List.forall_mem_cons.mpr ⟨fl11_5_ok, List.forall_mem_cons.mpr ⟨fl11_6_ok, List.forall_mem_cons.mpr ⟨(fun _ h => nomatch h), List.forall_mem_cons.mpr ⟨(fun _ h => nomatch h), List.forall_mem_cons.mpr ⟨(fun _ h => nomatch h), List.forall_mem_cons.mpr ⟨fl11_10_ok, List.forall_mem_cons.mpr ⟨fl11_11_ok, List.forall_mem_cons.mpr ⟨(fun _ h => nomatch h), List.forall_mem_cons.mpr ⟨fl11_13_ok, List.forall_mem_cons.mpr ⟨(fun _ h => nomatch h), List.forall_mem_cons.mpr ⟨(fun _ h => nomatch h), List.forall_mem_cons.mpr ⟨(fun _ h => nomatch h), List.forall_mem_cons.mpr ⟨(fun _ h => nomatch h), List.forall_mem_cons.mpr ⟨fl11_18_ok, List.forall_mem_cons.mpr ⟨fl11_19_ok, List.forall_mem_cons.mpr ⟨(fun _ h => nomatch h), List.forall_mem_cons.mpr ⟨(fun _ h => nomatch h), List.forall_mem_cons.mpr ⟨(fun _ h => nomatch h), List.forall_mem_cons.mpr ⟨fl11_23_ok, fun _ h => nomatch h⟩⟩⟩⟩⟩⟩⟩⟩⟩⟩⟩⟩⟩⟩⟩⟩⟩⟩⟩⟩⟩⟩⟩⟩
def fl12_0 : List (Nat × Nat × Nat × Nat) := [(12, 13, 12, 1), (12, 3, 12, 0)]
set_option maxRecDepth 100000 in
theorem fl12_0_ok : ∀ e ∈ fl12_0, okF e := List.forall_mem_cons.mpr ⟨⟨_, _, _, rfl, Nat.le_of_ble_eq_true rfl, inr7 _ (List.mem_of_getElem? (i := 5) rfl)⟩, List.forall_mem_cons.mpr ⟨⟨_, _, _, rfl, Nat.le_of_ble_eq_true rfl, inr8 _ (List.mem_of_getElem? (i := 12) rfl)⟩, fun _ h => nomatch h⟩⟩
def fl12_1 : List (Nat × Nat × Nat × Nat) := [(12, 17, 12, 2), (12, 20, 12, 4), (12, 23, 12, 5), (12, 26, 12, 10), (12, 30, 12, 17)]
set_option maxRecDepth 100000 in
theorem fl12_1_ok : ∀ e ∈ fl12_1, okF e := List.forall_mem_cons.mpr ⟨⟨_, _, _, rfl, Nat.le_of_ble_eq_true rfl, inr7 _ (List.mem_of_getElem? (i := 6) rfl)⟩, List.forall_mem_cons.mpr ⟨⟨_, _, _, rfl, Nat.le_of_ble_eq_true rfl, inr7 _ (List.mem_of_getElem? (i := 7) rfl)⟩, List.forall_mem_cons.mpr ⟨⟨_, _, _, rfl, Nat.le_of_ble_eq_true rfl, inr7 _ (List.mem_of_getElem? (i := 8) rfl)⟩, List.forall_mem_cons.mpr ⟨⟨_, _, _, rfl, Nat.le_of_ble_eq_true rfl, inr7 _ (List.mem_of_getElem? (i := 10) rfl)⟩, List.forall_mem_cons.mpr ⟨⟨_, _, _, rfl, Nat.le_of_ble_eq_true rfl, inr7 _ (List.mem_of_getElem? (i := 11) rfl)⟩, fun _ h => nomatch h⟩⟩⟩⟩⟩
def fl12_2 : List (Nat × Nat × Nat × Nat) := [(12, 33, 12, 18), (12, 36, 12, 20), (12, 39, 12, 21), (12, 43, 12, 22), (12, 46, 12, 23)]
set_option maxRecDepth 100000 in
theorem fl12_2_ok : ∀ e ∈ fl12_2, okF e := List.forall_mem_cons.mpr ⟨⟨_, _, _, rfl, Nat.le_of_ble_eq_true rfl, inr7 _ (List.mem_of_getElem? (i := 12) rfl)⟩, List.forall_mem_cons.mpr ⟨⟨_, _, _, rfl, Nat.le_of_ble_eq_true rfl, inr7 _ (List.mem_of_getElem? (i := 13) rfl)⟩, List.forall_mem_cons.mpr ⟨⟨_, _, _, rfl, Nat.le_of_ble_eq_true rfl, inr7 _ (List.mem_of_getElem? (i := 14) rfl)⟩, List.forall_mem_cons.mpr ⟨⟨_, _, _, rfl, Nat.le_of_ble_eq_true rfl, inr7 _ (List.mem_of_getElem? (i := 15) rfl)⟩, List.forall_mem_cons.mpr ⟨⟨_, _, _, rfl, Nat.le_of_ble_eq_true rfl, inr7 _ (List.mem_of_getElem? (i := 16) rfl)⟩, fun _ h => nomatch h⟩⟩⟩⟩⟩
def fl12_3 : List (Nat × Nat × Nat × Nat) := [(12, 49, 12, 25), (12, 52, 12, 26), (12, 55, 12, 27), (12, 58, 12, 28), (12, 61, 12, 34)]
set_option maxRecDepth 100000 in
theorem fl12_3_ok : ∀ e ∈ fl12_3, okF e := List.forall_mem_cons.mpr ⟨⟨_, _, _, rfl, Nat.le_of_ble_eq_true rfl, inr7 _ (List.mem_of_getElem? (i := 17) rfl)⟩, List.forall_mem_cons.mpr ⟨⟨_, _, _, rfl, Nat.le_of_ble_eq_true rfl, inr7 _ (List.mem_of_getElem? (i := 18) rfl)⟩, List.forall_mem_cons.mpr ⟨⟨_, _, _, rfl, Nat.le_of_ble_eq_true rfl, inr7 _ (List.mem_of_getElem? (i := 19) rfl)⟩, List.forall_mem_cons.mpr ⟨⟨_, _, _, rfl, Nat.le_of_ble_eq_true rfl, inr7 _ (List.mem_of_getElem? (i := 20) rfl)⟩, List.forall_mem_cons.mpr ⟨⟨_, _, _, rfl, Nat.le_of_ble_eq_true rfl, inr7 _ (List.mem_of_getElem? (i := 21) rfl)⟩, fun _ h => nomatch h⟩⟩⟩⟩⟩
def fl12_4 : List (Nat × Nat × Nat × Nat) := [(12, 64, 12, 3)]
set_option maxRecDepth 100000 in
theorem fl12_4_ok : ∀ e ∈ fl12_4, okF e := List.forall_mem_cons.mpr ⟨⟨_, _, _, rfl, Nat.le_of_ble_eq_true rfl, inr68 _ (List.mem_of_getElem? (i := 13) rfl)⟩, fun _ h => nomatch h⟩
def fl12_8 : List (Nat × Nat × Nat × Nat) := [(12, 131, 12, 6), (12, 134, 12, 7), (12, 137, 12, 8), (12, 140, 12, 9)]
set_option maxRecDepth 100000 in
theorem fl12_8_ok : ∀ e ∈ fl12_8, okF e := List.forall_mem_cons.mpr ⟨⟨_, _, _, rfl, Nat.le_of_ble_eq_true rfl, inr15 _ (List.mem_of_getElem? (i := 1) rfl)⟩, List.forall_mem_cons.mpr ⟨⟨_, _, _, rfl, Nat.le_of_ble_eq_true rfl, inr15 _ (List.mem_of_getElem? (i := 2) rfl)⟩, List.forall_mem_cons.mpr ⟨⟨_, _, _, rfl, Nat.le_of_ble_eq_true rfl, inr15 _ (List.mem_of_getElem? (i := 3) rfl)⟩, List.forall_mem_cons.mpr ⟨⟨_, _, _, rfl, Nat.le_of_ble_eq_true rfl, inr15 _ (List.mem_of_getElem? (i := 4) rfl)⟩, fun _ h => nomatch h⟩⟩⟩⟩
def fl12_9 : List (Nat × Nat × Nat × Nat) := [(12, 155, 12, 11), (12, 158, 12, 12)]
set_option maxRecDepth 100000 in
theorem fl12_9_ok : ∀ e ∈ fl12_9, okF e := List.forall_mem_cons.mpr ⟨⟨_, _, _, rfl, Nat.le_of_ble_eq_true rfl, inr8 _ (List.mem_of_getElem? (i := 13) rfl)⟩, List.forall_mem_cons.mpr ⟨⟨_, _, _, rfl, Nat.le_of_ble_eq_true rfl, inr12 _ (List.mem_of_getElem? (i := 13) rfl)⟩, fun _ h => nomatch h⟩⟩
def fl12_10 : List (Nat × Nat × Nat × Nat) := [(12, 161, 12, 13), (12, 174, 12, 16), (12, 168, 12, 14)]
set_option maxRecDepth 100000 in
theorem fl12_10_ok : ∀ e ∈ fl12_10, okF e := List.forall_mem_cons.mpr ⟨⟨_, _, _, rfl, Nat.le_of_ble_eq_true rfl, inr12 _ (List.mem_of_getElem? (i := 8) rfl)⟩, List.forall_mem_cons.mpr ⟨⟨_, _, _, rfl, Nat.le_of_ble_eq_true rfl, inr19 _ (List.mem_of_getElem? (i := 17) rfl)⟩, List.forall_mem_cons.mpr ⟨⟨_, _, _, rfl, Nat.le_of_ble_eq_true rfl, inr19 _ (List.mem_of_getElem? (i := 19) rfl)⟩, fun _ h => nomatch h⟩⟩⟩
def fl12_11 : List (Nat × Nat × Nat × Nat) := [(12, 180, 12, 15), (12, 177, 12, 19)]
set_option maxRecDepth 100000 in
theorem fl12_11_ok : ∀ e ∈ fl12_11, okF e := List.forall_mem_cons.mpr ⟨⟨_, _, _, rfl, Nat.le_of_ble_eq_true rfl, inr19 _ (List.mem_of_getElem? (i := 16) rfl)⟩, List.forall_mem_cons.mpr ⟨⟨_, _, _, rfl, Nat.le_of_ble_eq_true rfl, inr19 _ (List.mem_of_getElem? (i := 18) rfl)⟩, fun _ h => nomatch h⟩⟩
def fl12_18 : List (Nat × Nat × Nat × Nat) := [(12, 294, 12, 24)]
set_option maxRecDepth 100000 in
theorem fl12_18_ok : ∀ e ∈ fl12_18, okF e := List.forall_mem_cons.mpr ⟨⟨_, _, _, rfl, Nat.le_of_ble_eq_true rfl, inr42 _ (List.mem_of_getElem? (i := 9) rfl)⟩, fun _ h => nomatch h⟩
def fl12_22 : List (Nat × Nat × Nat × Nat) := [(12, 357, 12, 29)]
set_option maxRecDepth 100000 in
theorem fl12_22_ok : ∀ e ∈ fl12_22, okF e := List.forall_mem_cons.mpr ⟨⟨_, _, _, rfl, Nat.le_of_ble_eq_true rfl, inr57 _ (List.mem_of_getElem? (i := 9) rfl)⟩, fun _ h => nomatch h⟩
def fl12_23 : List (Nat × Nat × Nat × Nat) := [(12, 381, 12, 33)]
set_option maxRecDepth 100000 in
theorem fl12_23_ok : ∀ e ∈ fl12_23, okF e := List.forall_mem_cons.mpr ⟨⟨_, _, _, rfl, Nat.le_of_ble_eq_true rfl, inr62 _ (List.mem_of_getElem? (i := 0) rfl)⟩, fun _ h => nomatch h⟩
def fl12_24 : List (Nat × Nat × Nat × Nat) := [(12, 388, 12, 30), (12, 385, 12, 31), (12, 391, 12, 32)]
set_option maxRecDepth 100000 in
theorem fl12_24_ok : ∀ e ∈ fl12_24, okF e := List.forall_mem_cons.mpr ⟨⟨_, _, _, rfl, Nat.le_of_ble_eq_true rfl, inr61 _ (List.mem_of_getElem? (i := 20) rfl)⟩, List.forall_mem_cons.mpr ⟨⟨_, _, _, rfl, Nat.le_of_ble_eq_true rfl, inr61 _ (List.mem_of_getElem? (i := 21) rfl)⟩, List.forall_mem_cons.mpr ⟨⟨_, _, _, rfl, Nat.le_of_ble_eq_true rfl, inr61 _ (List.mem_of_getElem? (i := 22) rfl)⟩, fun _ h => nomatch h⟩⟩⟩
def fl12_26 : List (Nat × Nat × Nat × Nat) := [(12, 431, 12, 35)]
set_option maxRecDepth 100000 in
theorem fl12_26_ok : ∀ e ∈ fl12_26, okF e := List.forall_mem_cons.mpr ⟨⟨_, _, _, rfl, Nat.le_of_ble_eq_true rfl, inr64 _ (List.mem_of_getElem? (i := 13) rfl)⟩, fun _ h => nomatch h⟩
def fl12_27 : List (Nat × Nat × Nat × Nat) := [(12, 434, 12, 36), (12, 437, 12, 37)]
set_option maxRecDepth 100000 in
theorem fl12_27_ok : ∀ e ∈ fl12_27, okF e := List.forall_mem_cons.mpr ⟨⟨_, _, _, rfl, Nat.le_of_ble_eq_true rfl, inr64 _ (List.mem_of_getElem? (i := 14) rfl)⟩, List.forall_mem_cons.mpr ⟨⟨_, _, _, rfl, Nat.le_of_ble_eq_true rfl, inr64 _ (List.mem_of_getElem? (i := 15) rfl)⟩, fun _ h => nomatch h⟩⟩
def fl12L : List (List (Nat × Nat × Nat × Nat)) := [fl12_0, fl12_1, fl12_2, fl12_3, fl12_4, [], [], [], fl12_8, fl12_9, fl12_10, fl12_11, [], [], [], [], [], [], fl12_18, [], [], [], fl12_22, fl12_23, fl12_24, [], fl12_26, fl12_27]
theorem fl12L_ok : ∀ B ∈ fl12L, ∀ e ∈ B, okF e := List.forall_mem_cons.mpr ⟨fl12_0_ok, List.forall_mem_cons.mpr ⟨fl12_1_ok, List.forall_mem_cons.mpr ⟨fl12_2_ok, List.forall_mem_cons.mpr ⟨fl12_3_ok, List.forall_mem_cons.mpr ⟨fl12_4_ok, List.forall_mem_cons.mpr ⟨(fun _ h => nomatch h), List.forall_mem_cons.mpr ⟨(fun _ h => nomatch h), List.forall_mem_cons.mpr ⟨(fun _ h => nomatch h), List.forall_mem_cons.mpr ⟨fl12_8_ok, List.forall_mem_cons.mpr ⟨fl12_9_ok, List.forall_mem_cons.mpr ⟨fl12_10_ok, List.forall_mem_cons.mpr ⟨fl12_11_ok, List.forall_mem_cons.mpr ⟨(fun _ h => nomatch h), List.forall_mem_cons.mpr ⟨(fun _ h => nomatch h), List.forall_mem_cons.mpr ⟨(fun _ h => nomatch h), List.forall_mem_cons.mpr ⟨(fun _ h => nomatch h), List.forall_mem_cons.mpr ⟨(fun _ h => nomatch h), List.forall_mem_cons.mpr ⟨(fun _ h => nomatch h), List.forall_mem_cons.mpr ⟨fl12_18_ok, List.forall_mem_cons.mpr ⟨(fun _ h => nomatch h), List.forall_mem_cons.mpr ⟨(fun _ h => nomatch h), List.forall_mem_cons.mpr ⟨(fun _ h => nomatch h), List.forall_mem_cons.mpr ⟨fl12_22_ok, List.forall_mem_cons.mpr ⟨fl12_23_ok, List.forall_mem_cons.mpr ⟨fl12_24_ok, List.forall_mem_cons.mpr ⟨(fun _ h => nomatch h), List.forall_mem_cons.mpr ⟨fl12_26_ok, List.forall_mem_cons.mpr ⟨fl12_27_ok, fun _ h => nomatch h⟩⟩⟩⟩⟩⟩⟩⟩⟩⟩⟩⟩⟩⟩⟩⟩⟩⟩⟩⟩⟩⟩⟩⟩⟩⟩⟩⟩
def flG : List (List (List (Nat × Nat × Nat × Nat))) := [fl0L, fl1L, fl2L, fl3L, fl4L, fl5L, fl6L, fl7L, fl8L, fl9L, fl10L, fl11L, fl12L, [], [], [], [], [], [], [], [], [], [], [], [], [], [], [], [], []]
theorem flG_ok : ∀ G ∈ flG, ∀ B ∈ G, ∀ e ∈ B, okF e := List.forall_mem_cons.mpr ⟨fl0L_ok, List.forall_mem_cons.mpr ⟨fl1L_ok, List.forall_mem_cons.mpr ⟨fl2L_ok, List.forall_mem_cons.mpr ⟨fl3L_ok, List.forall_mem_cons.mpr ⟨fl4L_ok, List.forall_mem_cons.mpr ⟨fl5L_ok, List.forall_mem_cons.mpr ⟨fl6L_ok, List.forall_mem_cons.mpr ⟨fl7L_ok, List.forall_mem_cons.mpr ⟨fl8L_ok, List.forall_mem_cons.mpr ⟨fl9L_ok, List.forall_mem_cons.mpr ⟨fl10L_ok, List.forall_mem_cons.mpr ⟨fl11L_ok, List.forall_mem_cons.mpr ⟨fl12L_ok, List.forall_mem_cons.mpr ⟨(fun _ h => nomatch h), List.forall_mem_cons.mpr ⟨(fun _ h => nomatch h), List.forall_mem_cons.mpr ⟨(fun _ h => nomatch h), List.forall_mem_cons.mpr ⟨(fun _ h => nomatch h), List.forall_mem_cons.mpr ⟨(fun _ h => nomatch h), List.forall_mem_cons.mpr ⟨(fun _ h => nomatch h), List.forall_mem_cons.mpr ⟨(fun _ h => nomatch h), List.forall_mem_cons.mpr ⟨(fun _ h => nomatch h), List.forall_mem_cons.mpr ⟨(fun _ h => nomatch h), List.forall_mem_cons.mpr ⟨(fun _ h => nomatch h), List.forall_mem_cons.mpr ⟨(fun _ h => nomatch h), List.forall_mem_cons.mpr ⟨(fun _ h => nomatch h), List.forall_mem_cons.mpr ⟨(fun _ h => nomatch h), List.forall_mem_cons.mpr ⟨(fun _ h => nomatch h), List.forall_mem_cons.mpr ⟨(fun _ h => nomatch h), List.forall_mem_cons.mpr ⟨(fun _ h => nomatch h), List.forall_mem_cons.mpr ⟨(fun _ h => nomatch h), fun _ h => nomatch h⟩⟩⟩⟩⟩⟩⟩⟩⟩⟩⟩⟩⟩⟩⟩⟩⟩⟩⟩⟩⟩⟩⟩⟩⟩⟩⟩⟩⟩⟩
def okC (e : Nat × Nat × Nat × Nat × Nat) : Prop := ∃ q, P_mq e.2.2.2.1 = some q ∧ Cond.methodLink (P_ow e.1) e.2.1 q.1 ∈ wsL_law ∧ Cond.initialized q.1.cls ∈ wsL_law ∧ (parseMethodDescriptor q.1.desc).map (fun d => d.parameters.length) = some e.2.2.2.2 ∧ (match e.2.2.1 with | 0 => Cond.instanceMethod q.1 ∈ wsL_law ∧ Cond.selects q.1.cls q.1 q.1 ∈ wsL_law | 1 => Cond.static q.1 ∈ wsL_law | _ => Cond.instanceMethod q.1 ∈ wsL_law ∧ q.1.name = "<init>")
def okCA (e : Nat × Nat × Nat × Nat × Nat) : Prop := ∃ q, P_mq e.2.2.2.1 = some q ∧ Cond.methodLink (P_ow e.1) e.2.1 q.1 ∈ wsL_law ∧ Cond.initialized q.1.cls ∈ wsL_law ∧ (match e.2.2.1 with | 0 => Cond.instanceMethod q.1 ∈ wsL_law ∧ Cond.selects q.1.cls q.1 q.1 ∈ wsL_law | 1 => Cond.static q.1 ∈ wsL_law | _ => Cond.instanceMethod q.1 ∈ wsL_law ∧ q.1.name = "<init>")
def okCB (e : Nat × Nat × Nat × Nat × Nat) : Prop := (P_mq e.2.2.2.1).map (fun q => (parseMethodDescriptor q.1.desc).map (fun d => d.parameters.length)) = some (some e.2.2.2.2)
def mt0_1 : List (Nat × Nat × Nat × Nat × Nat) := [(0, 31, 0, 3, 1)]
set_option maxRecDepth 100000 in
theorem mt0_1_a : ∀ e ∈ mt0_1, okCA e := List.forall_mem_cons.mpr ⟨⟨_, rfl, inr13 _ (List.mem_of_getElem? (i := 19) rfl), inr2 _ (List.mem_of_getElem? (i := 1) rfl), ⟨inr11 _ (List.mem_of_getElem? (i := 15) rfl), inr11 _ (List.mem_of_getElem? (i := 16) rfl)⟩⟩, fun _ h => nomatch h⟩
set_option maxRecDepth 100000 in
theorem mt0_1_b : ∀ e ∈ mt0_1, okCB e := by unfold okCB; decide +kernel
theorem mt0_1_ok : ∀ e ∈ mt0_1, okC e := fun e h => by
  obtain ⟨q, h1, h2, h3, h4⟩ := mt0_1_a e h
  have b := mt0_1_b e h
  unfold okCB at b
  rw [h1] at b
  exact ⟨q, h1, h2, h3, Option.some.inj b, h4⟩
def mt0_2 : List (Nat × Nat × Nat × Nat × Nat) := [(0, 39, 0, 7, 4), (0, 35, 0, 4, 2)]
set_option maxRecDepth 100000 in
theorem mt0_2_a : ∀ e ∈ mt0_2, okCA e := List.forall_mem_cons.mpr ⟨⟨_, rfl, inr14 _ (List.mem_of_getElem? (i := 9) rfl), inr4 _ (List.mem_of_getElem? (i := 8) rfl), ⟨inr14 _ (List.mem_of_getElem? (i := 10) rfl), inr14 _ (List.mem_of_getElem? (i := 11) rfl)⟩⟩, List.forall_mem_cons.mpr ⟨⟨_, rfl, inr41 _ (List.mem_of_getElem? (i := 8) rfl), inr2 _ (List.mem_of_getElem? (i := 1) rfl), ⟨inr37 _ (List.mem_of_getElem? (i := 12) rfl), inr37 _ (List.mem_of_getElem? (i := 13) rfl)⟩⟩, fun _ h => nomatch h⟩⟩
set_option maxRecDepth 100000 in
theorem mt0_2_b : ∀ e ∈ mt0_2, okCB e := by unfold okCB; decide +kernel
theorem mt0_2_ok : ∀ e ∈ mt0_2, okC e := fun e h => by
  obtain ⟨q, h1, h2, h3, h4⟩ := mt0_2_a e h
  have b := mt0_2_b e h
  unfold okCB at b
  rw [h1] at b
  exact ⟨q, h1, h2, h3, Option.some.inj b, h4⟩
def mt0_3 : List (Nat × Nat × Nat × Nat × Nat) := [(0, 48, 0, 10, 1), (0, 55, 0, 16, 1), (0, 52, 0, 12, 2)]
set_option maxRecDepth 100000 in
theorem mt0_3_a : ∀ e ∈ mt0_3, okCA e := List.forall_mem_cons.mpr ⟨⟨_, rfl, inr24 _ (List.mem_of_getElem? (i := 3) rfl), inr3 _ (List.mem_of_getElem? (i := 1) rfl), ⟨inr22 _ (List.mem_of_getElem? (i := 20) rfl), inr22 _ (List.mem_of_getElem? (i := 21) rfl)⟩⟩, List.forall_mem_cons.mpr ⟨⟨_, rfl, inr27 _ (List.mem_of_getElem? (i := 7) rfl), inr3 _ (List.mem_of_getElem? (i := 1) rfl), ⟨inr11 _ (List.mem_of_getElem? (i := 2) rfl), inr11 _ (List.mem_of_getElem? (i := 3) rfl)⟩⟩, List.forall_mem_cons.mpr ⟨⟨_, rfl, inr27 _ (List.mem_of_getElem? (i := 8) rfl), inr3 _ (List.mem_of_getElem? (i := 1) rfl), ⟨inr11 _ (List.mem_of_getElem? (i := 20) rfl), inr11 _ (List.mem_of_getElem? (i := 21) rfl)⟩⟩, fun _ h => nomatch h⟩⟩⟩
set_option maxRecDepth 100000 in
theorem mt0_3_b : ∀ e ∈ mt0_3, okCB e := by unfold okCB; decide +kernel
theorem mt0_3_ok : ∀ e ∈ mt0_3, okC e := fun e h => by
  obtain ⟨q, h1, h2, h3, h4⟩ := mt0_3_a e h
  have b := mt0_3_b e h
  unfold okCB at b
  rw [h1] at b
  exact ⟨q, h1, h2, h3, Option.some.inj b, h4⟩
def mt0_4 : List (Nat × Nat × Nat × Nat × Nat) := [(0, 65, 0, 17, 3), (0, 75, 0, 19, 4), (0, 79, 0, 21, 4)]
set_option maxRecDepth 100000 in
theorem mt0_4_a : ∀ e ∈ mt0_4, okCA e := List.forall_mem_cons.mpr ⟨⟨_, rfl, inr27 _ (List.mem_of_getElem? (i := 9) rfl), inr2 _ (List.mem_of_getElem? (i := 1) rfl), ⟨inr27 _ (List.mem_of_getElem? (i := 10) rfl), inr27 _ (List.mem_of_getElem? (i := 11) rfl)⟩⟩, List.forall_mem_cons.mpr ⟨⟨_, rfl, inr33 _ (List.mem_of_getElem? (i := 10) rfl), inr2 _ (List.mem_of_getElem? (i := 1) rfl), ⟨inr33 _ (List.mem_of_getElem? (i := 11) rfl), inr33 _ (List.mem_of_getElem? (i := 12) rfl)⟩⟩, List.forall_mem_cons.mpr ⟨⟨_, rfl, inr33 _ (List.mem_of_getElem? (i := 18) rfl), inr2 _ (List.mem_of_getElem? (i := 1) rfl), ⟨inr33 _ (List.mem_of_getElem? (i := 19) rfl), inr33 _ (List.mem_of_getElem? (i := 20) rfl)⟩⟩, fun _ h => nomatch h⟩⟩⟩
set_option maxRecDepth 100000 in
theorem mt0_4_b : ∀ e ∈ mt0_4, okCB e := by unfold okCB; decide +kernel
theorem mt0_4_ok : ∀ e ∈ mt0_4, okC e := fun e h => by
  obtain ⟨q, h1, h2, h3, h4⟩ := mt0_4_a e h
  have b := mt0_4_b e h
  unfold okCB at b
  rw [h1] at b
  exact ⟨q, h1, h2, h3, Option.some.inj b, h4⟩
def mt0_5 : List (Nat × Nat × Nat × Nat × Nat) := [(0, 83, 0, 23, 0), (0, 87, 0, 24, 1), (0, 91, 0, 11, 3), (0, 95, 0, 25, 2)]
set_option maxRecDepth 100000 in
theorem mt0_5_a : ∀ e ∈ mt0_5, okCA e := List.forall_mem_cons.mpr ⟨⟨_, rfl, inr49 _ (List.mem_of_getElem? (i := 9) rfl), inr3 _ (List.mem_of_getElem? (i := 1) rfl), ⟨inr44 _ (List.mem_of_getElem? (i := 2) rfl), inr44 _ (List.mem_of_getElem? (i := 3) rfl)⟩⟩, List.forall_mem_cons.mpr ⟨⟨_, rfl, inr50 _ (List.mem_of_getElem? (i := 23) rfl), inr3 _ (List.mem_of_getElem? (i := 1) rfl), ⟨inr28 _ (List.mem_of_getElem? (i := 4) rfl), inr28 _ (List.mem_of_getElem? (i := 5) rfl)⟩⟩, List.forall_mem_cons.mpr ⟨⟨_, rfl, inr52 _ (List.mem_of_getElem? (i := 5) rfl), inr2 _ (List.mem_of_getElem? (i := 1) rfl), ⟨inr23 _ (List.mem_of_getElem? (i := 23) rfl), inr24 _ (List.mem_of_getElem? (i := 0) rfl)⟩⟩, List.forall_mem_cons.mpr ⟨⟨_, rfl, inr52 _ (List.mem_of_getElem? (i := 6) rfl), inr2 _ (List.mem_of_getElem? (i := 1) rfl), ⟨inr52 _ (List.mem_of_getElem? (i := 7) rfl), inr52 _ (List.mem_of_getElem? (i := 8) rfl)⟩⟩, fun _ h => nomatch h⟩⟩⟩⟩
set_option maxRecDepth 100000 in
theorem mt0_5_b : ∀ e ∈ mt0_5, okCB e := by unfold okCB; decide +kernel
theorem mt0_5_ok : ∀ e ∈ mt0_5, okC e := fun e h => by
  obtain ⟨q, h1, h2, h3, h4⟩ := mt0_5_a e h
  have b := mt0_5_b e h
  unfold okCB at b
  rw [h1] at b
  exact ⟨q, h1, h2, h3, Option.some.inj b, h4⟩
def mt0_6 : List (Nat × Nat × Nat × Nat × Nat) := [(0, 99, 0, 5, 1), (0, 102, 0, 20, 3), (0, 106, 0, 27, 1), (0, 110, 1, 315, 2)]
set_option maxRecDepth 100000 in
theorem mt0_6_a : ∀ e ∈ mt0_6, okCA e := List.forall_mem_cons.mpr ⟨⟨_, rfl, inr49 _ (List.mem_of_getElem? (i := 10) rfl), inr2 _ (List.mem_of_getElem? (i := 1) rfl), ⟨inr41 _ (List.mem_of_getElem? (i := 5) rfl), inr41 _ (List.mem_of_getElem? (i := 6) rfl)⟩⟩, List.forall_mem_cons.mpr ⟨⟨_, rfl, inr49 _ (List.mem_of_getElem? (i := 11) rfl), inr2 _ (List.mem_of_getElem? (i := 1) rfl), ⟨inr33 _ (List.mem_of_getElem? (i := 7) rfl), inr33 _ (List.mem_of_getElem? (i := 8) rfl)⟩⟩, List.forall_mem_cons.mpr ⟨⟨_, rfl, inr49 _ (List.mem_of_getElem? (i := 12) rfl), inr3 _ (List.mem_of_getElem? (i := 1) rfl), ⟨inr27 _ (List.mem_of_getElem? (i := 14) rfl), inr27 _ (List.mem_of_getElem? (i := 15) rfl)⟩⟩, List.forall_mem_cons.mpr ⟨⟨_, rfl, inr50 _ (List.mem_of_getElem? (i := 22) rfl), inr13 _ (List.mem_of_getElem? (i := 6) rfl), inr41 _ (List.mem_of_getElem? (i := 1) rfl)⟩, fun _ h => nomatch h⟩⟩⟩⟩
set_option maxRecDepth 100000 in
theorem mt0_6_b : ∀ e ∈ mt0_6, okCB e := by unfold okCB; decide +kernel
theorem mt0_6_ok : ∀ e ∈ mt0_6, okC e := fun e h => by
  obtain ⟨q, h1, h2, h3, h4⟩ := mt0_6_a e h
  have b := mt0_6_b e h
  unfold okCB at b
  rw [h1] at b
  exact ⟨q, h1, h2, h3, Option.some.inj b, h4⟩
def mt0_7 : List (Nat × Nat × Nat × Nat × Nat) := [(0, 115, 0, 29, 0), (0, 118, 0, 30, 0), (0, 122, 0, 31, 2)]
set_option maxRecDepth 100000 in
theorem mt0_7_a : ∀ e ∈ mt0_7, okCA e := List.forall_mem_cons.mpr ⟨⟨_, rfl, inr51 _ (List.mem_of_getElem? (i := 0) rfl), inr3 _ (List.mem_of_getElem? (i := 1) rfl), ⟨inr51 _ (List.mem_of_getElem? (i := 1) rfl), inr51 _ (List.mem_of_getElem? (i := 2) rfl)⟩⟩, List.forall_mem_cons.mpr ⟨⟨_, rfl, inr51 _ (List.mem_of_getElem? (i := 4) rfl), inr3 _ (List.mem_of_getElem? (i := 1) rfl), ⟨inr43 _ (List.mem_of_getElem? (i := 22) rfl), inr43 _ (List.mem_of_getElem? (i := 23) rfl)⟩⟩, List.forall_mem_cons.mpr ⟨⟨_, rfl, inr51 _ (List.mem_of_getElem? (i := 5) rfl), inr2 _ (List.mem_of_getElem? (i := 1) rfl), ⟨inr51 _ (List.mem_of_getElem? (i := 6) rfl), inr51 _ (List.mem_of_getElem? (i := 7) rfl)⟩⟩, fun _ h => nomatch h⟩⟩⟩
set_option maxRecDepth 100000 in
theorem mt0_7_b : ∀ e ∈ mt0_7, okCB e := by unfold okCB; decide +kernel
theorem mt0_7_ok : ∀ e ∈ mt0_7, okC e := fun e h => by
  obtain ⟨q, h1, h2, h3, h4⟩ := mt0_7_a e h
  have b := mt0_7_b e h
  unfold okCB at b
  rw [h1] at b
  exact ⟨q, h1, h2, h3, Option.some.inj b, h4⟩
def mt0L : List (List (Nat × Nat × Nat × Nat × Nat)) := [[], mt0_1, mt0_2, mt0_3, mt0_4, mt0_5, mt0_6, mt0_7]
theorem mt0L_ok : ∀ B ∈ mt0L, ∀ e ∈ B, okC e := List.forall_mem_cons.mpr ⟨(fun _ h => nomatch h), List.forall_mem_cons.mpr ⟨mt0_1_ok, List.forall_mem_cons.mpr ⟨mt0_2_ok, List.forall_mem_cons.mpr ⟨mt0_3_ok, List.forall_mem_cons.mpr ⟨mt0_4_ok, List.forall_mem_cons.mpr ⟨mt0_5_ok, List.forall_mem_cons.mpr ⟨mt0_6_ok, List.forall_mem_cons.mpr ⟨mt0_7_ok, fun _ h => nomatch h⟩⟩⟩⟩⟩⟩⟩⟩
def mt1_0 : List (Nat × Nat × Nat × Nat × Nat) := [(1, 9, 1, 33, 1)]
set_option maxRecDepth 100000 in
theorem mt1_0_a : ∀ e ∈ mt1_0, okCA e := List.forall_mem_cons.mpr ⟨⟨_, rfl, inr5 _ (List.mem_of_getElem? (i := 15) rfl), inr3 _ (List.mem_of_getElem? (i := 1) rfl), inr4 _ (List.mem_of_getElem? (i := 10) rfl)⟩, fun _ h => nomatch h⟩
set_option maxRecDepth 100000 in
theorem mt1_0_b : ∀ e ∈ mt1_0, okCB e := by unfold okCB; decide +kernel
theorem mt1_0_ok : ∀ e ∈ mt1_0, okC e := fun e h => by
  obtain ⟨q, h1, h2, h3, h4⟩ := mt1_0_a e h
  have b := mt1_0_b e h
  unfold okCB at b
  rw [h1] at b
  exact ⟨q, h1, h2, h3, Option.some.inj b, h4⟩
def mt1_2 : List (Nat × Nat × Nat × Nat × Nat) := [(1, 46, 0, 35, 1)]
set_option maxRecDepth 100000 in
theorem mt1_2_a : ∀ e ∈ mt1_2, okCA e := List.forall_mem_cons.mpr ⟨⟨_, rfl, inr32 _ (List.mem_of_getElem? (i := 3) rfl), inr3 _ (List.mem_of_getElem? (i := 10) rfl), ⟨inr19 _ (List.mem_of_getElem? (i := 4) rfl), inr19 _ (List.mem_of_getElem? (i := 5) rfl)⟩⟩, fun _ h => nomatch h⟩
set_option maxRecDepth 100000 in
theorem mt1_2_b : ∀ e ∈ mt1_2, okCB e := by unfold okCB; decide +kernel
theorem mt1_2_ok : ∀ e ∈ mt1_2, okC e := fun e h => by
  obtain ⟨q, h1, h2, h3, h4⟩ := mt1_2_a e h
  have b := mt1_2_b e h
  unfold okCB at b
  rw [h1] at b
  exact ⟨q, h1, h2, h3, Option.some.inj b, h4⟩
def mt1_3 : List (Nat × Nat × Nat × Nat × Nat) := [(1, 50, 0, 37, 1), (1, 54, 0, 16, 1), (1, 58, 0, 38, 1), (1, 61, 0, 3, 1)]
set_option maxRecDepth 100000 in
theorem mt1_3_a : ∀ e ∈ mt1_3, okCA e := List.forall_mem_cons.mpr ⟨⟨_, rfl, inr32 _ (List.mem_of_getElem? (i := 4) rfl), inr2 _ (List.mem_of_getElem? (i := 5) rfl), ⟨inr32 _ (List.mem_of_getElem? (i := 5) rfl), inr32 _ (List.mem_of_getElem? (i := 6) rfl)⟩⟩, List.forall_mem_cons.mpr ⟨⟨_, rfl, inr32 _ (List.mem_of_getElem? (i := 10) rfl), inr3 _ (List.mem_of_getElem? (i := 1) rfl), ⟨inr11 _ (List.mem_of_getElem? (i := 2) rfl), inr11 _ (List.mem_of_getElem? (i := 3) rfl)⟩⟩, List.forall_mem_cons.mpr ⟨⟨_, rfl, inr32 _ (List.mem_of_getElem? (i := 11) rfl), inr3 _ (List.mem_of_getElem? (i := 10) rfl), ⟨inr19 _ (List.mem_of_getElem? (i := 8) rfl), inr19 _ (List.mem_of_getElem? (i := 9) rfl)⟩⟩, List.forall_mem_cons.mpr ⟨⟨_, rfl, inr32 _ (List.mem_of_getElem? (i := 12) rfl), inr2 _ (List.mem_of_getElem? (i := 1) rfl), ⟨inr11 _ (List.mem_of_getElem? (i := 15) rfl), inr11 _ (List.mem_of_getElem? (i := 16) rfl)⟩⟩, fun _ h => nomatch h⟩⟩⟩⟩
set_option maxRecDepth 100000 in
theorem mt1_3_b : ∀ e ∈ mt1_3, okCB e := by unfold okCB; decide +kernel
theorem mt1_3_ok : ∀ e ∈ mt1_3, okC e := fun e h => by
  obtain ⟨q, h1, h2, h3, h4⟩ := mt1_3_a e h
  have b := mt1_3_b e h
  unfold okCB at b
  rw [h1] at b
  exact ⟨q, h1, h2, h3, Option.some.inj b, h4⟩
def mt1_4 : List (Nat × Nat × Nat × Nat × Nat) := [(1, 79, 1, 36, 2), (1, 67, 0, 12, 2), (1, 71, 0, 39, 0), (1, 75, 0, 40, 2)]
set_option maxRecDepth 100000 in
theorem mt1_4_a : ∀ e ∈ mt1_4, okCA e := List.forall_mem_cons.mpr ⟨⟨_, rfl, inr32 _ (List.mem_of_getElem? (i := 8) rfl), inr3 _ (List.mem_of_getElem? (i := 1) rfl), inr10 _ (List.mem_of_getElem? (i := 23) rfl)⟩, List.forall_mem_cons.mpr ⟨⟨_, rfl, inr32 _ (List.mem_of_getElem? (i := 13) rfl), inr3 _ (List.mem_of_getElem? (i := 1) rfl), ⟨inr11 _ (List.mem_of_getElem? (i := 20) rfl), inr11 _ (List.mem_of_getElem? (i := 21) rfl)⟩⟩, List.forall_mem_cons.mpr ⟨⟨_, rfl, inr32 _ (List.mem_of_getElem? (i := 14) rfl), inr2 _ (List.mem_of_getElem? (i := 5) rfl), ⟨inr32 _ (List.mem_of_getElem? (i := 15) rfl), inr32 _ (List.mem_of_getElem? (i := 16) rfl)⟩⟩, List.forall_mem_cons.mpr ⟨⟨_, rfl, inr32 _ (List.mem_of_getElem? (i := 22) rfl), inr2 _ (List.mem_of_getElem? (i := 5) rfl), ⟨inr32 _ (List.mem_of_getElem? (i := 23) rfl), inr33 _ (List.mem_of_getElem? (i := 0) rfl)⟩⟩, fun _ h => nomatch h⟩⟩⟩⟩
set_option maxRecDepth 100000 in
theorem mt1_4_b : ∀ e ∈ mt1_4, okCB e := by unfold okCB; decide +kernel
theorem mt1_4_ok : ∀ e ∈ mt1_4, okC e := fun e h => by
  obtain ⟨q, h1, h2, h3, h4⟩ := mt1_4_a e h
  have b := mt1_4_b e h
  unfold okCB at b
  rw [h1] at b
  exact ⟨q, h1, h2, h3, Option.some.inj b, h4⟩
def mt1_5 : List (Nat × Nat × Nat × Nat × Nat) := [(1, 83, 0, 24, 1), (1, 87, 0, 13, 2), (1, 91, 0, 14, 2), (1, 95, 0, 20, 3)]
set_option maxRecDepth 100000 in
theorem mt1_5_a : ∀ e ∈ mt1_5, okCA e := List.forall_mem_cons.mpr ⟨⟨_, rfl, inr32 _ (List.mem_of_getElem? (i := 9) rfl), inr3 _ (List.mem_of_getElem? (i := 1) rfl), ⟨inr28 _ (List.mem_of_getElem? (i := 4) rfl), inr28 _ (List.mem_of_getElem? (i := 5) rfl)⟩⟩, List.forall_mem_cons.mpr ⟨⟨_, rfl, inr32 _ (List.mem_of_getElem? (i := 18) rfl), inr2 _ (List.mem_of_getElem? (i := 1) rfl), ⟨inr32 _ (List.mem_of_getElem? (i := 19) rfl), inr32 _ (List.mem_of_getElem? (i := 20) rfl)⟩⟩, List.forall_mem_cons.mpr ⟨⟨_, rfl, inr33 _ (List.mem_of_getElem? (i := 2) rfl), inr2 _ (List.mem_of_getElem? (i := 1) rfl), ⟨inr33 _ (List.mem_of_getElem? (i := 3) rfl), inr33 _ (List.mem_of_getElem? (i := 4) rfl)⟩⟩, List.forall_mem_cons.mpr ⟨⟨_, rfl, inr33 _ (List.mem_of_getElem? (i := 6) rfl), inr2 _ (List.mem_of_getElem? (i := 1) rfl), ⟨inr33 _ (List.mem_of_getElem? (i := 7) rfl), inr33 _ (List.mem_of_getElem? (i := 8) rfl)⟩⟩, fun _ h => nomatch h⟩⟩⟩⟩
set_option maxRecDepth 100000 in
theorem mt1_5_b : ∀ e ∈ mt1_5, okCB e := by unfold okCB; decide +kernel
theorem mt1_5_ok : ∀ e ∈ mt1_5, okC e := fun e h => by
  obtain ⟨q, h1, h2, h3, h4⟩ := mt1_5_a e h
  have b := mt1_5_b e h
  unfold okCB at b
  rw [h1] at b
  exact ⟨q, h1, h2, h3, Option.some.inj b, h4⟩
def mt1_6 : List (Nat × Nat × Nat × Nat × Nat) := [(1, 99, 0, 22, 4), (1, 103, 0, 42, 1), (1, 107, 0, 43, 2)]
set_option maxRecDepth 100000 in
theorem mt1_6_a : ∀ e ∈ mt1_6, okCA e := List.forall_mem_cons.mpr ⟨⟨_, rfl, inr33 _ (List.mem_of_getElem? (i := 14) rfl), inr2 _ (List.mem_of_getElem? (i := 1) rfl), ⟨inr33 _ (List.mem_of_getElem? (i := 15) rfl), inr33 _ (List.mem_of_getElem? (i := 16) rfl)⟩⟩, List.forall_mem_cons.mpr ⟨⟨_, rfl, inr36 _ (List.mem_of_getElem? (i := 12) rfl), inr2 _ (List.mem_of_getElem? (i := 5) rfl), ⟨inr36 _ (List.mem_of_getElem? (i := 13) rfl), inr36 _ (List.mem_of_getElem? (i := 14) rfl)⟩⟩, List.forall_mem_cons.mpr ⟨⟨_, rfl, inr36 _ (List.mem_of_getElem? (i := 16) rfl), inr2 _ (List.mem_of_getElem? (i := 5) rfl), ⟨inr36 _ (List.mem_of_getElem? (i := 17) rfl), inr36 _ (List.mem_of_getElem? (i := 18) rfl)⟩⟩, fun _ h => nomatch h⟩⟩⟩
set_option maxRecDepth 100000 in
theorem mt1_6_b : ∀ e ∈ mt1_6, okCB e := by unfold okCB; decide +kernel
theorem mt1_6_ok : ∀ e ∈ mt1_6, okC e := fun e h => by
  obtain ⟨q, h1, h2, h3, h4⟩ := mt1_6_a e h
  have b := mt1_6_b e h
  unfold okCB at b
  rw [h1] at b
  exact ⟨q, h1, h2, h3, Option.some.inj b, h4⟩
def mt1L : List (List (Nat × Nat × Nat × Nat × Nat)) := [mt1_0, [], mt1_2, mt1_3, mt1_4, mt1_5, mt1_6]
theorem mt1L_ok : ∀ B ∈ mt1L, ∀ e ∈ B, okC e := List.forall_mem_cons.mpr ⟨mt1_0_ok, List.forall_mem_cons.mpr ⟨(fun _ h => nomatch h), List.forall_mem_cons.mpr ⟨mt1_2_ok, List.forall_mem_cons.mpr ⟨mt1_3_ok, List.forall_mem_cons.mpr ⟨mt1_4_ok, List.forall_mem_cons.mpr ⟨mt1_5_ok, List.forall_mem_cons.mpr ⟨mt1_6_ok, fun _ h => nomatch h⟩⟩⟩⟩⟩⟩⟩
def mt2_0 : List (Nat × Nat × Nat × Nat × Nat) := [(2, 15, 2, 0, 0)]
set_option maxRecDepth 100000 in
theorem mt2_0_a : ∀ e ∈ mt2_0, okCA e := List.forall_mem_cons.mpr ⟨⟨_, rfl, inr4 _ (List.mem_of_getElem? (i := 13) rfl), inr3 _ (List.mem_of_getElem? (i := 1) rfl), ⟨inr4 _ (List.mem_of_getElem? (i := 14) rfl), rfl⟩⟩, fun _ h => nomatch h⟩
set_option maxRecDepth 100000 in
theorem mt2_0_b : ∀ e ∈ mt2_0, okCB e := by unfold okCB; decide +kernel
theorem mt2_0_ok : ∀ e ∈ mt2_0, okC e := fun e h => by
  obtain ⟨q, h1, h2, h3, h4⟩ := mt2_0_a e h
  have b := mt2_0_b e h
  unfold okCB at b
  rw [h1] at b
  exact ⟨q, h1, h2, h3, Option.some.inj b, h4⟩
def mt2_1 : List (Nat × Nat × Nat × Nat × Nat) := [(2, 20, 1, 15, 2), (2, 26, 0, 10, 1), (2, 30, 0, 12, 2)]
set_option maxRecDepth 100000 in
theorem mt2_1_a : ∀ e ∈ mt2_1, okCA e := List.forall_mem_cons.mpr ⟨⟨_, rfl, inr11 _ (List.mem_of_getElem? (i := 6) rfl), inr11 _ (List.mem_of_getElem? (i := 8) rfl), inr11 _ (List.mem_of_getElem? (i := 7) rfl)⟩, List.forall_mem_cons.mpr ⟨⟨_, rfl, inr27 _ (List.mem_of_getElem? (i := 17) rfl), inr3 _ (List.mem_of_getElem? (i := 1) rfl), ⟨inr22 _ (List.mem_of_getElem? (i := 20) rfl), inr22 _ (List.mem_of_getElem? (i := 21) rfl)⟩⟩, List.forall_mem_cons.mpr ⟨⟨_, rfl, inr28 _ (List.mem_of_getElem? (i := 7) rfl), inr3 _ (List.mem_of_getElem? (i := 1) rfl), ⟨inr11 _ (List.mem_of_getElem? (i := 20) rfl), inr11 _ (List.mem_of_getElem? (i := 21) rfl)⟩⟩, fun _ h => nomatch h⟩⟩⟩
set_option maxRecDepth 100000 in
theorem mt2_1_b : ∀ e ∈ mt2_1, okCB e := by unfold okCB; decide +kernel
theorem mt2_1_ok : ∀ e ∈ mt2_1, okC e := fun e h => by
  obtain ⟨q, h1, h2, h3, h4⟩ := mt2_1_a e h
  have b := mt2_1_b e h
  unfold okCB at b
  rw [h1] at b
  exact ⟨q, h1, h2, h3, Option.some.inj b, h4⟩
def mt2_2 : List (Nat × Nat × Nat × Nat × Nat) := [(2, 34, 0, 23, 0)]
set_option maxRecDepth 100000 in
theorem mt2_2_a : ∀ e ∈ mt2_2, okCA e := List.forall_mem_cons.mpr ⟨⟨_, rfl, inr44 _ (List.mem_of_getElem? (i := 1) rfl), inr3 _ (List.mem_of_getElem? (i := 1) rfl), ⟨inr44 _ (List.mem_of_getElem? (i := 2) rfl), inr44 _ (List.mem_of_getElem? (i := 3) rfl)⟩⟩, fun _ h => nomatch h⟩
set_option maxRecDepth 100000 in
theorem mt2_2_b : ∀ e ∈ mt2_2, okCB e := by unfold okCB; decide +kernel
theorem mt2_2_ok : ∀ e ∈ mt2_2, okC e := fun e h => by
  obtain ⟨q, h1, h2, h3, h4⟩ := mt2_2_a e h
  have b := mt2_2_b e h
  unfold okCB at b
  rw [h1] at b
  exact ⟨q, h1, h2, h3, Option.some.inj b, h4⟩
def mt2L : List (List (Nat × Nat × Nat × Nat × Nat)) := [mt2_0, mt2_1, mt2_2]
theorem mt2L_ok : ∀ B ∈ mt2L, ∀ e ∈ B, okC e := List.forall_mem_cons.mpr ⟨mt2_0_ok, List.forall_mem_cons.mpr ⟨mt2_1_ok, List.forall_mem_cons.mpr ⟨mt2_2_ok, fun _ h => nomatch h⟩⟩⟩
def mt3_2 : List (Nat × Nat × Nat × Nat × Nat) := [(3, 38, 0, 49, 1), (3, 42, 0, 54, 1), (3, 46, 0, 55, 1)]
set_option maxRecDepth 100000 in
theorem mt3_2_a : ∀ e ∈ mt3_2, okCA e := List.forall_mem_cons.mpr ⟨⟨_, rfl, inr55 _ (List.mem_of_getElem? (i := 10) rfl), inr2 _ (List.mem_of_getElem? (i := 17) rfl), ⟨inr55 _ (List.mem_of_getElem? (i := 11) rfl), inr55 _ (List.mem_of_getElem? (i := 12) rfl)⟩⟩, List.forall_mem_cons.mpr ⟨⟨_, rfl, inr55 _ (List.mem_of_getElem? (i := 17) rfl), inr2 _ (List.mem_of_getElem? (i := 17) rfl), ⟨inr55 _ (List.mem_of_getElem? (i := 18) rfl), inr55 _ (List.mem_of_getElem? (i := 19) rfl)⟩⟩, List.forall_mem_cons.mpr ⟨⟨_, rfl, inr56 _ (List.mem_of_getElem? (i := 16) rfl), inr2 _ (List.mem_of_getElem? (i := 17) rfl), ⟨inr56 _ (List.mem_of_getElem? (i := 17) rfl), inr56 _ (List.mem_of_getElem? (i := 18) rfl)⟩⟩, fun _ h => nomatch h⟩⟩⟩
set_option maxRecDepth 100000 in
theorem mt3_2_b : ∀ e ∈ mt3_2, okCB e := by unfold okCB; decide +kernel
theorem mt3_2_ok : ∀ e ∈ mt3_2, okC e := fun e h => by
  obtain ⟨q, h1, h2, h3, h4⟩ := mt3_2_a e h
  have b := mt3_2_b e h
  unfold okCB at b
  rw [h1] at b
  exact ⟨q, h1, h2, h3, Option.some.inj b, h4⟩
def mt3_3 : List (Nat × Nat × Nat × Nat × Nat) := [(3, 50, 0, 10, 1), (3, 53, 0, 5, 1), (3, 58, 0, 3, 1), (3, 62, 0, 52, 1)]
set_option maxRecDepth 100000 in
theorem mt3_3_a : ∀ e ∈ mt3_3, okCA e := List.forall_mem_cons.mpr ⟨⟨_, rfl, inr55 _ (List.mem_of_getElem? (i := 14) rfl), inr3 _ (List.mem_of_getElem? (i := 1) rfl), ⟨inr22 _ (List.mem_of_getElem? (i := 20) rfl), inr22 _ (List.mem_of_getElem? (i := 21) rfl)⟩⟩, List.forall_mem_cons.mpr ⟨⟨_, rfl, inr55 _ (List.mem_of_getElem? (i := 15) rfl), inr2 _ (List.mem_of_getElem? (i := 1) rfl), ⟨inr41 _ (List.mem_of_getElem? (i := 5) rfl), inr41 _ (List.mem_of_getElem? (i := 6) rfl)⟩⟩, List.forall_mem_cons.mpr ⟨⟨_, rfl, inr55 _ (List.mem_of_getElem? (i := 16) rfl), inr2 _ (List.mem_of_getElem? (i := 1) rfl), ⟨inr11 _ (List.mem_of_getElem? (i := 15) rfl), inr11 _ (List.mem_of_getElem? (i := 16) rfl)⟩⟩, List.forall_mem_cons.mpr ⟨⟨_, rfl, inr55 _ (List.mem_of_getElem? (i := 21) rfl), inr2 _ (List.mem_of_getElem? (i := 17) rfl), ⟨inr55 _ (List.mem_of_getElem? (i := 22) rfl), inr55 _ (List.mem_of_getElem? (i := 23) rfl)⟩⟩, fun _ h => nomatch h⟩⟩⟩⟩
set_option maxRecDepth 100000 in
theorem mt3_3_b : ∀ e ∈ mt3_3, okCB e := by unfold okCB; decide +kernel
theorem mt3_3_ok : ∀ e ∈ mt3_3, okC e := fun e h => by
  obtain ⟨q, h1, h2, h3, h4⟩ := mt3_3_a e h
  have b := mt3_3_b e h
  unfold okCB at b
  rw [h1] at b
  exact ⟨q, h1, h2, h3, Option.some.inj b, h4⟩
def mt3_4 : List (Nat × Nat × Nat × Nat × Nat) := [(3, 78, 0, 50, 0), (3, 74, 0, 2, 0), (3, 65, 0, 53, 1), (3, 68, 1, 315, 2)]
set_option maxRecDepth 100000 in
theorem mt3_4_a : ∀ e ∈ mt3_4, okCA e := List.forall_mem_cons.mpr ⟨⟨_, rfl, inr56 _ (List.mem_of_getElem? (i := 2) rfl), inr2 _ (List.mem_of_getElem? (i := 17) rfl), ⟨inr56 _ (List.mem_of_getElem? (i := 3) rfl), inr56 _ (List.mem_of_getElem? (i := 4) rfl)⟩⟩, List.forall_mem_cons.mpr ⟨⟨_, rfl, inr56 _ (List.mem_of_getElem? (i := 10) rfl), inr2 _ (List.mem_of_getElem? (i := 1) rfl), ⟨inr44 _ (List.mem_of_getElem? (i := 22) rfl), inr44 _ (List.mem_of_getElem? (i := 23) rfl)⟩⟩, List.forall_mem_cons.mpr ⟨⟨_, rfl, inr56 _ (List.mem_of_getElem? (i := 11) rfl), inr2 _ (List.mem_of_getElem? (i := 17) rfl), ⟨inr56 _ (List.mem_of_getElem? (i := 12) rfl), inr56 _ (List.mem_of_getElem? (i := 13) rfl)⟩⟩, List.forall_mem_cons.mpr ⟨⟨_, rfl, inr56 _ (List.mem_of_getElem? (i := 15) rfl), inr13 _ (List.mem_of_getElem? (i := 6) rfl), inr41 _ (List.mem_of_getElem? (i := 1) rfl)⟩, fun _ h => nomatch h⟩⟩⟩⟩
set_option maxRecDepth 100000 in
theorem mt3_4_b : ∀ e ∈ mt3_4, okCB e := by unfold okCB; decide +kernel
theorem mt3_4_ok : ∀ e ∈ mt3_4, okC e := fun e h => by
  obtain ⟨q, h1, h2, h3, h4⟩ := mt3_4_a e h
  have b := mt3_4_b e h
  unfold okCB at b
  rw [h1] at b
  exact ⟨q, h1, h2, h3, Option.some.inj b, h4⟩
def mt3_5 : List (Nat × Nat × Nat × Nat × Nat) := [(3, 81, 0, 51, 1), (3, 88, 0, 47, 1)]
set_option maxRecDepth 100000 in
theorem mt3_5_a : ∀ e ∈ mt3_5, okCA e := List.forall_mem_cons.mpr ⟨⟨_, rfl, inr56 _ (List.mem_of_getElem? (i := 6) rfl), inr2 _ (List.mem_of_getElem? (i := 17) rfl), ⟨inr56 _ (List.mem_of_getElem? (i := 7) rfl), inr56 _ (List.mem_of_getElem? (i := 8) rfl)⟩⟩, List.forall_mem_cons.mpr ⟨⟨_, rfl, inr56 _ (List.mem_of_getElem? (i := 20) rfl), inr2 _ (List.mem_of_getElem? (i := 17) rfl), ⟨inr56 _ (List.mem_of_getElem? (i := 21) rfl), inr56 _ (List.mem_of_getElem? (i := 22) rfl)⟩⟩, fun _ h => nomatch h⟩⟩
set_option maxRecDepth 100000 in
theorem mt3_5_b : ∀ e ∈ mt3_5, okCB e := by unfold okCB; decide +kernel
theorem mt3_5_ok : ∀ e ∈ mt3_5, okC e := fun e h => by
  obtain ⟨q, h1, h2, h3, h4⟩ := mt3_5_a e h
  have b := mt3_5_b e h
  unfold okCB at b
  rw [h1] at b
  exact ⟨q, h1, h2, h3, Option.some.inj b, h4⟩
def mt3L : List (List (Nat × Nat × Nat × Nat × Nat)) := [[], [], mt3_2, mt3_3, mt3_4, mt3_5]
theorem mt3L_ok : ∀ B ∈ mt3L, ∀ e ∈ B, okC e := List.forall_mem_cons.mpr ⟨(fun _ h => nomatch h), List.forall_mem_cons.mpr ⟨(fun _ h => nomatch h), List.forall_mem_cons.mpr ⟨mt3_2_ok, List.forall_mem_cons.mpr ⟨mt3_3_ok, List.forall_mem_cons.mpr ⟨mt3_4_ok, List.forall_mem_cons.mpr ⟨mt3_5_ok, fun _ h => nomatch h⟩⟩⟩⟩⟩⟩
def mt4_2 : List (Nat × Nat × Nat × Nat × Nat) := [(4, 36, 0, 73, 1), (4, 40, 0, 63, 0), (4, 44, 0, 61, 1)]
set_option maxRecDepth 100000 in
theorem mt4_2_a : ∀ e ∈ mt4_2, okCA e := List.forall_mem_cons.mpr ⟨⟨_, rfl, inr16 _ (List.mem_of_getElem? (i := 14) rfl), inr1 _ (List.mem_of_getElem? (i := 15) rfl), ⟨inr16 _ (List.mem_of_getElem? (i := 15) rfl), inr16 _ (List.mem_of_getElem? (i := 16) rfl)⟩⟩, List.forall_mem_cons.mpr ⟨⟨_, rfl, inr16 _ (List.mem_of_getElem? (i := 21) rfl), inr1 _ (List.mem_of_getElem? (i := 15) rfl), ⟨inr16 _ (List.mem_of_getElem? (i := 22) rfl), inr16 _ (List.mem_of_getElem? (i := 23) rfl)⟩⟩, List.forall_mem_cons.mpr ⟨⟨_, rfl, inr17 _ (List.mem_of_getElem? (i := 1) rfl), inr1 _ (List.mem_of_getElem? (i := 15) rfl), ⟨inr11 _ (List.mem_of_getElem? (i := 11) rfl), inr11 _ (List.mem_of_getElem? (i := 12) rfl)⟩⟩, fun _ h => nomatch h⟩⟩⟩
set_option maxRecDepth 100000 in
theorem mt4_2_b : ∀ e ∈ mt4_2, okCB e := by unfold okCB; decide +kernel
theorem mt4_2_ok : ∀ e ∈ mt4_2, okC e := fun e h => by
  obtain ⟨q, h1, h2, h3, h4⟩ := mt4_2_a e h
  have b := mt4_2_b e h
  unfold okCB at b
  rw [h1] at b
  exact ⟨q, h1, h2, h3, Option.some.inj b, h4⟩
def mt4_3 : List (Nat × Nat × Nat × Nat × Nat) := [(4, 48, 0, 72, 1), (4, 51, 0, 62, 0), (4, 55, 0, 66, 2), (4, 62, 0, 69, 0), (4, 59, 0, 71, 1)]
set_option maxRecDepth 100000 in
theorem mt4_3_a : ∀ e ∈ mt4_3, okCA e := List.forall_mem_cons.mpr ⟨⟨_, rfl, inr16 _ (List.mem_of_getElem? (i := 18) rfl), inr1 _ (List.mem_of_getElem? (i := 15) rfl), ⟨inr16 _ (List.mem_of_getElem? (i := 19) rfl), inr16 _ (List.mem_of_getElem? (i := 20) rfl)⟩⟩, List.forall_mem_cons.mpr ⟨⟨_, rfl, inr17 _ (List.mem_of_getElem? (i := 2) rfl), inr1 _ (List.mem_of_getElem? (i := 15) rfl), ⟨inr17 _ (List.mem_of_getElem? (i := 3) rfl), inr17 _ (List.mem_of_getElem? (i := 4) rfl)⟩⟩, List.forall_mem_cons.mpr ⟨⟨_, rfl, inr17 _ (List.mem_of_getElem? (i := 6) rfl), inr3 _ (List.mem_of_getElem? (i := 10) rfl), ⟨inr17 _ (List.mem_of_getElem? (i := 7) rfl), inr17 _ (List.mem_of_getElem? (i := 8) rfl)⟩⟩, List.forall_mem_cons.mpr ⟨⟨_, rfl, inr18 _ (List.mem_of_getElem? (i := 0) rfl), inr1 _ (List.mem_of_getElem? (i := 15) rfl), ⟨inr18 _ (List.mem_of_getElem? (i := 1) rfl), inr18 _ (List.mem_of_getElem? (i := 2) rfl)⟩⟩, List.forall_mem_cons.mpr ⟨⟨_, rfl, inr18 _ (List.mem_of_getElem? (i := 10) rfl), inr1 _ (List.mem_of_getElem? (i := 15) rfl), ⟨inr18 _ (List.mem_of_getElem? (i := 11) rfl), inr18 _ (List.mem_of_getElem? (i := 12) rfl)⟩⟩, fun _ h => nomatch h⟩⟩⟩⟩⟩
set_option maxRecDepth 100000 in
theorem mt4_3_b : ∀ e ∈ mt4_3, okCB e := by unfold okCB; decide +kernel
theorem mt4_3_ok : ∀ e ∈ mt4_3, okC e := fun e h => by
  obtain ⟨q, h1, h2, h3, h4⟩ := mt4_3_a e h
  have b := mt4_3_b e h
  unfold okCB at b
  rw [h1] at b
  exact ⟨q, h1, h2, h3, Option.some.inj b, h4⟩
def mt4_4 : List (Nat × Nat × Nat × Nat × Nat) := [(4, 72, 0, 64, 1), (4, 65, 1, 65, 1), (4, 68, 0, 67, 2), (4, 78, 1, 68, 1), (4, 75, 0, 70, 1)]
set_option maxRecDepth 100000 in
theorem mt4_4_a : ∀ e ∈ mt4_4, okCA e := List.forall_mem_cons.mpr ⟨⟨_, rfl, inr17 _ (List.mem_of_getElem? (i := 12) rfl), inr1 _ (List.mem_of_getElem? (i := 15) rfl), ⟨inr17 _ (List.mem_of_getElem? (i := 13) rfl), inr17 _ (List.mem_of_getElem? (i := 14) rfl)⟩⟩, List.forall_mem_cons.mpr ⟨⟨_, rfl, inr17 _ (List.mem_of_getElem? (i := 16) rfl), inr1 _ (List.mem_of_getElem? (i := 15) rfl), inr17 _ (List.mem_of_getElem? (i := 17) rfl)⟩, List.forall_mem_cons.mpr ⟨⟨_, rfl, inr17 _ (List.mem_of_getElem? (i := 19) rfl), inr1 _ (List.mem_of_getElem? (i := 15) rfl), ⟨inr17 _ (List.mem_of_getElem? (i := 20) rfl), inr17 _ (List.mem_of_getElem? (i := 21) rfl)⟩⟩, List.forall_mem_cons.mpr ⟨⟨_, rfl, inr18 _ (List.mem_of_getElem? (i := 4) rfl), inr1 _ (List.mem_of_getElem? (i := 15) rfl), inr18 _ (List.mem_of_getElem? (i := 5) rfl)⟩, List.forall_mem_cons.mpr ⟨⟨_, rfl, inr18 _ (List.mem_of_getElem? (i := 7) rfl), inr1 _ (List.mem_of_getElem? (i := 15) rfl), ⟨inr18 _ (List.mem_of_getElem? (i := 8) rfl), inr18 _ (List.mem_of_getElem? (i := 9) rfl)⟩⟩, fun _ h => nomatch h⟩⟩⟩⟩⟩
set_option maxRecDepth 100000 in
theorem mt4_4_b : ∀ e ∈ mt4_4, okCB e := by unfold okCB; decide +kernel
theorem mt4_4_ok : ∀ e ∈ mt4_4, okC e := fun e h => by
  obtain ⟨q, h1, h2, h3, h4⟩ := mt4_4_a e h
  have b := mt4_4_b e h
  unfold okCB at b
  rw [h1] at b
  exact ⟨q, h1, h2, h3, Option.some.inj b, h4⟩
def mt4L : List (List (Nat × Nat × Nat × Nat × Nat)) := [[], [], mt4_2, mt4_3, mt4_4]
theorem mt4L_ok : ∀ B ∈ mt4L, ∀ e ∈ B, okC e := List.forall_mem_cons.mpr ⟨(fun _ h => nomatch h), List.forall_mem_cons.mpr ⟨(fun _ h => nomatch h), List.forall_mem_cons.mpr ⟨mt4_2_ok, List.forall_mem_cons.mpr ⟨mt4_3_ok, List.forall_mem_cons.mpr ⟨mt4_4_ok, fun _ h => nomatch h⟩⟩⟩⟩⟩
def mt5_0 : List (Nat × Nat × Nat × Nat × Nat) := [(5, 9, 1, 33, 1)]
set_option maxRecDepth 100000 in
theorem mt5_0_a : ∀ e ∈ mt5_0, okCA e := List.forall_mem_cons.mpr ⟨⟨_, rfl, inr6 _ (List.mem_of_getElem? (i := 3) rfl), inr3 _ (List.mem_of_getElem? (i := 1) rfl), inr4 _ (List.mem_of_getElem? (i := 10) rfl)⟩, fun _ h => nomatch h⟩
set_option maxRecDepth 100000 in
theorem mt5_0_b : ∀ e ∈ mt5_0, okCB e := by unfold okCB; decide +kernel
theorem mt5_0_ok : ∀ e ∈ mt5_0, okC e := fun e h => by
  obtain ⟨q, h1, h2, h3, h4⟩ := mt5_0_a e h
  have b := mt5_0_b e h
  unfold okCB at b
  rw [h1] at b
  exact ⟨q, h1, h2, h3, Option.some.inj b, h4⟩
def mt5_2 : List (Nat × Nat × Nat × Nat × Nat) := [(5, 42, 0, 76, 2)]
set_option maxRecDepth 100000 in
theorem mt5_2_a : ∀ e ∈ mt5_2, okCA e := List.forall_mem_cons.mpr ⟨⟨_, rfl, inr40 _ (List.mem_of_getElem? (i := 3) rfl), inr2 _ (List.mem_of_getElem? (i := 9) rfl), ⟨inr40 _ (List.mem_of_getElem? (i := 4) rfl), inr40 _ (List.mem_of_getElem? (i := 5) rfl)⟩⟩, fun _ h => nomatch h⟩
set_option maxRecDepth 100000 in
theorem mt5_2_b : ∀ e ∈ mt5_2, okCB e := by unfold okCB; decide +kernel
theorem mt5_2_ok : ∀ e ∈ mt5_2, okC e := fun e h => by
  obtain ⟨q, h1, h2, h3, h4⟩ := mt5_2_a e h
  have b := mt5_2_b e h
  unfold okCB at b
  rw [h1] at b
  exact ⟨q, h1, h2, h3, Option.some.inj b, h4⟩
def mt5_3 : List (Nat × Nat × Nat × Nat × Nat) := [(5, 62, 1, 36, 2), (5, 53, 0, 77, 1)]
set_option maxRecDepth 100000 in
theorem mt5_3_a : ∀ e ∈ mt5_3, okCA e := List.forall_mem_cons.mpr ⟨⟨_, rfl, inr40 _ (List.mem_of_getElem? (i := 8) rfl), inr3 _ (List.mem_of_getElem? (i := 1) rfl), inr10 _ (List.mem_of_getElem? (i := 23) rfl)⟩, List.forall_mem_cons.mpr ⟨⟨_, rfl, inr40 _ (List.mem_of_getElem? (i := 12) rfl), inr1 _ (List.mem_of_getElem? (i := 19) rfl), ⟨inr18 _ (List.mem_of_getElem? (i := 20) rfl), inr18 _ (List.mem_of_getElem? (i := 21) rfl)⟩⟩, fun _ h => nomatch h⟩⟩
set_option maxRecDepth 100000 in
theorem mt5_3_b : ∀ e ∈ mt5_3, okCB e := by unfold okCB; decide +kernel
theorem mt5_3_ok : ∀ e ∈ mt5_3, okC e := fun e h => by
  obtain ⟨q, h1, h2, h3, h4⟩ := mt5_3_a e h
  have b := mt5_3_b e h
  unfold okCB at b
  rw [h1] at b
  exact ⟨q, h1, h2, h3, Option.some.inj b, h4⟩
def mt5_4 : List (Nat × Nat × Nat × Nat × Nat) := [(5, 66, 0, 41, 2), (5, 72, 0, 78, 1), (5, 76, 0, 79, 0)]
set_option maxRecDepth 100000 in
theorem mt5_4_a : ∀ e ∈ mt5_4, okCA e := List.forall_mem_cons.mpr ⟨⟨_, rfl, inr40 _ (List.mem_of_getElem? (i := 13) rfl), inr2 _ (List.mem_of_getElem? (i := 5) rfl), ⟨inr31 _ (List.mem_of_getElem? (i := 22) rfl), inr31 _ (List.mem_of_getElem? (i := 23) rfl)⟩⟩, List.forall_mem_cons.mpr ⟨⟨_, rfl, inr40 _ (List.mem_of_getElem? (i := 14) rfl), inr2 _ (List.mem_of_getElem? (i := 9) rfl), ⟨inr40 _ (List.mem_of_getElem? (i := 15) rfl), inr40 _ (List.mem_of_getElem? (i := 16) rfl)⟩⟩, List.forall_mem_cons.mpr ⟨⟨_, rfl, inr40 _ (List.mem_of_getElem? (i := 20) rfl), inr2 _ (List.mem_of_getElem? (i := 9) rfl), ⟨inr40 _ (List.mem_of_getElem? (i := 21) rfl), inr40 _ (List.mem_of_getElem? (i := 22) rfl)⟩⟩, fun _ h => nomatch h⟩⟩⟩
set_option maxRecDepth 100000 in
theorem mt5_4_b : ∀ e ∈ mt5_4, okCB e := by unfold okCB; decide +kernel
theorem mt5_4_ok : ∀ e ∈ mt5_4, okC e := fun e h => by
  obtain ⟨q, h1, h2, h3, h4⟩ := mt5_4_a e h
  have b := mt5_4_b e h
  unfold okCB at b
  rw [h1] at b
  exact ⟨q, h1, h2, h3, Option.some.inj b, h4⟩
def mt5_5 : List (Nat × Nat × Nat × Nat × Nat) := [(5, 80, 0, 16, 1), (5, 85, 0, 3, 1), (5, 91, 0, 12, 2), (5, 95, 0, 10, 1)]
set_option maxRecDepth 100000 in
theorem mt5_5_a : ∀ e ∈ mt5_5, okCA e := List.forall_mem_cons.mpr ⟨⟨_, rfl, inr40 _ (List.mem_of_getElem? (i := 9) rfl), inr3 _ (List.mem_of_getElem? (i := 1) rfl), ⟨inr11 _ (List.mem_of_getElem? (i := 2) rfl), inr11 _ (List.mem_of_getElem? (i := 3) rfl)⟩⟩, List.forall_mem_cons.mpr ⟨⟨_, rfl, inr40 _ (List.mem_of_getElem? (i := 10) rfl), inr2 _ (List.mem_of_getElem? (i := 1) rfl), ⟨inr11 _ (List.mem_of_getElem? (i := 15) rfl), inr11 _ (List.mem_of_getElem? (i := 16) rfl)⟩⟩, List.forall_mem_cons.mpr ⟨⟨_, rfl, inr40 _ (List.mem_of_getElem? (i := 11) rfl), inr3 _ (List.mem_of_getElem? (i := 1) rfl), ⟨inr11 _ (List.mem_of_getElem? (i := 20) rfl), inr11 _ (List.mem_of_getElem? (i := 21) rfl)⟩⟩, List.forall_mem_cons.mpr ⟨⟨_, rfl, inr40 _ (List.mem_of_getElem? (i := 19) rfl), inr3 _ (List.mem_of_getElem? (i := 1) rfl), ⟨inr22 _ (List.mem_of_getElem? (i := 20) rfl), inr22 _ (List.mem_of_getElem? (i := 21) rfl)⟩⟩, fun _ h => nomatch h⟩⟩⟩⟩
set_option maxRecDepth 100000 in
theorem mt5_5_b : ∀ e ∈ mt5_5, okCB e := by unfold okCB; decide +kernel
theorem mt5_5_ok : ∀ e ∈ mt5_5, okC e := fun e h => by
  obtain ⟨q, h1, h2, h3, h4⟩ := mt5_5_a e h
  have b := mt5_5_b e h
  unfold okCB at b
  rw [h1] at b
  exact ⟨q, h1, h2, h3, Option.some.inj b, h4⟩
def mt5_6 : List (Nat × Nat × Nat × Nat × Nat) := [(5, 108, 1, 81, 2), (5, 99, 1, 315, 2), (5, 105, 0, 5, 1)]
set_option maxRecDepth 100000 in
theorem mt5_6_a : ∀ e ∈ mt5_6, okCA e := List.forall_mem_cons.mpr ⟨⟨_, rfl, inr38 _ (List.mem_of_getElem? (i := 22) rfl), inr11 _ (List.mem_of_getElem? (i := 8) rfl), inr38 _ (List.mem_of_getElem? (i := 23) rfl)⟩, List.forall_mem_cons.mpr ⟨⟨_, rfl, inr41 _ (List.mem_of_getElem? (i := 0) rfl), inr13 _ (List.mem_of_getElem? (i := 6) rfl), inr41 _ (List.mem_of_getElem? (i := 1) rfl)⟩, List.forall_mem_cons.mpr ⟨⟨_, rfl, inr41 _ (List.mem_of_getElem? (i := 4) rfl), inr2 _ (List.mem_of_getElem? (i := 1) rfl), ⟨inr41 _ (List.mem_of_getElem? (i := 5) rfl), inr41 _ (List.mem_of_getElem? (i := 6) rfl)⟩⟩, fun _ h => nomatch h⟩⟩⟩
set_option maxRecDepth 100000 in
theorem mt5_6_b : ∀ e ∈ mt5_6, okCB e := by unfold okCB; decide +kernel
theorem mt5_6_ok : ∀ e ∈ mt5_6, okC e := fun e h => by
  obtain ⟨q, h1, h2, h3, h4⟩ := mt5_6_a e h
  have b := mt5_6_b e h
  unfold okCB at b
  rw [h1] at b
  exact ⟨q, h1, h2, h3, Option.some.inj b, h4⟩
def mt5_7 : List (Nat × Nat × Nat × Nat × Nat) := [(5, 114, 0, 82, 2)]
set_option maxRecDepth 100000 in
theorem mt5_7_a : ∀ e ∈ mt5_7, okCA e := List.forall_mem_cons.mpr ⟨⟨_, rfl, inr39 _ (List.mem_of_getElem? (i := 1) rfl), inr2 _ (List.mem_of_getElem? (i := 9) rfl), ⟨inr39 _ (List.mem_of_getElem? (i := 2) rfl), inr39 _ (List.mem_of_getElem? (i := 3) rfl)⟩⟩, fun _ h => nomatch h⟩
set_option maxRecDepth 100000 in
theorem mt5_7_b : ∀ e ∈ mt5_7, okCB e := by unfold okCB; decide +kernel
theorem mt5_7_ok : ∀ e ∈ mt5_7, okC e := fun e h => by
  obtain ⟨q, h1, h2, h3, h4⟩ := mt5_7_a e h
  have b := mt5_7_b e h
  unfold okCB at b
  rw [h1] at b
  exact ⟨q, h1, h2, h3, Option.some.inj b, h4⟩
def mt5L : List (List (Nat × Nat × Nat × Nat × Nat)) := [mt5_0, [], mt5_2, mt5_3, mt5_4, mt5_5, mt5_6, mt5_7]
theorem mt5L_ok : ∀ B ∈ mt5L, ∀ e ∈ B, okC e := List.forall_mem_cons.mpr ⟨mt5_0_ok, List.forall_mem_cons.mpr ⟨(fun _ h => nomatch h), List.forall_mem_cons.mpr ⟨mt5_2_ok, List.forall_mem_cons.mpr ⟨mt5_3_ok, List.forall_mem_cons.mpr ⟨mt5_4_ok, List.forall_mem_cons.mpr ⟨mt5_5_ok, List.forall_mem_cons.mpr ⟨mt5_6_ok, List.forall_mem_cons.mpr ⟨mt5_7_ok, fun _ h => nomatch h⟩⟩⟩⟩⟩⟩⟩⟩
def mt6_2 : List (Nat × Nat × Nat × Nat × Nat) := [(6, 40, 0, 30, 0), (6, 44, 0, 27, 1)]
set_option maxRecDepth 100000 in
theorem mt6_2_a : ∀ e ∈ mt6_2, okCA e := List.forall_mem_cons.mpr ⟨⟨_, rfl, inr43 _ (List.mem_of_getElem? (i := 21) rfl), inr3 _ (List.mem_of_getElem? (i := 1) rfl), ⟨inr43 _ (List.mem_of_getElem? (i := 22) rfl), inr43 _ (List.mem_of_getElem? (i := 23) rfl)⟩⟩, List.forall_mem_cons.mpr ⟨⟨_, rfl, inr44 _ (List.mem_of_getElem? (i := 5) rfl), inr3 _ (List.mem_of_getElem? (i := 1) rfl), ⟨inr27 _ (List.mem_of_getElem? (i := 14) rfl), inr27 _ (List.mem_of_getElem? (i := 15) rfl)⟩⟩, fun _ h => nomatch h⟩⟩
set_option maxRecDepth 100000 in
theorem mt6_2_b : ∀ e ∈ mt6_2, okCB e := by unfold okCB; decide +kernel
theorem mt6_2_ok : ∀ e ∈ mt6_2, okC e := fun e h => by
  obtain ⟨q, h1, h2, h3, h4⟩ := mt6_2_a e h
  have b := mt6_2_b e h
  unfold okCB at b
  rw [h1] at b
  exact ⟨q, h1, h2, h3, Option.some.inj b, h4⟩
def mt6_3 : List (Nat × Nat × Nat × Nat × Nat) := [(6, 48, 0, 9, 0), (6, 54, 0, 87, 2), (6, 58, 0, 88, 1), (6, 62, 0, 90, 2)]
set_option maxRecDepth 100000 in
theorem mt6_3_a : ∀ e ∈ mt6_3, okCA e := List.forall_mem_cons.mpr ⟨⟨_, rfl, inr44 _ (List.mem_of_getElem? (i := 6) rfl), inr2 _ (List.mem_of_getElem? (i := 1) rfl), ⟨inr44 _ (List.mem_of_getElem? (i := 7) rfl), inr44 _ (List.mem_of_getElem? (i := 8) rfl)⟩⟩, List.forall_mem_cons.mpr ⟨⟨_, rfl, inr44 _ (List.mem_of_getElem? (i := 10) rfl), inr2 _ (List.mem_of_getElem? (i := 13) rfl), ⟨inr44 _ (List.mem_of_getElem? (i := 11) rfl), inr44 _ (List.mem_of_getElem? (i := 12) rfl)⟩⟩, List.forall_mem_cons.mpr ⟨⟨_, rfl, inr45 _ (List.mem_of_getElem? (i := 1) rfl), inr2 _ (List.mem_of_getElem? (i := 13) rfl), ⟨inr45 _ (List.mem_of_getElem? (i := 2) rfl), inr45 _ (List.mem_of_getElem? (i := 3) rfl)⟩⟩, List.forall_mem_cons.mpr ⟨⟨_, rfl, inr45 _ (List.mem_of_getElem? (i := 5) rfl), inr2 _ (List.mem_of_getElem? (i := 13) rfl), ⟨inr45 _ (List.mem_of_getElem? (i := 6) rfl), inr45 _ (List.mem_of_getElem? (i := 7) rfl)⟩⟩, fun _ h => nomatch h⟩⟩⟩⟩
set_option maxRecDepth 100000 in
theorem mt6_3_b : ∀ e ∈ mt6_3, okCB e := by unfold okCB; decide +kernel
theorem mt6_3_ok : ∀ e ∈ mt6_3, okC e := fun e h => by
  obtain ⟨q, h1, h2, h3, h4⟩ := mt6_3_a e h
  have b := mt6_3_b e h
  unfold okCB at b
  rw [h1] at b
  exact ⟨q, h1, h2, h3, Option.some.inj b, h4⟩
def mt6_4 : List (Nat × Nat × Nat × Nat × Nat) := [(6, 70, 1, 85, 1), (6, 73, 1, 86, 1), (6, 76, 0, 11, 3), (6, 66, 0, 91, 3)]
set_option maxRecDepth 100000 in
theorem mt6_4_a : ∀ e ∈ mt6_4, okCA e := List.forall_mem_cons.mpr ⟨⟨_, rfl, inr44 _ (List.mem_of_getElem? (i := 14) rfl), inr2 _ (List.mem_of_getElem? (i := 13) rfl), inr44 _ (List.mem_of_getElem? (i := 15) rfl)⟩, List.forall_mem_cons.mpr ⟨⟨_, rfl, inr44 _ (List.mem_of_getElem? (i := 17) rfl), inr2 _ (List.mem_of_getElem? (i := 13) rfl), inr44 _ (List.mem_of_getElem? (i := 18) rfl)⟩, List.forall_mem_cons.mpr ⟨⟨_, rfl, inr44 _ (List.mem_of_getElem? (i := 20) rfl), inr2 _ (List.mem_of_getElem? (i := 1) rfl), ⟨inr23 _ (List.mem_of_getElem? (i := 23) rfl), inr24 _ (List.mem_of_getElem? (i := 0) rfl)⟩⟩, List.forall_mem_cons.mpr ⟨⟨_, rfl, inr45 _ (List.mem_of_getElem? (i := 13) rfl), inr2 _ (List.mem_of_getElem? (i := 13) rfl), ⟨inr45 _ (List.mem_of_getElem? (i := 14) rfl), inr45 _ (List.mem_of_getElem? (i := 15) rfl)⟩⟩, fun _ h => nomatch h⟩⟩⟩⟩
set_option maxRecDepth 100000 in
theorem mt6_4_b : ∀ e ∈ mt6_4, okCB e := by unfold okCB; decide +kernel
theorem mt6_4_ok : ∀ e ∈ mt6_4, okC e := fun e h => by
  obtain ⟨q, h1, h2, h3, h4⟩ := mt6_4_a e h
  have b := mt6_4_b e h
  unfold okCB at b
  rw [h1] at b
  exact ⟨q, h1, h2, h3, Option.some.inj b, h4⟩
def mt6_5 : List (Nat × Nat × Nat × Nat × Nat) := [(6, 80, 0, 2, 0), (6, 83, 0, 89, 2), (6, 95, 1, 315, 2), (6, 87, 0, 6, 4), (6, 91, 0, 3, 1)]
set_option maxRecDepth 100000 in
theorem mt6_5_a : ∀ e ∈ mt6_5, okCA e := List.forall_mem_cons.mpr ⟨⟨_, rfl, inr44 _ (List.mem_of_getElem? (i := 21) rfl), inr2 _ (List.mem_of_getElem? (i := 1) rfl), ⟨inr44 _ (List.mem_of_getElem? (i := 22) rfl), inr44 _ (List.mem_of_getElem? (i := 23) rfl)⟩⟩, List.forall_mem_cons.mpr ⟨⟨_, rfl, inr45 _ (List.mem_of_getElem? (i := 9) rfl), inr2 _ (List.mem_of_getElem? (i := 13) rfl), ⟨inr45 _ (List.mem_of_getElem? (i := 10) rfl), inr45 _ (List.mem_of_getElem? (i := 11) rfl)⟩⟩, List.forall_mem_cons.mpr ⟨⟨_, rfl, inr45 _ (List.mem_of_getElem? (i := 17) rfl), inr13 _ (List.mem_of_getElem? (i := 6) rfl), inr41 _ (List.mem_of_getElem? (i := 1) rfl)⟩, List.forall_mem_cons.mpr ⟨⟨_, rfl, inr45 _ (List.mem_of_getElem? (i := 18) rfl), inr2 _ (List.mem_of_getElem? (i := 1) rfl), ⟨inr13 _ (List.mem_of_getElem? (i := 16) rfl), inr13 _ (List.mem_of_getElem? (i := 17) rfl)⟩⟩, List.forall_mem_cons.mpr ⟨⟨_, rfl, inr45 _ (List.mem_of_getElem? (i := 19) rfl), inr2 _ (List.mem_of_getElem? (i := 1) rfl), ⟨inr11 _ (List.mem_of_getElem? (i := 15) rfl), inr11 _ (List.mem_of_getElem? (i := 16) rfl)⟩⟩, fun _ h => nomatch h⟩⟩⟩⟩⟩
set_option maxRecDepth 100000 in
theorem mt6_5_b : ∀ e ∈ mt6_5, okCB e := by unfold okCB; decide +kernel
theorem mt6_5_ok : ∀ e ∈ mt6_5, okC e := fun e h => by
  obtain ⟨q, h1, h2, h3, h4⟩ := mt6_5_a e h
  have b := mt6_5_b e h
  unfold okCB at b
  rw [h1] at b
  exact ⟨q, h1, h2, h3, Option.some.inj b, h4⟩
def mt6L : List (List (Nat × Nat × Nat × Nat × Nat)) := [[], [], mt6_2, mt6_3, mt6_4, mt6_5]
theorem mt6L_ok : ∀ B ∈ mt6L, ∀ e ∈ B, okC e := List.forall_mem_cons.mpr ⟨(fun _ h => nomatch h), List.forall_mem_cons.mpr ⟨(fun _ h => nomatch h), List.forall_mem_cons.mpr ⟨mt6_2_ok, List.forall_mem_cons.mpr ⟨mt6_3_ok, List.forall_mem_cons.mpr ⟨mt6_4_ok, List.forall_mem_cons.mpr ⟨mt6_5_ok, fun _ h => nomatch h⟩⟩⟩⟩⟩⟩
def mt7_1 : List (Nat × Nat × Nat × Nat × Nat) := [(7, 22, 0, 35, 1), (7, 26, 0, 38, 1), (7, 29, 0, 66, 2)]
set_option maxRecDepth 100000 in
theorem mt7_1_a : ∀ e ∈ mt7_1, okCA e := List.forall_mem_cons.mpr ⟨⟨_, rfl, inr19 _ (List.mem_of_getElem? (i := 3) rfl), inr3 _ (List.mem_of_getElem? (i := 10) rfl), ⟨inr19 _ (List.mem_of_getElem? (i := 4) rfl), inr19 _ (List.mem_of_getElem? (i := 5) rfl)⟩⟩, List.forall_mem_cons.mpr ⟨⟨_, rfl, inr19 _ (List.mem_of_getElem? (i := 7) rfl), inr3 _ (List.mem_of_getElem? (i := 10) rfl), ⟨inr19 _ (List.mem_of_getElem? (i := 8) rfl), inr19 _ (List.mem_of_getElem? (i := 9) rfl)⟩⟩, List.forall_mem_cons.mpr ⟨⟨_, rfl, inr19 _ (List.mem_of_getElem? (i := 11) rfl), inr3 _ (List.mem_of_getElem? (i := 10) rfl), ⟨inr17 _ (List.mem_of_getElem? (i := 7) rfl), inr17 _ (List.mem_of_getElem? (i := 8) rfl)⟩⟩, fun _ h => nomatch h⟩⟩⟩
set_option maxRecDepth 100000 in
theorem mt7_1_b : ∀ e ∈ mt7_1, okCB e := by unfold okCB; decide +kernel
theorem mt7_1_ok : ∀ e ∈ mt7_1, okC e := fun e h => by
  obtain ⟨q, h1, h2, h3, h4⟩ := mt7_1_a e h
  have b := mt7_1_b e h
  unfold okCB at b
  rw [h1] at b
  exact ⟨q, h1, h2, h3, Option.some.inj b, h4⟩
def mt7L : List (List (Nat × Nat × Nat × Nat × Nat)) := [[], mt7_1]
theorem mt7L_ok : ∀ B ∈ mt7L, ∀ e ∈ B, okC e := List.forall_mem_cons.mpr ⟨(fun _ h => nomatch h), List.forall_mem_cons.mpr ⟨mt7_1_ok, fun _ h => nomatch h⟩⟩
def mt8_1 : List (Nat × Nat × Nat × Nat × Nat) := [(8, 19, 1, 33, 1)]
set_option maxRecDepth 100000 in
theorem mt8_1_a : ∀ e ∈ mt8_1, okCA e := List.forall_mem_cons.mpr ⟨⟨_, rfl, inr4 _ (List.mem_of_getElem? (i := 9) rfl), inr3 _ (List.mem_of_getElem? (i := 1) rfl), inr4 _ (List.mem_of_getElem? (i := 10) rfl)⟩, fun _ h => nomatch h⟩
set_option maxRecDepth 100000 in
theorem mt8_1_b : ∀ e ∈ mt8_1, okCB e := by unfold okCB; decide +kernel
theorem mt8_1_ok : ∀ e ∈ mt8_1, okC e := fun e h => by
  obtain ⟨q, h1, h2, h3, h4⟩ := mt8_1_a e h
  have b := mt8_1_b e h
  unfold okCB at b
  rw [h1] at b
  exact ⟨q, h1, h2, h3, Option.some.inj b, h4⟩
def mt8_3 : List (Nat × Nat × Nat × Nat × Nat) := [(8, 59, 0, 96, 1), (8, 49, 1, 36, 2), (8, 63, 0, 97, 1)]
set_option maxRecDepth 100000 in
theorem mt8_3_a : ∀ e ∈ mt8_3, okCA e := List.forall_mem_cons.mpr ⟨⟨_, rfl, inr10 _ (List.mem_of_getElem? (i := 18) rfl), inr1 _ (List.mem_of_getElem? (i := 19) rfl), ⟨inr10 _ (List.mem_of_getElem? (i := 19) rfl), inr10 _ (List.mem_of_getElem? (i := 20) rfl)⟩⟩, List.forall_mem_cons.mpr ⟨⟨_, rfl, inr10 _ (List.mem_of_getElem? (i := 22) rfl), inr3 _ (List.mem_of_getElem? (i := 1) rfl), inr10 _ (List.mem_of_getElem? (i := 23) rfl)⟩, List.forall_mem_cons.mpr ⟨⟨_, rfl, inr14 _ (List.mem_of_getElem? (i := 1) rfl), inr1 _ (List.mem_of_getElem? (i := 19) rfl), ⟨inr14 _ (List.mem_of_getElem? (i := 2) rfl), inr14 _ (List.mem_of_getElem? (i := 3) rfl)⟩⟩, fun _ h => nomatch h⟩⟩⟩
set_option maxRecDepth 100000 in
theorem mt8_3_b : ∀ e ∈ mt8_3, okCB e := by unfold okCB; decide +kernel
theorem mt8_3_ok : ∀ e ∈ mt8_3, okC e := fun e h => by
  obtain ⟨q, h1, h2, h3, h4⟩ := mt8_3_a e h
  have b := mt8_3_b e h
  unfold okCB at b
  rw [h1] at b
  exact ⟨q, h1, h2, h3, Option.some.inj b, h4⟩
def mt8_4 : List (Nat × Nat × Nat × Nat × Nat) := [(8, 67, 0, 77, 1), (8, 71, 0, 30, 0)]
set_option maxRecDepth 100000 in
theorem mt8_4_a : ∀ e ∈ mt8_4, okCA e := List.forall_mem_cons.mpr ⟨⟨_, rfl, inr18 _ (List.mem_of_getElem? (i := 19) rfl), inr1 _ (List.mem_of_getElem? (i := 19) rfl), ⟨inr18 _ (List.mem_of_getElem? (i := 20) rfl), inr18 _ (List.mem_of_getElem? (i := 21) rfl)⟩⟩, List.forall_mem_cons.mpr ⟨⟨_, rfl, inr69 _ (List.mem_of_getElem? (i := 8) rfl), inr3 _ (List.mem_of_getElem? (i := 1) rfl), ⟨inr43 _ (List.mem_of_getElem? (i := 22) rfl), inr43 _ (List.mem_of_getElem? (i := 23) rfl)⟩⟩, fun _ h => nomatch h⟩⟩
set_option maxRecDepth 100000 in
theorem mt8_4_b : ∀ e ∈ mt8_4, okCB e := by unfold okCB; decide +kernel
theorem mt8_4_ok : ∀ e ∈ mt8_4, okC e := fun e h => by
  obtain ⟨q, h1, h2, h3, h4⟩ := mt8_4_a e h
  have b := mt8_4_b e h
  unfold okCB at b
  rw [h1] at b
  exact ⟨q, h1, h2, h3, Option.some.inj b, h4⟩
def mt8_5 : List (Nat × Nat × Nat × Nat × Nat) := [(8, 81, 0, 102, 0), (8, 84, 0, 24, 1), (8, 88, 0, 45, 1), (8, 91, 0, 109, 1)]
set_option maxRecDepth 100000 in
theorem mt8_5_a : ∀ e ∈ mt8_5, okCA e := List.forall_mem_cons.mpr ⟨⟨_, rfl, inr27 _ (List.mem_of_getElem? (i := 23) rfl), inr1 _ (List.mem_of_getElem? (i := 19) rfl), ⟨inr28 _ (List.mem_of_getElem? (i := 0) rfl), inr28 _ (List.mem_of_getElem? (i := 1) rfl)⟩⟩, List.forall_mem_cons.mpr ⟨⟨_, rfl, inr28 _ (List.mem_of_getElem? (i := 3) rfl), inr3 _ (List.mem_of_getElem? (i := 1) rfl), ⟨inr28 _ (List.mem_of_getElem? (i := 4) rfl), inr28 _ (List.mem_of_getElem? (i := 5) rfl)⟩⟩, List.forall_mem_cons.mpr ⟨⟨_, rfl, inr29 _ (List.mem_of_getElem? (i := 21) rfl), inr3 _ (List.mem_of_getElem? (i := 1) rfl), ⟨inr29 _ (List.mem_of_getElem? (i := 22) rfl), inr29 _ (List.mem_of_getElem? (i := 23) rfl)⟩⟩, List.forall_mem_cons.mpr ⟨⟨_, rfl, inr68 _ (List.mem_of_getElem? (i := 3) rfl), inr1 _ (List.mem_of_getElem? (i := 19) rfl), ⟨inr68 _ (List.mem_of_getElem? (i := 4) rfl), inr68 _ (List.mem_of_getElem? (i := 5) rfl)⟩⟩, fun _ h => nomatch h⟩⟩⟩⟩
set_option maxRecDepth 100000 in
theorem mt8_5_b : ∀ e ∈ mt8_5, okCB e := by unfold okCB; decide +kernel
theorem mt8_5_ok : ∀ e ∈ mt8_5, okC e := fun e h => by
  obtain ⟨q, h1, h2, h3, h4⟩ := mt8_5_a e h
  have b := mt8_5_b e h
  unfold okCB at b
  rw [h1] at b
  exact ⟨q, h1, h2, h3, Option.some.inj b, h4⟩
def mt8_6 : List (Nat × Nat × Nat × Nat × Nat) := [(8, 107, 0, 7, 4), (8, 111, 0, 93, 1)]
set_option maxRecDepth 100000 in
theorem mt8_6_a : ∀ e ∈ mt8_6, okCA e := List.forall_mem_cons.mpr ⟨⟨_, rfl, inr68 _ (List.mem_of_getElem? (i := 7) rfl), inr4 _ (List.mem_of_getElem? (i := 8) rfl), ⟨inr14 _ (List.mem_of_getElem? (i := 10) rfl), inr14 _ (List.mem_of_getElem? (i := 11) rfl)⟩⟩, List.forall_mem_cons.mpr ⟨⟨_, rfl, inr68 _ (List.mem_of_getElem? (i := 8) rfl), inr3 _ (List.mem_of_getElem? (i := 10) rfl), ⟨inr19 _ (List.mem_of_getElem? (i := 0) rfl), inr19 _ (List.mem_of_getElem? (i := 1) rfl)⟩⟩, fun _ h => nomatch h⟩⟩
set_option maxRecDepth 100000 in
theorem mt8_6_b : ∀ e ∈ mt8_6, okCB e := by unfold okCB; decide +kernel
theorem mt8_6_ok : ∀ e ∈ mt8_6, okC e := fun e h => by
  obtain ⟨q, h1, h2, h3, h4⟩ := mt8_6_a e h
  have b := mt8_6_b e h
  unfold okCB at b
  rw [h1] at b
  exact ⟨q, h1, h2, h3, Option.some.inj b, h4⟩
def mt8L : List (List (Nat × Nat × Nat × Nat × Nat)) := [[], mt8_1, [], mt8_3, mt8_4, mt8_5, mt8_6]
theorem mt8L_ok : ∀ B ∈ mt8L, ∀ e ∈ B, okC e := List.forall_mem_cons.mpr ⟨(fun _ h => nomatch h), List.forall_mem_cons.mpr ⟨mt8_1_ok, List.forall_mem_cons.mpr ⟨(fun _ h => nomatch h), List.forall_mem_cons.mpr ⟨mt8_3_ok, List.forall_mem_cons.mpr ⟨mt8_4_ok, List.forall_mem_cons.mpr ⟨mt8_5_ok, List.forall_mem_cons.mpr ⟨mt8_6_ok, fun _ h => nomatch h⟩⟩⟩⟩⟩⟩⟩
def mt10_2 : List (Nat × Nat × Nat × Nat × Nat) := [(10, 37, 0, 112, 0), (10, 41, 0, 114, 0), (10, 44, 0, 115, 0)]
set_option maxRecDepth 100000 in
theorem mt10_2_a : ∀ e ∈ mt10_2, okCA e := List.forall_mem_cons.mpr ⟨⟨_, rfl, inr60 _ (List.mem_of_getElem? (i := 15) rfl), inr2 _ (List.mem_of_getElem? (i := 21) rfl), ⟨inr60 _ (List.mem_of_getElem? (i := 16) rfl), inr60 _ (List.mem_of_getElem? (i := 17) rfl)⟩⟩, List.forall_mem_cons.mpr ⟨⟨_, rfl, inr60 _ (List.mem_of_getElem? (i := 19) rfl), inr2 _ (List.mem_of_getElem? (i := 21) rfl), ⟨inr60 _ (List.mem_of_getElem? (i := 20) rfl), inr60 _ (List.mem_of_getElem? (i := 21) rfl)⟩⟩, List.forall_mem_cons.mpr ⟨⟨_, rfl, inr61 _ (List.mem_of_getElem? (i := 3) rfl), inr2 _ (List.mem_of_getElem? (i := 21) rfl), ⟨inr61 _ (List.mem_of_getElem? (i := 4) rfl), inr61 _ (List.mem_of_getElem? (i := 5) rfl)⟩⟩, fun _ h => nomatch h⟩⟩⟩
set_option maxRecDepth 100000 in
theorem mt10_2_b : ∀ e ∈ mt10_2, okCB e := by unfold okCB; decide +kernel
theorem mt10_2_ok : ∀ e ∈ mt10_2, okC e := fun e h => by
  obtain ⟨q, h1, h2, h3, h4⟩ := mt10_2_a e h
  have b := mt10_2_b e h
  unfold okCB at b
  rw [h1] at b
  exact ⟨q, h1, h2, h3, Option.some.inj b, h4⟩
def mt10_3 : List (Nat × Nat × Nat × Nat × Nat) := [(10, 49, 1, 113, 2), (10, 55, 0, 117, 0), (10, 61, 1, 119, 2)]
set_option maxRecDepth 100000 in
theorem mt10_3_a : ∀ e ∈ mt10_3, okCA e := List.forall_mem_cons.mpr ⟨⟨_, rfl, inr61 _ (List.mem_of_getElem? (i := 0) rfl), inr13 _ (List.mem_of_getElem? (i := 6) rfl), inr61 _ (List.mem_of_getElem? (i := 1) rfl)⟩, List.forall_mem_cons.mpr ⟨⟨_, rfl, inr61 _ (List.mem_of_getElem? (i := 12) rfl), inr2 _ (List.mem_of_getElem? (i := 21) rfl), ⟨inr61 _ (List.mem_of_getElem? (i := 13) rfl), inr61 _ (List.mem_of_getElem? (i := 14) rfl)⟩⟩, List.forall_mem_cons.mpr ⟨⟨_, rfl, inr63 _ (List.mem_of_getElem? (i := 19) rfl), inr2 _ (List.mem_of_getElem? (i := 21) rfl), inr63 _ (List.mem_of_getElem? (i := 20) rfl)⟩, fun _ h => nomatch h⟩⟩⟩
set_option maxRecDepth 100000 in
theorem mt10_3_b : ∀ e ∈ mt10_3, okCB e := by unfold okCB; decide +kernel
theorem mt10_3_ok : ∀ e ∈ mt10_3, okC e := fun e h => by
  obtain ⟨q, h1, h2, h3, h4⟩ := mt10_3_a e h
  have b := mt10_3_b e h
  unfold okCB at b
  rw [h1] at b
  exact ⟨q, h1, h2, h3, Option.some.inj b, h4⟩
def mt10_4 : List (Nat × Nat × Nat × Nat × Nat) := [(10, 65, 1, 314, 1), (10, 77, 1, 122, 5)]
set_option maxRecDepth 100000 in
theorem mt10_4_a : ∀ e ∈ mt10_4, okCA e := List.forall_mem_cons.mpr ⟨⟨_, rfl, inr63 _ (List.mem_of_getElem? (i := 22) rfl), inr13 _ (List.mem_of_getElem? (i := 6) rfl), inr63 _ (List.mem_of_getElem? (i := 23) rfl)⟩, List.forall_mem_cons.mpr ⟨⟨_, rfl, inr66 _ (List.mem_of_getElem? (i := 4) rfl), inr2 _ (List.mem_of_getElem? (i := 21) rfl), inr66 _ (List.mem_of_getElem? (i := 5) rfl)⟩, fun _ h => nomatch h⟩⟩
set_option maxRecDepth 100000 in
theorem mt10_4_b : ∀ e ∈ mt10_4, okCB e := by unfold okCB; decide +kernel
theorem mt10_4_ok : ∀ e ∈ mt10_4, okC e := fun e h => by
  obtain ⟨q, h1, h2, h3, h4⟩ := mt10_4_a e h
  have b := mt10_4_b e h
  unfold okCB at b
  rw [h1] at b
  exact ⟨q, h1, h2, h3, Option.some.inj b, h4⟩
def mt10_5 : List (Nat × Nat × Nat × Nat × Nat) := [(10, 87, 1, 123, 2)]
set_option maxRecDepth 100000 in
theorem mt10_5_a : ∀ e ∈ mt10_5, okCA e := List.forall_mem_cons.mpr ⟨⟨_, rfl, inr66 _ (List.mem_of_getElem? (i := 13) rfl), inr2 _ (List.mem_of_getElem? (i := 21) rfl), inr66 _ (List.mem_of_getElem? (i := 14) rfl)⟩, fun _ h => nomatch h⟩
set_option maxRecDepth 100000 in
theorem mt10_5_b : ∀ e ∈ mt10_5, okCB e := by unfold okCB; decide +kernel
theorem mt10_5_ok : ∀ e ∈ mt10_5, okC e := fun e h => by
  obtain ⟨q, h1, h2, h3, h4⟩ := mt10_5_a e h
  have b := mt10_5_b e h
  unfold okCB at b
  rw [h1] at b
  exact ⟨q, h1, h2, h3, Option.some.inj b, h4⟩
def mt10L : List (List (Nat × Nat × Nat × Nat × Nat)) := [[], [], mt10_2, mt10_3, mt10_4, mt10_5]
theorem mt10L_ok : ∀ B ∈ mt10L, ∀ e ∈ B, okC e := List.forall_mem_cons.mpr ⟨(fun _ h => nomatch h), List.forall_mem_cons.mpr ⟨(fun _ h => nomatch h), List.forall_mem_cons.mpr ⟨mt10_2_ok, List.forall_mem_cons.mpr ⟨mt10_3_ok, List.forall_mem_cons.mpr ⟨mt10_4_ok, List.forall_mem_cons.mpr ⟨mt10_5_ok, fun _ h => nomatch h⟩⟩⟩⟩⟩⟩
def mt11_1 : List (Nat × Nat × Nat × Nat × Nat) := [(11, 18, 2, 95, 0)]
set_option maxRecDepth 100000 in
theorem mt11_1_a : ∀ e ∈ mt11_1, okCA e := List.forall_mem_cons.mpr ⟨⟨_, rfl, inr3 _ (List.mem_of_getElem? (i := 19) rfl), inr1 _ (List.mem_of_getElem? (i := 19) rfl), ⟨inr3 _ (List.mem_of_getElem? (i := 20) rfl), rfl⟩⟩, fun _ h => nomatch h⟩
set_option maxRecDepth 100000 in
theorem mt11_1_b : ∀ e ∈ mt11_1, okCB e := by unfold okCB; decide +kernel
theorem mt11_1_ok : ∀ e ∈ mt11_1, okC e := fun e h => by
  obtain ⟨q, h1, h2, h3, h4⟩ := mt11_1_a e h
  have b := mt11_1_b e h
  unfold okCB at b
  rw [h1] at b
  exact ⟨q, h1, h2, h3, Option.some.inj b, h4⟩
def mt11_2 : List (Nat × Nat × Nat × Nat × Nat) := [(11, 32, 2, 1, 1), (11, 41, 2, 34, 1)]
set_option maxRecDepth 100000 in
theorem mt11_2_a : ∀ e ∈ mt11_2, okCA e := List.forall_mem_cons.mpr ⟨⟨_, rfl, inr4 _ (List.mem_of_getElem? (i := 21) rfl), inr2 _ (List.mem_of_getElem? (i := 1) rfl), ⟨inr4 _ (List.mem_of_getElem? (i := 22) rfl), rfl⟩⟩, List.forall_mem_cons.mpr ⟨⟨_, rfl, inr5 _ (List.mem_of_getElem? (i := 5) rfl), inr2 _ (List.mem_of_getElem? (i := 5) rfl), ⟨inr5 _ (List.mem_of_getElem? (i := 6) rfl), rfl⟩⟩, fun _ h => nomatch h⟩⟩
set_option maxRecDepth 100000 in
theorem mt11_2_b : ∀ e ∈ mt11_2, okCB e := by unfold okCB; decide +kernel
theorem mt11_2_ok : ∀ e ∈ mt11_2, okC e := fun e h => by
  obtain ⟨q, h1, h2, h3, h4⟩ := mt11_2_a e h
  have b := mt11_2_b e h
  unfold okCB at b
  rw [h1] at b
  exact ⟨q, h1, h2, h3, Option.some.inj b, h4⟩
def mt11_3 : List (Nat × Nat × Nat × Nat × Nat) := [(11, 50, 2, 75, 2), (11, 59, 2, 84, 1)]
set_option maxRecDepth 100000 in
theorem mt11_3_a : ∀ e ∈ mt11_3, okCA e := List.forall_mem_cons.mpr ⟨⟨_, rfl, inr5 _ (List.mem_of_getElem? (i := 16) rfl), inr2 _ (List.mem_of_getElem? (i := 9) rfl), ⟨inr5 _ (List.mem_of_getElem? (i := 17) rfl), rfl⟩⟩, List.forall_mem_cons.mpr ⟨⟨_, rfl, inr6 _ (List.mem_of_getElem? (i := 4) rfl), inr2 _ (List.mem_of_getElem? (i := 13) rfl), ⟨inr6 _ (List.mem_of_getElem? (i := 5) rfl), rfl⟩⟩, fun _ h => nomatch h⟩⟩
set_option maxRecDepth 100000 in
theorem mt11_3_b : ∀ e ∈ mt11_3, okCB e := by unfold okCB; decide +kernel
theorem mt11_3_ok : ∀ e ∈ mt11_3, okC e := fun e h => by
  obtain ⟨q, h1, h2, h3, h4⟩ := mt11_3_a e h
  have b := mt11_3_b e h
  unfold okCB at b
  rw [h1] at b
  exact ⟨q, h1, h2, h3, Option.some.inj b, h4⟩
def mt11_4 : List (Nat × Nat × Nat × Nat × Nat) := [(11, 66, 2, 46, 1)]
set_option maxRecDepth 100000 in
theorem mt11_4_a : ∀ e ∈ mt11_4, okCA e := List.forall_mem_cons.mpr ⟨⟨_, rfl, inr6 _ (List.mem_of_getElem? (i := 13) rfl), inr2 _ (List.mem_of_getElem? (i := 17) rfl), ⟨inr6 _ (List.mem_of_getElem? (i := 14) rfl), rfl⟩⟩, fun _ h => nomatch h⟩
set_option maxRecDepth 100000 in
theorem mt11_4_b : ∀ e ∈ mt11_4, okCB e := by unfold okCB; decide +kernel
theorem mt11_4_ok : ∀ e ∈ mt11_4, okC e := fun e h => by
  obtain ⟨q, h1, h2, h3, h4⟩ := mt11_4_a e h
  have b := mt11_4_b e h
  unfold okCB at b
  rw [h1] at b
  exact ⟨q, h1, h2, h3, Option.some.inj b, h4⟩
def mt11_5 : List (Nat × Nat × Nat × Nat × Nat) := [(11, 94, 0, 59, 1)]
set_option maxRecDepth 100000 in
theorem mt11_5_a : ∀ e ∈ mt11_5, okCA e := List.forall_mem_cons.mpr ⟨⟨_, rfl, inr8 _ (List.mem_of_getElem? (i := 3) rfl), inr1 _ (List.mem_of_getElem? (i := 15) rfl), ⟨inr8 _ (List.mem_of_getElem? (i := 4) rfl), inr8 _ (List.mem_of_getElem? (i := 5) rfl)⟩⟩, fun _ h => nomatch h⟩
set_option maxRecDepth 100000 in
theorem mt11_5_b : ∀ e ∈ mt11_5, okCB e := by unfold okCB; decide +kernel
theorem mt11_5_ok : ∀ e ∈ mt11_5, okC e := fun e h => by
  obtain ⟨q, h1, h2, h3, h4⟩ := mt11_5_a e h
  have b := mt11_5_b e h
  unfold okCB at b
  rw [h1] at b
  exact ⟨q, h1, h2, h3, Option.some.inj b, h4⟩
def mt11_7 : List (Nat × Nat × Nat × Nat × Nat) := [(11, 113, 0, 60, 0), (11, 117, 0, 98, 0), (11, 124, 0, 16, 1), (11, 127, 0, 61, 1)]
set_option maxRecDepth 100000 in
theorem mt11_7_a : ∀ e ∈ mt11_7, okCA e := List.forall_mem_cons.mpr ⟨⟨_, rfl, inr10 _ (List.mem_of_getElem? (i := 9) rfl), inr1 _ (List.mem_of_getElem? (i := 15) rfl), ⟨inr10 _ (List.mem_of_getElem? (i := 10) rfl), inr10 _ (List.mem_of_getElem? (i := 11) rfl)⟩⟩, List.forall_mem_cons.mpr ⟨⟨_, rfl, inr10 _ (List.mem_of_getElem? (i := 13) rfl), inr1 _ (List.mem_of_getElem? (i := 19) rfl), ⟨inr10 _ (List.mem_of_getElem? (i := 14) rfl), inr10 _ (List.mem_of_getElem? (i := 15) rfl)⟩⟩, List.forall_mem_cons.mpr ⟨⟨_, rfl, inr11 _ (List.mem_of_getElem? (i := 1) rfl), inr3 _ (List.mem_of_getElem? (i := 1) rfl), ⟨inr11 _ (List.mem_of_getElem? (i := 2) rfl), inr11 _ (List.mem_of_getElem? (i := 3) rfl)⟩⟩, List.forall_mem_cons.mpr ⟨⟨_, rfl, inr11 _ (List.mem_of_getElem? (i := 10) rfl), inr1 _ (List.mem_of_getElem? (i := 15) rfl), ⟨inr11 _ (List.mem_of_getElem? (i := 11) rfl), inr11 _ (List.mem_of_getElem? (i := 12) rfl)⟩⟩, fun _ h => nomatch h⟩⟩⟩⟩
set_option maxRecDepth 100000 in
theorem mt11_7_b : ∀ e ∈ mt11_7, okCB e := by unfold okCB; decide +kernel
theorem mt11_7_ok : ∀ e ∈ mt11_7, okC e := fun e h => by
  obtain ⟨q, h1, h2, h3, h4⟩ := mt11_7_a e h
  have b := mt11_7_b e h
  unfold okCB at b
  rw [h1] at b
  exact ⟨q, h1, h2, h3, Option.some.inj b, h4⟩
def mt11_8 : List (Nat × Nat × Nat × Nat × Nat) := [(11, 131, 0, 3, 1), (11, 135, 0, 12, 2), (11, 139, 0, 104, 0), (11, 142, 0, 6, 4)]
set_option maxRecDepth 100000 in
theorem mt11_8_a : ∀ e ∈ mt11_8, okCA e := List.forall_mem_cons.mpr ⟨⟨_, rfl, inr11 _ (List.mem_of_getElem? (i := 14) rfl), inr2 _ (List.mem_of_getElem? (i := 1) rfl), ⟨inr11 _ (List.mem_of_getElem? (i := 15) rfl), inr11 _ (List.mem_of_getElem? (i := 16) rfl)⟩⟩, List.forall_mem_cons.mpr ⟨⟨_, rfl, inr11 _ (List.mem_of_getElem? (i := 19) rfl), inr3 _ (List.mem_of_getElem? (i := 1) rfl), ⟨inr11 _ (List.mem_of_getElem? (i := 20) rfl), inr11 _ (List.mem_of_getElem? (i := 21) rfl)⟩⟩, List.forall_mem_cons.mpr ⟨⟨_, rfl, inr11 _ (List.mem_of_getElem? (i := 23) rfl), inr1 _ (List.mem_of_getElem? (i := 19) rfl), ⟨inr12 _ (List.mem_of_getElem? (i := 0) rfl), inr12 _ (List.mem_of_getElem? (i := 1) rfl)⟩⟩, List.forall_mem_cons.mpr ⟨⟨_, rfl, inr13 _ (List.mem_of_getElem? (i := 15) rfl), inr2 _ (List.mem_of_getElem? (i := 1) rfl), ⟨inr13 _ (List.mem_of_getElem? (i := 16) rfl), inr13 _ (List.mem_of_getElem? (i := 17) rfl)⟩⟩, fun _ h => nomatch h⟩⟩⟩⟩
set_option maxRecDepth 100000 in
theorem mt11_8_b : ∀ e ∈ mt11_8, okCB e := by unfold okCB; decide +kernel
theorem mt11_8_ok : ∀ e ∈ mt11_8, okC e := fun e h => by
  obtain ⟨q, h1, h2, h3, h4⟩ := mt11_8_a e h
  have b := mt11_8_b e h
  unfold okCB at b
  rw [h1] at b
  exact ⟨q, h1, h2, h3, Option.some.inj b, h4⟩
def mt11_9 : List (Nat × Nat × Nat × Nat × Nat) := [(11, 146, 0, 99, 0), (11, 150, 0, 8, 5), (11, 154, 0, 74, 1), (11, 157, 0, 100, 0)]
set_option maxRecDepth 100000 in
theorem mt11_9_a : ∀ e ∈ mt11_9, okCA e := List.forall_mem_cons.mpr ⟨⟨_, rfl, inr13 _ (List.mem_of_getElem? (i := 20) rfl), inr1 _ (List.mem_of_getElem? (i := 19) rfl), ⟨inr13 _ (List.mem_of_getElem? (i := 21) rfl), inr13 _ (List.mem_of_getElem? (i := 22) rfl)⟩⟩, List.forall_mem_cons.mpr ⟨⟨_, rfl, inr14 _ (List.mem_of_getElem? (i := 5) rfl), inr2 _ (List.mem_of_getElem? (i := 1) rfl), ⟨inr14 _ (List.mem_of_getElem? (i := 6) rfl), inr14 _ (List.mem_of_getElem? (i := 7) rfl)⟩⟩, List.forall_mem_cons.mpr ⟨⟨_, rfl, inr16 _ (List.mem_of_getElem? (i := 6) rfl), inr1 _ (List.mem_of_getElem? (i := 15) rfl), ⟨inr16 _ (List.mem_of_getElem? (i := 7) rfl), inr16 _ (List.mem_of_getElem? (i := 8) rfl)⟩⟩, List.forall_mem_cons.mpr ⟨⟨_, rfl, inr18 _ (List.mem_of_getElem? (i := 14) rfl), inr1 _ (List.mem_of_getElem? (i := 19) rfl), ⟨inr18 _ (List.mem_of_getElem? (i := 15) rfl), inr18 _ (List.mem_of_getElem? (i := 16) rfl)⟩⟩, fun _ h => nomatch h⟩⟩⟩⟩
set_option maxRecDepth 100000 in
theorem mt11_9_b : ∀ e ∈ mt11_9, okCB e := by unfold okCB; decide +kernel
theorem mt11_9_ok : ∀ e ∈ mt11_9, okC e := fun e h => by
  obtain ⟨q, h1, h2, h3, h4⟩ := mt11_9_a e h
  have b := mt11_9_b e h
  unfold okCB at b
  rw [h1] at b
  exact ⟨q, h1, h2, h3, Option.some.inj b, h4⟩
def mt11_10 : List (Nat × Nat × Nat × Nat × Nat) := [(11, 165, 0, 93, 1), (11, 174, 0, 96, 1)]
set_option maxRecDepth 100000 in
theorem mt11_10_a : ∀ e ∈ mt11_10, okCA e := List.forall_mem_cons.mpr ⟨⟨_, rfl, inr18 _ (List.mem_of_getElem? (i := 23) rfl), inr3 _ (List.mem_of_getElem? (i := 10) rfl), ⟨inr19 _ (List.mem_of_getElem? (i := 0) rfl), inr19 _ (List.mem_of_getElem? (i := 1) rfl)⟩⟩, List.forall_mem_cons.mpr ⟨⟨_, rfl, inr22 _ (List.mem_of_getElem? (i := 14) rfl), inr1 _ (List.mem_of_getElem? (i := 19) rfl), ⟨inr10 _ (List.mem_of_getElem? (i := 19) rfl), inr10 _ (List.mem_of_getElem? (i := 20) rfl)⟩⟩, fun _ h => nomatch h⟩⟩
set_option maxRecDepth 100000 in
theorem mt11_10_b : ∀ e ∈ mt11_10, okCB e := by unfold okCB; decide +kernel
theorem mt11_10_ok : ∀ e ∈ mt11_10, okC e := fun e h => by
  obtain ⟨q, h1, h2, h3, h4⟩ := mt11_10_a e h
  have b := mt11_10_b e h
  unfold okCB at b
  rw [h1] at b
  exact ⟨q, h1, h2, h3, Option.some.inj b, h4⟩
def mt11_11 : List (Nat × Nat × Nat × Nat × Nat) := [(11, 181, 0, 97, 1), (11, 185, 0, 77, 1)]
set_option maxRecDepth 100000 in
theorem mt11_11_a : ∀ e ∈ mt11_11, okCA e := List.forall_mem_cons.mpr ⟨⟨_, rfl, inr25 _ (List.mem_of_getElem? (i := 23) rfl), inr1 _ (List.mem_of_getElem? (i := 19) rfl), ⟨inr14 _ (List.mem_of_getElem? (i := 2) rfl), inr14 _ (List.mem_of_getElem? (i := 3) rfl)⟩⟩, List.forall_mem_cons.mpr ⟨⟨_, rfl, inr31 _ (List.mem_of_getElem? (i := 20) rfl), inr1 _ (List.mem_of_getElem? (i := 19) rfl), ⟨inr18 _ (List.mem_of_getElem? (i := 20) rfl), inr18 _ (List.mem_of_getElem? (i := 21) rfl)⟩⟩, fun _ h => nomatch h⟩⟩
set_option maxRecDepth 100000 in
theorem mt11_11_b : ∀ e ∈ mt11_11, okCB e := by unfold okCB; decide +kernel
theorem mt11_11_ok : ∀ e ∈ mt11_11, okC e := fun e h => by
  obtain ⟨q, h1, h2, h3, h4⟩ := mt11_11_a e h
  have b := mt11_11_b e h
  unfold okCB at b
  rw [h1] at b
  exact ⟨q, h1, h2, h3, Option.some.inj b, h4⟩
def mt11_12 : List (Nat × Nat × Nat × Nat × Nat) := [(11, 195, 0, 133, 1), (11, 198, 1, 136, 2), (11, 192, 0, 10, 1), (11, 202, 0, 11, 3), (11, 206, 0, 134, 1)]
set_option maxRecDepth 100000 in
theorem mt11_12_a : ∀ e ∈ mt11_12, okCA e := List.forall_mem_cons.mpr ⟨⟨_, rfl, inr22 _ (List.mem_of_getElem? (i := 8) rfl), inr1 _ (List.mem_of_getElem? (i := 2) rfl), ⟨inr22 _ (List.mem_of_getElem? (i := 9) rfl), inr22 _ (List.mem_of_getElem? (i := 10) rfl)⟩⟩, List.forall_mem_cons.mpr ⟨⟨_, rfl, inr22 _ (List.mem_of_getElem? (i := 15) rfl), inr1 _ (List.mem_of_getElem? (i := 2) rfl), inr22 _ (List.mem_of_getElem? (i := 16) rfl)⟩, List.forall_mem_cons.mpr ⟨⟨_, rfl, inr22 _ (List.mem_of_getElem? (i := 19) rfl), inr3 _ (List.mem_of_getElem? (i := 1) rfl), ⟨inr22 _ (List.mem_of_getElem? (i := 20) rfl), inr22 _ (List.mem_of_getElem? (i := 21) rfl)⟩⟩, List.forall_mem_cons.mpr ⟨⟨_, rfl, inr23 _ (List.mem_of_getElem? (i := 22) rfl), inr2 _ (List.mem_of_getElem? (i := 1) rfl), ⟨inr23 _ (List.mem_of_getElem? (i := 23) rfl), inr24 _ (List.mem_of_getElem? (i := 0) rfl)⟩⟩, List.forall_mem_cons.mpr ⟨⟨_, rfl, inr25 _ (List.mem_of_getElem? (i := 19) rfl), inr1 _ (List.mem_of_getElem? (i := 2) rfl), ⟨inr25 _ (List.mem_of_getElem? (i := 20) rfl), inr25 _ (List.mem_of_getElem? (i := 21) rfl)⟩⟩, fun _ h => nomatch h⟩⟩⟩⟩⟩
set_option maxRecDepth 100000 in
theorem mt11_12_b : ∀ e ∈ mt11_12, okCB e := by unfold okCB; decide +kernel
theorem mt11_12_ok : ∀ e ∈ mt11_12, okC e := fun e h => by
  obtain ⟨q, h1, h2, h3, h4⟩ := mt11_12_a e h
  have b := mt11_12_b e h
  unfold okCB at b
  rw [h1] at b
  exact ⟨q, h1, h2, h3, Option.some.inj b, h4⟩
def mt11_13 : List (Nat × Nat × Nat × Nat × Nat) := [(11, 223, 0, 5, 1)]
set_option maxRecDepth 100000 in
theorem mt11_13_a : ∀ e ∈ mt11_13, okCA e := List.forall_mem_cons.mpr ⟨⟨_, rfl, inr48 _ (List.mem_of_getElem? (i := 6) rfl), inr2 _ (List.mem_of_getElem? (i := 1) rfl), ⟨inr41 _ (List.mem_of_getElem? (i := 5) rfl), inr41 _ (List.mem_of_getElem? (i := 6) rfl)⟩⟩, fun _ h => nomatch h⟩
set_option maxRecDepth 100000 in
theorem mt11_13_b : ∀ e ∈ mt11_13, okCB e := by unfold okCB; decide +kernel
theorem mt11_13_ok : ∀ e ∈ mt11_13, okC e := fun e h => by
  obtain ⟨q, h1, h2, h3, h4⟩ := mt11_13_a e h
  have b := mt11_13_b e h
  unfold okCB at b
  rw [h1] at b
  exact ⟨q, h1, h2, h3, Option.some.inj b, h4⟩
def mt11_14 : List (Nat × Nat × Nat × Nat × Nat) := [(11, 226, 0, 18, 3), (11, 230, 0, 27, 1), (11, 234, 0, 103, 2), (11, 238, 0, 24, 1)]
set_option maxRecDepth 100000 in
theorem mt11_14_a : ∀ e ∈ mt11_14, okCA e := List.forall_mem_cons.mpr ⟨⟨_, rfl, inr26 _ (List.mem_of_getElem? (i := 23) rfl), inr2 _ (List.mem_of_getElem? (i := 1) rfl), ⟨inr27 _ (List.mem_of_getElem? (i := 0) rfl), inr27 _ (List.mem_of_getElem? (i := 1) rfl)⟩⟩, List.forall_mem_cons.mpr ⟨⟨_, rfl, inr27 _ (List.mem_of_getElem? (i := 13) rfl), inr3 _ (List.mem_of_getElem? (i := 1) rfl), ⟨inr27 _ (List.mem_of_getElem? (i := 14) rfl), inr27 _ (List.mem_of_getElem? (i := 15) rfl)⟩⟩, List.forall_mem_cons.mpr ⟨⟨_, rfl, inr27 _ (List.mem_of_getElem? (i := 18) rfl), inr1 _ (List.mem_of_getElem? (i := 19) rfl), ⟨inr27 _ (List.mem_of_getElem? (i := 19) rfl), inr27 _ (List.mem_of_getElem? (i := 20) rfl)⟩⟩, List.forall_mem_cons.mpr ⟨⟨_, rfl, inr28 _ (List.mem_of_getElem? (i := 8) rfl), inr3 _ (List.mem_of_getElem? (i := 1) rfl), ⟨inr28 _ (List.mem_of_getElem? (i := 4) rfl), inr28 _ (List.mem_of_getElem? (i := 5) rfl)⟩⟩, fun _ h => nomatch h⟩⟩⟩⟩
set_option maxRecDepth 100000 in
theorem mt11_14_b : ∀ e ∈ mt11_14, okCB e := by unfold okCB; decide +kernel
theorem mt11_14_ok : ∀ e ∈ mt11_14, okC e := fun e h => by
  obtain ⟨q, h1, h2, h3, h4⟩ := mt11_14_a e h
  have b := mt11_14_b e h
  unfold okCB at b
  rw [h1] at b
  exact ⟨q, h1, h2, h3, Option.some.inj b, h4⟩
def mt11_15 : List (Nat × Nat × Nat × Nat × Nat) := [(11, 241, 0, 105, 0), (11, 244, 0, 107, 1), (11, 247, 0, 106, 0), (11, 250, 0, 108, 1), (11, 253, 0, 135, 1)]
set_option maxRecDepth 100000 in
theorem mt11_15_a : ∀ e ∈ mt11_15, okCA e := List.forall_mem_cons.mpr ⟨⟨_, rfl, inr29 _ (List.mem_of_getElem? (i := 13) rfl), inr1 _ (List.mem_of_getElem? (i := 19) rfl), ⟨inr29 _ (List.mem_of_getElem? (i := 14) rfl), inr29 _ (List.mem_of_getElem? (i := 15) rfl)⟩⟩, List.forall_mem_cons.mpr ⟨⟨_, rfl, inr29 _ (List.mem_of_getElem? (i := 17) rfl), inr1 _ (List.mem_of_getElem? (i := 19) rfl), ⟨inr29 _ (List.mem_of_getElem? (i := 18) rfl), inr29 _ (List.mem_of_getElem? (i := 19) rfl)⟩⟩, List.forall_mem_cons.mpr ⟨⟨_, rfl, inr30 _ (List.mem_of_getElem? (i := 21) rfl), inr1 _ (List.mem_of_getElem? (i := 19) rfl), ⟨inr30 _ (List.mem_of_getElem? (i := 22) rfl), inr30 _ (List.mem_of_getElem? (i := 23) rfl)⟩⟩, List.forall_mem_cons.mpr ⟨⟨_, rfl, inr31 _ (List.mem_of_getElem? (i := 1) rfl), inr1 _ (List.mem_of_getElem? (i := 19) rfl), ⟨inr31 _ (List.mem_of_getElem? (i := 2) rfl), inr31 _ (List.mem_of_getElem? (i := 3) rfl)⟩⟩, List.forall_mem_cons.mpr ⟨⟨_, rfl, inr31 _ (List.mem_of_getElem? (i := 16) rfl), inr1 _ (List.mem_of_getElem? (i := 2) rfl), ⟨inr31 _ (List.mem_of_getElem? (i := 17) rfl), inr31 _ (List.mem_of_getElem? (i := 18) rfl)⟩⟩, fun _ h => nomatch h⟩⟩⟩⟩⟩
set_option maxRecDepth 100000 in
theorem mt11_15_b : ∀ e ∈ mt11_15, okCB e := by unfold okCB; decide +kernel
theorem mt11_15_ok : ∀ e ∈ mt11_15, okC e := fun e h => by
  obtain ⟨q, h1, h2, h3, h4⟩ := mt11_15_a e h
  have b := mt11_15_b e h
  unfold okCB at b
  rw [h1] at b
  exact ⟨q, h1, h2, h3, Option.some.inj b, h4⟩
def mt11_16 : List (Nat × Nat × Nat × Nat × Nat) := [(11, 256, 0, 41, 2), (11, 260, 0, 44, 2), (11, 264, 0, 4, 2), (11, 268, 0, 13, 2)]
set_option maxRecDepth 100000 in
theorem mt11_16_a : ∀ e ∈ mt11_16, okCA e := List.forall_mem_cons.mpr ⟨⟨_, rfl, inr31 _ (List.mem_of_getElem? (i := 21) rfl), inr2 _ (List.mem_of_getElem? (i := 5) rfl), ⟨inr31 _ (List.mem_of_getElem? (i := 22) rfl), inr31 _ (List.mem_of_getElem? (i := 23) rfl)⟩⟩, List.forall_mem_cons.mpr ⟨⟨_, rfl, inr36 _ (List.mem_of_getElem? (i := 8) rfl), inr2 _ (List.mem_of_getElem? (i := 5) rfl), ⟨inr36 _ (List.mem_of_getElem? (i := 9) rfl), inr36 _ (List.mem_of_getElem? (i := 10) rfl)⟩⟩, List.forall_mem_cons.mpr ⟨⟨_, rfl, inr37 _ (List.mem_of_getElem? (i := 11) rfl), inr2 _ (List.mem_of_getElem? (i := 1) rfl), ⟨inr37 _ (List.mem_of_getElem? (i := 12) rfl), inr37 _ (List.mem_of_getElem? (i := 13) rfl)⟩⟩, List.forall_mem_cons.mpr ⟨⟨_, rfl, inr37 _ (List.mem_of_getElem? (i := 15) rfl), inr2 _ (List.mem_of_getElem? (i := 1) rfl), ⟨inr32 _ (List.mem_of_getElem? (i := 19) rfl), inr32 _ (List.mem_of_getElem? (i := 20) rfl)⟩⟩, fun _ h => nomatch h⟩⟩⟩⟩
set_option maxRecDepth 100000 in
theorem mt11_16_b : ∀ e ∈ mt11_16, okCB e := by unfold okCB; decide +kernel
theorem mt11_16_ok : ∀ e ∈ mt11_16, okC e := fun e h => by
  obtain ⟨q, h1, h2, h3, h4⟩ := mt11_16_a e h
  have b := mt11_16_b e h
  unfold okCB at b
  rw [h1] at b
  exact ⟨q, h1, h2, h3, Option.some.inj b, h4⟩
def mt11_17 : List (Nat × Nat × Nat × Nat × Nat) := [(11, 272, 0, 149, 3), (11, 276, 0, 83, 3), (11, 280, 0, 80, 4), (11, 284, 1, 152, 1)]
set_option maxRecDepth 100000 in
theorem mt11_17_a : ∀ e ∈ mt11_17, okCA e := List.forall_mem_cons.mpr ⟨⟨_, rfl, inr38 _ (List.mem_of_getElem? (i := 3) rfl), inr1 _ (List.mem_of_getElem? (i := 2) rfl), ⟨inr38 _ (List.mem_of_getElem? (i := 4) rfl), inr38 _ (List.mem_of_getElem? (i := 5) rfl)⟩⟩, List.forall_mem_cons.mpr ⟨⟨_, rfl, inr38 _ (List.mem_of_getElem? (i := 18) rfl), inr2 _ (List.mem_of_getElem? (i := 9) rfl), ⟨inr38 _ (List.mem_of_getElem? (i := 19) rfl), inr38 _ (List.mem_of_getElem? (i := 20) rfl)⟩⟩, List.forall_mem_cons.mpr ⟨⟨_, rfl, inr39 _ (List.mem_of_getElem? (i := 20) rfl), inr2 _ (List.mem_of_getElem? (i := 9) rfl), ⟨inr39 _ (List.mem_of_getElem? (i := 21) rfl), inr39 _ (List.mem_of_getElem? (i := 22) rfl)⟩⟩, List.forall_mem_cons.mpr ⟨⟨_, rfl, inr41 _ (List.mem_of_getElem? (i := 9) rfl), inr41 _ (List.mem_of_getElem? (i := 11) rfl), inr41 _ (List.mem_of_getElem? (i := 10) rfl)⟩, fun _ h => nomatch h⟩⟩⟩⟩
set_option maxRecDepth 100000 in
theorem mt11_17_b : ∀ e ∈ mt11_17, okCB e := by unfold okCB; decide +kernel
theorem mt11_17_ok : ∀ e ∈ mt11_17, okC e := fun e h => by
  obtain ⟨q, h1, h2, h3, h4⟩ := mt11_17_a e h
  have b := mt11_17_b e h
  unfold okCB at b
  rw [h1] at b
  exact ⟨q, h1, h2, h3, Option.some.inj b, h4⟩
def mt11_18 : List (Nat × Nat × Nat × Nat × Nat) := [(11, 292, 0, 92, 2), (11, 302, 0, 9, 0), (11, 289, 0, 26, 2)]
set_option maxRecDepth 100000 in
theorem mt11_18_a : ∀ e ∈ mt11_18, okCA e := List.forall_mem_cons.mpr ⟨⟨_, rfl, inr43 _ (List.mem_of_getElem? (i := 14) rfl), inr2 _ (List.mem_of_getElem? (i := 13) rfl), ⟨inr43 _ (List.mem_of_getElem? (i := 15) rfl), inr43 _ (List.mem_of_getElem? (i := 16) rfl)⟩⟩, List.forall_mem_cons.mpr ⟨⟨_, rfl, inr46 _ (List.mem_of_getElem? (i := 23) rfl), inr2 _ (List.mem_of_getElem? (i := 1) rfl), ⟨inr44 _ (List.mem_of_getElem? (i := 7) rfl), inr44 _ (List.mem_of_getElem? (i := 8) rfl)⟩⟩, List.forall_mem_cons.mpr ⟨⟨_, rfl, inr52 _ (List.mem_of_getElem? (i := 1) rfl), inr2 _ (List.mem_of_getElem? (i := 1) rfl), ⟨inr52 _ (List.mem_of_getElem? (i := 2) rfl), inr52 _ (List.mem_of_getElem? (i := 3) rfl)⟩⟩, fun _ h => nomatch h⟩⟩⟩
set_option maxRecDepth 100000 in
theorem mt11_18_b : ∀ e ∈ mt11_18, okCB e := by unfold okCB; decide +kernel
theorem mt11_18_ok : ∀ e ∈ mt11_18, okC e := fun e h => by
  obtain ⟨q, h1, h2, h3, h4⟩ := mt11_18_a e h
  have b := mt11_18_b e h
  unfold okCB at b
  rw [h1] at b
  exact ⟨q, h1, h2, h3, Option.some.inj b, h4⟩
def mt11_19 : List (Nat × Nat × Nat × Nat × Nat) := [(11, 317, 0, 30, 0), (11, 305, 0, 56, 1), (11, 311, 0, 47, 1), (11, 314, 0, 48, 1)]
set_option maxRecDepth 100000 in
theorem mt11_19_a : ∀ e ∈ mt11_19, okCA e := List.forall_mem_cons.mpr ⟨⟨_, rfl, inr50 _ (List.mem_of_getElem? (i := 17) rfl), inr3 _ (List.mem_of_getElem? (i := 1) rfl), ⟨inr43 _ (List.mem_of_getElem? (i := 22) rfl), inr43 _ (List.mem_of_getElem? (i := 23) rfl)⟩⟩, List.forall_mem_cons.mpr ⟨⟨_, rfl, inr55 _ (List.mem_of_getElem? (i := 3) rfl), inr2 _ (List.mem_of_getElem? (i := 17) rfl), ⟨inr55 _ (List.mem_of_getElem? (i := 4) rfl), inr55 _ (List.mem_of_getElem? (i := 5) rfl)⟩⟩, List.forall_mem_cons.mpr ⟨⟨_, rfl, inr57 _ (List.mem_of_getElem? (i := 0) rfl), inr2 _ (List.mem_of_getElem? (i := 17) rfl), ⟨inr56 _ (List.mem_of_getElem? (i := 21) rfl), inr56 _ (List.mem_of_getElem? (i := 22) rfl)⟩⟩, List.forall_mem_cons.mpr ⟨⟨_, rfl, inr57 _ (List.mem_of_getElem? (i := 1) rfl), inr2 _ (List.mem_of_getElem? (i := 17) rfl), ⟨inr57 _ (List.mem_of_getElem? (i := 2) rfl), inr57 _ (List.mem_of_getElem? (i := 3) rfl)⟩⟩, fun _ h => nomatch h⟩⟩⟩⟩
set_option maxRecDepth 100000 in
theorem mt11_19_b : ∀ e ∈ mt11_19, okCB e := by unfold okCB; decide +kernel
theorem mt11_19_ok : ∀ e ∈ mt11_19, okC e := fun e h => by
  obtain ⟨q, h1, h2, h3, h4⟩ := mt11_19_a e h
  have b := mt11_19_b e h
  unfold okCB at b
  rw [h1] at b
  exact ⟨q, h1, h2, h3, Option.some.inj b, h4⟩
def mt11_20 : List (Nat × Nat × Nat × Nat × Nat) := [(11, 325, 0, 28, 3), (11, 329, 0, 21, 4), (11, 321, 0, 32, 3), (11, 333, 0, 22, 4)]
set_option maxRecDepth 100000 in
theorem mt11_20_a : ∀ e ∈ mt11_20, okCA e := List.forall_mem_cons.mpr ⟨⟨_, rfl, inr49 _ (List.mem_of_getElem? (i := 5) rfl), inr2 _ (List.mem_of_getElem? (i := 1) rfl), ⟨inr49 _ (List.mem_of_getElem? (i := 6) rfl), inr49 _ (List.mem_of_getElem? (i := 7) rfl)⟩⟩, List.forall_mem_cons.mpr ⟨⟨_, rfl, inr50 _ (List.mem_of_getElem? (i := 16) rfl), inr2 _ (List.mem_of_getElem? (i := 1) rfl), ⟨inr33 _ (List.mem_of_getElem? (i := 19) rfl), inr33 _ (List.mem_of_getElem? (i := 20) rfl)⟩⟩, List.forall_mem_cons.mpr ⟨⟨_, rfl, inr50 _ (List.mem_of_getElem? (i := 18) rfl), inr2 _ (List.mem_of_getElem? (i := 1) rfl), ⟨inr50 _ (List.mem_of_getElem? (i := 19) rfl), inr50 _ (List.mem_of_getElem? (i := 20) rfl)⟩⟩, List.forall_mem_cons.mpr ⟨⟨_, rfl, inr59 _ (List.mem_of_getElem? (i := 8) rfl), inr2 _ (List.mem_of_getElem? (i := 1) rfl), ⟨inr33 _ (List.mem_of_getElem? (i := 15) rfl), inr33 _ (List.mem_of_getElem? (i := 16) rfl)⟩⟩, fun _ h => nomatch h⟩⟩⟩⟩
set_option maxRecDepth 100000 in
theorem mt11_20_b : ∀ e ∈ mt11_20, okCB e := by unfold okCB; decide +kernel
theorem mt11_20_ok : ∀ e ∈ mt11_20, okC e := fun e h => by
  obtain ⟨q, h1, h2, h3, h4⟩ := mt11_20_a e h
  have b := mt11_20_b e h
  unfold okCB at b
  rw [h1] at b
  exact ⟨q, h1, h2, h3, Option.some.inj b, h4⟩
def mt11_21 : List (Nat × Nat × Nat × Nat × Nat) := [(11, 337, 1, 167, 2), (11, 344, 0, 116, 3), (11, 348, 0, 118, 1)]
set_option maxRecDepth 100000 in
theorem mt11_21_a : ∀ e ∈ mt11_21, okCA e := List.forall_mem_cons.mpr ⟨⟨_, rfl, inr59 _ (List.mem_of_getElem? (i := 23) rfl), inr1 _ (List.mem_of_getElem? (i := 2) rfl), inr60 _ (List.mem_of_getElem? (i := 0) rfl)⟩, List.forall_mem_cons.mpr ⟨⟨_, rfl, inr60 _ (List.mem_of_getElem? (i := 2) rfl), inr2 _ (List.mem_of_getElem? (i := 21) rfl), ⟨inr60 _ (List.mem_of_getElem? (i := 3) rfl), inr60 _ (List.mem_of_getElem? (i := 4) rfl)⟩⟩, List.forall_mem_cons.mpr ⟨⟨_, rfl, inr61 _ (List.mem_of_getElem? (i := 7) rfl), inr2 _ (List.mem_of_getElem? (i := 21) rfl), ⟨inr61 _ (List.mem_of_getElem? (i := 8) rfl), inr61 _ (List.mem_of_getElem? (i := 9) rfl)⟩⟩, fun _ h => nomatch h⟩⟩⟩
set_option maxRecDepth 100000 in
theorem mt11_21_b : ∀ e ∈ mt11_21, okCB e := by unfold okCB; decide +kernel
theorem mt11_21_ok : ∀ e ∈ mt11_21, okC e := fun e h => by
  obtain ⟨q, h1, h2, h3, h4⟩ := mt11_21_a e h
  have b := mt11_21_b e h
  unfold okCB at b
  rw [h1] at b
  exact ⟨q, h1, h2, h3, Option.some.inj b, h4⟩
def mt11_22 : List (Nat × Nat × Nat × Nat × Nat) := [(11, 357, 1, 170, 1), (11, 352, 1, 169, 2), (11, 361, 0, 120, 3), (11, 365, 1, 121, 4)]
set_option maxRecDepth 100000 in
theorem mt11_22_a : ∀ e ∈ mt11_22, okCA e := List.forall_mem_cons.mpr ⟨⟨_, rfl, inr63 _ (List.mem_of_getElem? (i := 9) rfl), inr1 _ (List.mem_of_getElem? (i := 2) rfl), inr63 _ (List.mem_of_getElem? (i := 10) rfl)⟩, List.forall_mem_cons.mpr ⟨⟨_, rfl, inr63 _ (List.mem_of_getElem? (i := 12) rfl), inr13 _ (List.mem_of_getElem? (i := 6) rfl), inr63 _ (List.mem_of_getElem? (i := 13) rfl)⟩, List.forall_mem_cons.mpr ⟨⟨_, rfl, inr63 _ (List.mem_of_getElem? (i := 15) rfl), inr2 _ (List.mem_of_getElem? (i := 21) rfl), ⟨inr63 _ (List.mem_of_getElem? (i := 16) rfl), inr63 _ (List.mem_of_getElem? (i := 17) rfl)⟩⟩, List.forall_mem_cons.mpr ⟨⟨_, rfl, inr65 _ (List.mem_of_getElem? (i := 14) rfl), inr2 _ (List.mem_of_getElem? (i := 21) rfl), inr65 _ (List.mem_of_getElem? (i := 15) rfl)⟩, fun _ h => nomatch h⟩⟩⟩⟩
set_option maxRecDepth 100000 in
theorem mt11_22_b : ∀ e ∈ mt11_22, okCB e := by unfold okCB; decide +kernel
theorem mt11_22_ok : ∀ e ∈ mt11_22, okC e := fun e h => by
  obtain ⟨q, h1, h2, h3, h4⟩ := mt11_22_a e h
  have b := mt11_22_b e h
  unfold okCB at b
  rw [h1] at b
  exact ⟨q, h1, h2, h3, Option.some.inj b, h4⟩
def mt11_23 : List (Nat × Nat × Nat × Nat × Nat) := [(11, 369, 1, 124, 5), (11, 373, 0, 110, 1)]
set_option maxRecDepth 100000 in
theorem mt11_23_a : ∀ e ∈ mt11_23, okCA e := List.forall_mem_cons.mpr ⟨⟨_, rfl, inr65 _ (List.mem_of_getElem? (i := 21) rfl), inr2 _ (List.mem_of_getElem? (i := 21) rfl), inr65 _ (List.mem_of_getElem? (i := 22) rfl)⟩, List.forall_mem_cons.mpr ⟨⟨_, rfl, inr67 _ (List.mem_of_getElem? (i := 19) rfl), inr1 _ (List.mem_of_getElem? (i := 19) rfl), ⟨inr67 _ (List.mem_of_getElem? (i := 20) rfl), inr67 _ (List.mem_of_getElem? (i := 21) rfl)⟩⟩, fun _ h => nomatch h⟩⟩
set_option maxRecDepth 100000 in
theorem mt11_23_b : ∀ e ∈ mt11_23, okCB e := by unfold okCB; decide +kernel
theorem mt11_23_ok : ∀ e ∈ mt11_23, okC e := fun e h => by
  obtain ⟨q, h1, h2, h3, h4⟩ := mt11_23_a e h
  have b := mt11_23_b e h
  unfold okCB at b
  rw [h1] at b
  exact ⟨q, h1, h2, h3, Option.some.inj b, h4⟩
def mt11_24 : List (Nat × Nat × Nat × Nat × Nat) := [(11, 385, 0, 101, 0)]
set_option maxRecDepth 100000 in
theorem mt11_24_a : ∀ e ∈ mt11_24, okCA e := List.forall_mem_cons.mpr ⟨⟨_, rfl, inr69 _ (List.mem_of_getElem? (i := 4) rfl), inr1 _ (List.mem_of_getElem? (i := 19) rfl), ⟨inr69 _ (List.mem_of_getElem? (i := 5) rfl), inr69 _ (List.mem_of_getElem? (i := 6) rfl)⟩⟩, fun _ h => nomatch h⟩
set_option maxRecDepth 100000 in
theorem mt11_24_b : ∀ e ∈ mt11_24, okCB e := by unfold okCB; decide +kernel
theorem mt11_24_ok : ∀ e ∈ mt11_24, okC e := fun e h => by
  obtain ⟨q, h1, h2, h3, h4⟩ := mt11_24_a e h
  have b := mt11_24_b e h
  unfold okCB at b
  rw [h1] at b
  exact ⟨q, h1, h2, h3, Option.some.inj b, h4⟩
def mt11L : List (List (Nat × Nat × Nat × Nat × Nat)) := [[], mt11_1, mt11_2, mt11_3, mt11_4, mt11_5, [], mt11_7, mt11_8, mt11_9, mt11_10, mt11_11, mt11_12, mt11_13, mt11_14, mt11_15, mt11_16, mt11_17, mt11_18, mt11_19, mt11_20, mt11_21, mt11_22, mt11_23, mt11_24]
theorem mt11L_ok : ∀ B ∈ mt11L, ∀ e ∈ B, okC e := List.forall_mem_cons.mpr ⟨(fun _ h => nomatch h), List.forall_mem_cons.mpr ⟨mt11_1_ok, List.forall_mem_cons.mpr ⟨mt11_2_ok, List.forall_mem_cons.mpr ⟨mt11_3_ok, List.forall_mem_cons.mpr ⟨mt11_4_ok, List.forall_mem_cons.mpr ⟨mt11_5_ok, List.forall_mem_cons.mpr ⟨(fun _ h => nomatch h), List.forall_mem_cons.mpr ⟨mt11_7_ok, List.forall_mem_cons.mpr ⟨mt11_8_ok, List.forall_mem_cons.mpr ⟨mt11_9_ok, List.forall_mem_cons.mpr ⟨mt11_10_ok, List.forall_mem_cons.mpr ⟨mt11_11_ok, List.forall_mem_cons.mpr ⟨mt11_12_ok, List.forall_mem_cons.mpr ⟨mt11_13_ok, List.forall_mem_cons.mpr ⟨mt11_14_ok, List.forall_mem_cons.mpr ⟨mt11_15_ok, List.forall_mem_cons.mpr ⟨mt11_16_ok, List.forall_mem_cons.mpr ⟨mt11_17_ok, List.forall_mem_cons.mpr ⟨mt11_18_ok, List.forall_mem_cons.mpr ⟨mt11_19_ok, List.forall_mem_cons.mpr ⟨mt11_20_ok, List.forall_mem_cons.mpr ⟨mt11_21_ok, List.forall_mem_cons.mpr ⟨mt11_22_ok, List.forall_mem_cons.mpr ⟨mt11_23_ok, List.forall_mem_cons.mpr ⟨mt11_24_ok, fun _ h => nomatch h⟩⟩⟩⟩⟩⟩⟩⟩⟩⟩⟩⟩⟩⟩⟩⟩⟩⟩⟩⟩⟩⟩⟩⟩⟩
def mt12_4 : List (Nat × Nat × Nat × Nat × Nat) := [(12, 68, 1, 179, 3), (12, 72, 1, 187, 1), (12, 76, 0, 183, 0)]
set_option maxRecDepth 100000 in
theorem mt12_4_a : ∀ e ∈ mt12_4, okCA e := List.forall_mem_cons.mpr ⟨⟨_, rfl, inr12 _ (List.mem_of_getElem? (i := 14) rfl), inr1 _ (List.mem_of_getElem? (i := 5) rfl), inr12 _ (List.mem_of_getElem? (i := 15) rfl)⟩, List.forall_mem_cons.mpr ⟨⟨_, rfl, inr12 _ (List.mem_of_getElem? (i := 17) rfl), inr1 _ (List.mem_of_getElem? (i := 5) rfl), inr12 _ (List.mem_of_getElem? (i := 18) rfl)⟩, List.forall_mem_cons.mpr ⟨⟨_, rfl, inr13 _ (List.mem_of_getElem? (i := 0) rfl), inr1 _ (List.mem_of_getElem? (i := 5) rfl), ⟨inr13 _ (List.mem_of_getElem? (i := 1) rfl), inr13 _ (List.mem_of_getElem? (i := 2) rfl)⟩⟩, fun _ h => nomatch h⟩⟩⟩
set_option maxRecDepth 100000 in
theorem mt12_4_b : ∀ e ∈ mt12_4, okCB e := by unfold okCB; decide +kernel
theorem mt12_4_ok : ∀ e ∈ mt12_4, okC e := fun e h => by
  obtain ⟨q, h1, h2, h3, h4⟩ := mt12_4_a e h
  have b := mt12_4_b e h
  unfold okCB at b
  rw [h1] at b
  exact ⟨q, h1, h2, h3, Option.some.inj b, h4⟩
def mt12_5 : List (Nat × Nat × Nat × Nat × Nat) := [(12, 80, 1, 191, 2), (12, 86, 0, 193, 2), (12, 93, 0, 188, 1), (12, 90, 0, 196, 2)]
set_option maxRecDepth 100000 in
theorem mt12_5_a : ∀ e ∈ mt12_5, okCA e := List.forall_mem_cons.mpr ⟨⟨_, rfl, inr13 _ (List.mem_of_getElem? (i := 4) rfl), inr13 _ (List.mem_of_getElem? (i := 6) rfl), inr13 _ (List.mem_of_getElem? (i := 5) rfl)⟩, List.forall_mem_cons.mpr ⟨⟨_, rfl, inr15 _ (List.mem_of_getElem? (i := 9) rfl), inr1 _ (List.mem_of_getElem? (i := 5) rfl), ⟨inr15 _ (List.mem_of_getElem? (i := 10) rfl), inr15 _ (List.mem_of_getElem? (i := 11) rfl)⟩⟩, List.forall_mem_cons.mpr ⟨⟨_, rfl, inr23 _ (List.mem_of_getElem? (i := 7) rfl), inr1 _ (List.mem_of_getElem? (i := 5) rfl), ⟨inr23 _ (List.mem_of_getElem? (i := 8) rfl), inr23 _ (List.mem_of_getElem? (i := 9) rfl)⟩⟩, List.forall_mem_cons.mpr ⟨⟨_, rfl, inr25 _ (List.mem_of_getElem? (i := 0) rfl), inr1 _ (List.mem_of_getElem? (i := 5) rfl), ⟨inr25 _ (List.mem_of_getElem? (i := 1) rfl), inr25 _ (List.mem_of_getElem? (i := 2) rfl)⟩⟩, fun _ h => nomatch h⟩⟩⟩⟩
set_option maxRecDepth 100000 in
theorem mt12_5_b : ∀ e ∈ mt12_5, okCB e := by unfold okCB; decide +kernel
theorem mt12_5_ok : ∀ e ∈ mt12_5, okC e := fun e h => by
  obtain ⟨q, h1, h2, h3, h4⟩ := mt12_5_a e h
  have b := mt12_5_b e h
  unfold okCB at b
  rw [h1] at b
  exact ⟨q, h1, h2, h3, Option.some.inj b, h4⟩
def mt12_6 : List (Nat × Nat × Nat × Nat × Nat) := [(12, 96, 0, 189, 2), (12, 99, 0, 199, 3), (12, 103, 0, 198, 2), (12, 110, 0, 194, 2), (12, 106, 0, 202, 2)]
set_option maxRecDepth 100000 in
theorem mt12_6_a : ∀ e ∈ mt12_6, okCA e := List.forall_mem_cons.mpr ⟨⟨_, rfl, inr23 _ (List.mem_of_getElem? (i := 11) rfl), inr1 _ (List.mem_of_getElem? (i := 5) rfl), ⟨inr23 _ (List.mem_of_getElem? (i := 12) rfl), inr23 _ (List.mem_of_getElem? (i := 13) rfl)⟩⟩, List.forall_mem_cons.mpr ⟨⟨_, rfl, inr24 _ (List.mem_of_getElem? (i := 12) rfl), inr1 _ (List.mem_of_getElem? (i := 5) rfl), ⟨inr24 _ (List.mem_of_getElem? (i := 13) rfl), inr24 _ (List.mem_of_getElem? (i := 14) rfl)⟩⟩, List.forall_mem_cons.mpr ⟨⟨_, rfl, inr24 _ (List.mem_of_getElem? (i := 20) rfl), inr1 _ (List.mem_of_getElem? (i := 5) rfl), ⟨inr24 _ (List.mem_of_getElem? (i := 21) rfl), inr24 _ (List.mem_of_getElem? (i := 22) rfl)⟩⟩, List.forall_mem_cons.mpr ⟨⟨_, rfl, inr25 _ (List.mem_of_getElem? (i := 4) rfl), inr1 _ (List.mem_of_getElem? (i := 5) rfl), ⟨inr25 _ (List.mem_of_getElem? (i := 5) rfl), inr25 _ (List.mem_of_getElem? (i := 6) rfl)⟩⟩, List.forall_mem_cons.mpr ⟨⟨_, rfl, inr28 _ (List.mem_of_getElem? (i := 21) rfl), inr1 _ (List.mem_of_getElem? (i := 5) rfl), ⟨inr28 _ (List.mem_of_getElem? (i := 22) rfl), inr28 _ (List.mem_of_getElem? (i := 23) rfl)⟩⟩, fun _ h => nomatch h⟩⟩⟩⟩⟩
set_option maxRecDepth 100000 in
theorem mt12_6_b : ∀ e ∈ mt12_6, okCB e := by unfold okCB; decide +kernel
theorem mt12_6_ok : ∀ e ∈ mt12_6, okC e := fun e h => by
  obtain ⟨q, h1, h2, h3, h4⟩ := mt12_6_a e h
  have b := mt12_6_b e h
  unfold okCB at b
  rw [h1] at b
  exact ⟨q, h1, h2, h3, Option.some.inj b, h4⟩
def mt12_7 : List (Nat × Nat × Nat × Nat × Nat) := [(12, 113, 0, 192, 1), (12, 125, 0, 205, 3), (12, 121, 0, 207, 4), (12, 117, 0, 206, 4)]
set_option maxRecDepth 100000 in
theorem mt12_7_a : ∀ e ∈ mt12_7, okCA e := List.forall_mem_cons.mpr ⟨⟨_, rfl, inr12 _ (List.mem_of_getElem? (i := 20) rfl), inr1 _ (List.mem_of_getElem? (i := 5) rfl), ⟨inr12 _ (List.mem_of_getElem? (i := 21) rfl), inr12 _ (List.mem_of_getElem? (i := 22) rfl)⟩⟩, List.forall_mem_cons.mpr ⟨⟨_, rfl, inr35 _ (List.mem_of_getElem? (i := 6) rfl), inr1 _ (List.mem_of_getElem? (i := 5) rfl), ⟨inr35 _ (List.mem_of_getElem? (i := 7) rfl), inr35 _ (List.mem_of_getElem? (i := 8) rfl)⟩⟩, List.forall_mem_cons.mpr ⟨⟨_, rfl, inr35 _ (List.mem_of_getElem? (i := 14) rfl), inr1 _ (List.mem_of_getElem? (i := 5) rfl), ⟨inr35 _ (List.mem_of_getElem? (i := 15) rfl), inr35 _ (List.mem_of_getElem? (i := 16) rfl)⟩⟩, List.forall_mem_cons.mpr ⟨⟨_, rfl, inr35 _ (List.mem_of_getElem? (i := 18) rfl), inr1 _ (List.mem_of_getElem? (i := 5) rfl), ⟨inr35 _ (List.mem_of_getElem? (i := 19) rfl), inr35 _ (List.mem_of_getElem? (i := 20) rfl)⟩⟩, fun _ h => nomatch h⟩⟩⟩⟩
set_option maxRecDepth 100000 in
theorem mt12_7_b : ∀ e ∈ mt12_7, okCB e := by unfold okCB; decide +kernel
theorem mt12_7_ok : ∀ e ∈ mt12_7, okC e := fun e h => by
  obtain ⟨q, h1, h2, h3, h4⟩ := mt12_7_a e h
  have b := mt12_7_b e h
  unfold okCB at b
  rw [h1] at b
  exact ⟨q, h1, h2, h3, Option.some.inj b, h4⟩
def mt12_8 : List (Nat × Nat × Nat × Nat × Nat) := [(12, 143, 0, 190, 2), (12, 128, 1, 208, 2)]
set_option maxRecDepth 100000 in
theorem mt12_8_a : ∀ e ∈ mt12_8, okCA e := List.forall_mem_cons.mpr ⟨⟨_, rfl, inr26 _ (List.mem_of_getElem? (i := 12) rfl), inr1 _ (List.mem_of_getElem? (i := 5) rfl), ⟨inr26 _ (List.mem_of_getElem? (i := 13) rfl), inr26 _ (List.mem_of_getElem? (i := 14) rfl)⟩⟩, List.forall_mem_cons.mpr ⟨⟨_, rfl, inr35 _ (List.mem_of_getElem? (i := 22) rfl), inr1 _ (List.mem_of_getElem? (i := 5) rfl), inr35 _ (List.mem_of_getElem? (i := 23) rfl)⟩, fun _ h => nomatch h⟩⟩
set_option maxRecDepth 100000 in
theorem mt12_8_b : ∀ e ∈ mt12_8, okCB e := by unfold okCB; decide +kernel
theorem mt12_8_ok : ∀ e ∈ mt12_8, okC e := fun e h => by
  obtain ⟨q, h1, h2, h3, h4⟩ := mt12_8_a e h
  have b := mt12_8_b e h
  unfold okCB at b
  rw [h1] at b
  exact ⟨q, h1, h2, h3, Option.some.inj b, h4⟩
def mt12_9 : List (Nat × Nat × Nat × Nat × Nat) := [(12, 146, 0, 210, 4), (12, 149, 0, 195, 2), (12, 152, 0, 213, 3)]
set_option maxRecDepth 100000 in
theorem mt12_9_a : ∀ e ∈ mt12_9, okCA e := List.forall_mem_cons.mpr ⟨⟨_, rfl, inr14 _ (List.mem_of_getElem? (i := 21) rfl), inr1 _ (List.mem_of_getElem? (i := 5) rfl), ⟨inr14 _ (List.mem_of_getElem? (i := 22) rfl), inr14 _ (List.mem_of_getElem? (i := 23) rfl)⟩⟩, List.forall_mem_cons.mpr ⟨⟨_, rfl, inr15 _ (List.mem_of_getElem? (i := 13) rfl), inr1 _ (List.mem_of_getElem? (i := 5) rfl), ⟨inr15 _ (List.mem_of_getElem? (i := 14) rfl), inr15 _ (List.mem_of_getElem? (i := 15) rfl)⟩⟩, List.forall_mem_cons.mpr ⟨⟨_, rfl, inr29 _ (List.mem_of_getElem? (i := 1) rfl), inr1 _ (List.mem_of_getElem? (i := 5) rfl), ⟨inr29 _ (List.mem_of_getElem? (i := 2) rfl), inr29 _ (List.mem_of_getElem? (i := 3) rfl)⟩⟩, fun _ h => nomatch h⟩⟩⟩
set_option maxRecDepth 100000 in
theorem mt12_9_b : ∀ e ∈ mt12_9, okCB e := by unfold okCB; decide +kernel
theorem mt12_9_ok : ∀ e ∈ mt12_9, okC e := fun e h => by
  obtain ⟨q, h1, h2, h3, h4⟩ := mt12_9_a e h
  have b := mt12_9_b e h
  unfold okCB at b
  rw [h1] at b
  exact ⟨q, h1, h2, h3, Option.some.inj b, h4⟩
def mt12_10 : List (Nat × Nat × Nat × Nat × Nat) := [(12, 171, 0, 219, 0), (12, 164, 0, 218, 2)]
set_option maxRecDepth 100000 in
theorem mt12_10_a : ∀ e ∈ mt12_10, okCA e := List.forall_mem_cons.mpr ⟨⟨_, rfl, inr20 _ (List.mem_of_getElem? (i := 7) rfl), inr1 _ (List.mem_of_getElem? (i := 5) rfl), ⟨inr20 _ (List.mem_of_getElem? (i := 8) rfl), inr20 _ (List.mem_of_getElem? (i := 9) rfl)⟩⟩, List.forall_mem_cons.mpr ⟨⟨_, rfl, inr20 _ (List.mem_of_getElem? (i := 11) rfl), inr1 _ (List.mem_of_getElem? (i := 5) rfl), ⟨inr20 _ (List.mem_of_getElem? (i := 12) rfl), inr20 _ (List.mem_of_getElem? (i := 13) rfl)⟩⟩, fun _ h => nomatch h⟩⟩
set_option maxRecDepth 100000 in
theorem mt12_10_b : ∀ e ∈ mt12_10, okCB e := by unfold okCB; decide +kernel
theorem mt12_10_ok : ∀ e ∈ mt12_10, okC e := fun e h => by
  obtain ⟨q, h1, h2, h3, h4⟩ := mt12_10_a e h
  have b := mt12_10_b e h
  unfold okCB at b
  rw [h1] at b
  exact ⟨q, h1, h2, h3, Option.some.inj b, h4⟩
def mt12_11 : List (Nat × Nat × Nat × Nat × Nat) := [(12, 187, 0, 228, 0), (12, 183, 0, 225, 0), (12, 190, 0, 220, 1)]
set_option maxRecDepth 100000 in
theorem mt12_11_a : ∀ e ∈ mt12_11, okCA e := List.forall_mem_cons.mpr ⟨⟨_, rfl, inr19 _ (List.mem_of_getElem? (i := 20) rfl), inr1 _ (List.mem_of_getElem? (i := 5) rfl), ⟨inr19 _ (List.mem_of_getElem? (i := 21) rfl), inr19 _ (List.mem_of_getElem? (i := 22) rfl)⟩⟩, List.forall_mem_cons.mpr ⟨⟨_, rfl, inr20 _ (List.mem_of_getElem? (i := 20) rfl), inr1 _ (List.mem_of_getElem? (i := 5) rfl), ⟨inr20 _ (List.mem_of_getElem? (i := 21) rfl), inr20 _ (List.mem_of_getElem? (i := 22) rfl)⟩⟩, List.forall_mem_cons.mpr ⟨⟨_, rfl, inr21 _ (List.mem_of_getElem? (i := 0) rfl), inr1 _ (List.mem_of_getElem? (i := 5) rfl), ⟨inr21 _ (List.mem_of_getElem? (i := 1) rfl), inr21 _ (List.mem_of_getElem? (i := 2) rfl)⟩⟩, fun _ h => nomatch h⟩⟩⟩
set_option maxRecDepth 100000 in
theorem mt12_11_b : ∀ e ∈ mt12_11, okCB e := by unfold okCB; decide +kernel
theorem mt12_11_ok : ∀ e ∈ mt12_11, okC e := fun e h => by
  obtain ⟨q, h1, h2, h3, h4⟩ := mt12_11_a e h
  have b := mt12_11_b e h
  unfold okCB at b
  rw [h1] at b
  exact ⟨q, h1, h2, h3, Option.some.inj b, h4⟩
def mt12_12 : List (Nat × Nat × Nat × Nat × Nat) := [(12, 206, 0, 221, 1), (12, 197, 0, 224, 2), (12, 194, 0, 222, 1), (12, 200, 0, 229, 0), (12, 203, 0, 226, 0)]
set_option maxRecDepth 100000 in
theorem mt12_12_a : ∀ e ∈ mt12_12, okCA e := List.forall_mem_cons.mpr ⟨⟨_, rfl, inr20 _ (List.mem_of_getElem? (i := 3) rfl), inr1 _ (List.mem_of_getElem? (i := 5) rfl), ⟨inr20 _ (List.mem_of_getElem? (i := 4) rfl), inr20 _ (List.mem_of_getElem? (i := 5) rfl)⟩⟩, List.forall_mem_cons.mpr ⟨⟨_, rfl, inr20 _ (List.mem_of_getElem? (i := 15) rfl), inr1 _ (List.mem_of_getElem? (i := 5) rfl), ⟨inr20 _ (List.mem_of_getElem? (i := 16) rfl), inr20 _ (List.mem_of_getElem? (i := 17) rfl)⟩⟩, List.forall_mem_cons.mpr ⟨⟨_, rfl, inr21 _ (List.mem_of_getElem? (i := 4) rfl), inr1 _ (List.mem_of_getElem? (i := 5) rfl), ⟨inr21 _ (List.mem_of_getElem? (i := 5) rfl), inr21 _ (List.mem_of_getElem? (i := 6) rfl)⟩⟩, List.forall_mem_cons.mpr ⟨⟨_, rfl, inr21 _ (List.mem_of_getElem? (i := 9) rfl), inr1 _ (List.mem_of_getElem? (i := 5) rfl), ⟨inr21 _ (List.mem_of_getElem? (i := 10) rfl), inr21 _ (List.mem_of_getElem? (i := 11) rfl)⟩⟩, List.forall_mem_cons.mpr ⟨⟨_, rfl, inr21 _ (List.mem_of_getElem? (i := 13) rfl), inr1 _ (List.mem_of_getElem? (i := 5) rfl), ⟨inr21 _ (List.mem_of_getElem? (i := 14) rfl), inr21 _ (List.mem_of_getElem? (i := 15) rfl)⟩⟩, fun _ h => nomatch h⟩⟩⟩⟩⟩
set_option maxRecDepth 100000 in
theorem mt12_12_b : ∀ e ∈ mt12_12, okCB e := by unfold okCB; decide +kernel
theorem mt12_12_ok : ∀ e ∈ mt12_12, okC e := fun e h => by
  obtain ⟨q, h1, h2, h3, h4⟩ := mt12_12_a e h
  have b := mt12_12_b e h
  unfold okCB at b
  rw [h1] at b
  exact ⟨q, h1, h2, h3, Option.some.inj b, h4⟩
def mt12_13 : List (Nat × Nat × Nat × Nat × Nat) := [(12, 215, 0, 178, 2), (12, 212, 0, 230, 0), (12, 219, 0, 212, 0), (12, 222, 0, 234, 0), (12, 209, 0, 227, 0)]
set_option maxRecDepth 100000 in
theorem mt12_13_a : ∀ e ∈ mt12_13, okCA e := List.forall_mem_cons.mpr ⟨⟨_, rfl, inr9 _ (List.mem_of_getElem? (i := 19) rfl), inr1 _ (List.mem_of_getElem? (i := 5) rfl), ⟨inr9 _ (List.mem_of_getElem? (i := 20) rfl), inr9 _ (List.mem_of_getElem? (i := 21) rfl)⟩⟩, List.forall_mem_cons.mpr ⟨⟨_, rfl, inr12 _ (List.mem_of_getElem? (i := 9) rfl), inr1 _ (List.mem_of_getElem? (i := 5) rfl), ⟨inr12 _ (List.mem_of_getElem? (i := 10) rfl), inr12 _ (List.mem_of_getElem? (i := 11) rfl)⟩⟩, List.forall_mem_cons.mpr ⟨⟨_, rfl, inr15 _ (List.mem_of_getElem? (i := 5) rfl), inr1 _ (List.mem_of_getElem? (i := 5) rfl), ⟨inr15 _ (List.mem_of_getElem? (i := 6) rfl), inr15 _ (List.mem_of_getElem? (i := 7) rfl)⟩⟩, List.forall_mem_cons.mpr ⟨⟨_, rfl, inr15 _ (List.mem_of_getElem? (i := 17) rfl), inr1 _ (List.mem_of_getElem? (i := 5) rfl), ⟨inr15 _ (List.mem_of_getElem? (i := 18) rfl), inr15 _ (List.mem_of_getElem? (i := 19) rfl)⟩⟩, List.forall_mem_cons.mpr ⟨⟨_, rfl, inr20 _ (List.mem_of_getElem? (i := 0) rfl), inr1 _ (List.mem_of_getElem? (i := 5) rfl), ⟨inr20 _ (List.mem_of_getElem? (i := 1) rfl), inr20 _ (List.mem_of_getElem? (i := 2) rfl)⟩⟩, fun _ h => nomatch h⟩⟩⟩⟩⟩
set_option maxRecDepth 100000 in
theorem mt12_13_b : ∀ e ∈ mt12_13, okCB e := by unfold okCB; decide +kernel
theorem mt12_13_ok : ∀ e ∈ mt12_13, okC e := fun e h => by
  obtain ⟨q, h1, h2, h3, h4⟩ := mt12_13_a e h
  have b := mt12_13_b e h
  unfold okCB at b
  rw [h1] at b
  exact ⟨q, h1, h2, h3, Option.some.inj b, h4⟩
def mt12_14 : List (Nat × Nat × Nat × Nat × Nat) := [(12, 238, 0, 184, 1), (12, 225, 0, 185, 1), (12, 228, 0, 211, 1), (12, 235, 0, 237, 0), (12, 232, 0, 197, 1)]
set_option maxRecDepth 100000 in
theorem mt12_14_a : ∀ e ∈ mt12_14, okCA e := List.forall_mem_cons.mpr ⟨⟨_, rfl, inr23 _ (List.mem_of_getElem? (i := 3) rfl), inr1 _ (List.mem_of_getElem? (i := 5) rfl), ⟨inr23 _ (List.mem_of_getElem? (i := 4) rfl), inr23 _ (List.mem_of_getElem? (i := 5) rfl)⟩⟩, List.forall_mem_cons.mpr ⟨⟨_, rfl, inr26 _ (List.mem_of_getElem? (i := 4) rfl), inr1 _ (List.mem_of_getElem? (i := 5) rfl), ⟨inr26 _ (List.mem_of_getElem? (i := 5) rfl), inr26 _ (List.mem_of_getElem? (i := 6) rfl)⟩⟩, List.forall_mem_cons.mpr ⟨⟨_, rfl, inr26 _ (List.mem_of_getElem? (i := 8) rfl), inr1 _ (List.mem_of_getElem? (i := 5) rfl), ⟨inr26 _ (List.mem_of_getElem? (i := 9) rfl), inr26 _ (List.mem_of_getElem? (i := 10) rfl)⟩⟩, List.forall_mem_cons.mpr ⟨⟨_, rfl, inr30 _ (List.mem_of_getElem? (i := 9) rfl), inr1 _ (List.mem_of_getElem? (i := 5) rfl), ⟨inr30 _ (List.mem_of_getElem? (i := 10) rfl), inr30 _ (List.mem_of_getElem? (i := 11) rfl)⟩⟩, List.forall_mem_cons.mpr ⟨⟨_, rfl, inr30 _ (List.mem_of_getElem? (i := 13) rfl), inr1 _ (List.mem_of_getElem? (i := 5) rfl), ⟨inr30 _ (List.mem_of_getElem? (i := 14) rfl), inr30 _ (List.mem_of_getElem? (i := 15) rfl)⟩⟩, fun _ h => nomatch h⟩⟩⟩⟩⟩
set_option maxRecDepth 100000 in
theorem mt12_14_b : ∀ e ∈ mt12_14, okCB e := by unfold okCB; decide +kernel
theorem mt12_14_ok : ∀ e ∈ mt12_14, okC e := fun e h => by
  obtain ⟨q, h1, h2, h3, h4⟩ := mt12_14_a e h
  have b := mt12_14_b e h
  unfold okCB at b
  rw [h1] at b
  exact ⟨q, h1, h2, h3, Option.some.inj b, h4⟩
def mt12_15 : List (Nat × Nat × Nat × Nat × Nat) := [(12, 241, 0, 200, 2), (12, 244, 0, 215, 3), (12, 254, 0, 243, 1), (12, 248, 0, 214, 2), (12, 251, 0, 204, 2)]
set_option maxRecDepth 100000 in
theorem mt12_15_a : ∀ e ∈ mt12_15, okCA e := List.forall_mem_cons.mpr ⟨⟨_, rfl, inr24 _ (List.mem_of_getElem? (i := 8) rfl), inr1 _ (List.mem_of_getElem? (i := 5) rfl), ⟨inr24 _ (List.mem_of_getElem? (i := 9) rfl), inr24 _ (List.mem_of_getElem? (i := 10) rfl)⟩⟩, List.forall_mem_cons.mpr ⟨⟨_, rfl, inr24 _ (List.mem_of_getElem? (i := 16) rfl), inr1 _ (List.mem_of_getElem? (i := 5) rfl), ⟨inr24 _ (List.mem_of_getElem? (i := 17) rfl), inr24 _ (List.mem_of_getElem? (i := 18) rfl)⟩⟩, List.forall_mem_cons.mpr ⟨⟨_, rfl, inr28 _ (List.mem_of_getElem? (i := 13) rfl), inr1 _ (List.mem_of_getElem? (i := 5) rfl), ⟨inr28 _ (List.mem_of_getElem? (i := 14) rfl), inr28 _ (List.mem_of_getElem? (i := 15) rfl)⟩⟩, List.forall_mem_cons.mpr ⟨⟨_, rfl, inr28 _ (List.mem_of_getElem? (i := 17) rfl), inr1 _ (List.mem_of_getElem? (i := 5) rfl), ⟨inr28 _ (List.mem_of_getElem? (i := 18) rfl), inr28 _ (List.mem_of_getElem? (i := 19) rfl)⟩⟩, List.forall_mem_cons.mpr ⟨⟨_, rfl, inr29 _ (List.mem_of_getElem? (i := 5) rfl), inr1 _ (List.mem_of_getElem? (i := 5) rfl), ⟨inr29 _ (List.mem_of_getElem? (i := 6) rfl), inr29 _ (List.mem_of_getElem? (i := 7) rfl)⟩⟩, fun _ h => nomatch h⟩⟩⟩⟩⟩
set_option maxRecDepth 100000 in
theorem mt12_15_b : ∀ e ∈ mt12_15, okCB e := by unfold okCB; decide +kernel
theorem mt12_15_ok : ∀ e ∈ mt12_15, okC e := fun e h => by
  obtain ⟨q, h1, h2, h3, h4⟩ := mt12_15_a e h
  have b := mt12_15_b e h
  unfold okCB at b
  rw [h1] at b
  exact ⟨q, h1, h2, h3, Option.some.inj b, h4⟩
def mt12_16 : List (Nat × Nat × Nat × Nat × Nat) := [(12, 257, 0, 245, 2), (12, 261, 0, 250, 1), (12, 264, 0, 248, 2), (12, 267, 0, 201, 2), (12, 270, 0, 249, 2)]
set_option maxRecDepth 100000 in
theorem mt12_16_a : ∀ e ∈ mt12_16, okCA e := List.forall_mem_cons.mpr ⟨⟨_, rfl, inr30 _ (List.mem_of_getElem? (i := 5) rfl), inr1 _ (List.mem_of_getElem? (i := 5) rfl), ⟨inr30 _ (List.mem_of_getElem? (i := 6) rfl), inr30 _ (List.mem_of_getElem? (i := 7) rfl)⟩⟩, List.forall_mem_cons.mpr ⟨⟨_, rfl, inr34 _ (List.mem_of_getElem? (i := 10) rfl), inr1 _ (List.mem_of_getElem? (i := 5) rfl), ⟨inr34 _ (List.mem_of_getElem? (i := 11) rfl), inr34 _ (List.mem_of_getElem? (i := 12) rfl)⟩⟩, List.forall_mem_cons.mpr ⟨⟨_, rfl, inr34 _ (List.mem_of_getElem? (i := 14) rfl), inr1 _ (List.mem_of_getElem? (i := 5) rfl), ⟨inr34 _ (List.mem_of_getElem? (i := 15) rfl), inr34 _ (List.mem_of_getElem? (i := 16) rfl)⟩⟩, List.forall_mem_cons.mpr ⟨⟨_, rfl, inr34 _ (List.mem_of_getElem? (i := 18) rfl), inr1 _ (List.mem_of_getElem? (i := 5) rfl), ⟨inr34 _ (List.mem_of_getElem? (i := 19) rfl), inr34 _ (List.mem_of_getElem? (i := 20) rfl)⟩⟩, List.forall_mem_cons.mpr ⟨⟨_, rfl, inr34 _ (List.mem_of_getElem? (i := 22) rfl), inr1 _ (List.mem_of_getElem? (i := 5) rfl), ⟨inr34 _ (List.mem_of_getElem? (i := 23) rfl), inr35 _ (List.mem_of_getElem? (i := 0) rfl)⟩⟩, fun _ h => nomatch h⟩⟩⟩⟩⟩
set_option maxRecDepth 100000 in
theorem mt12_16_b : ∀ e ∈ mt12_16, okCB e := by unfold okCB; decide +kernel
theorem mt12_16_ok : ∀ e ∈ mt12_16, okC e := fun e h => by
  obtain ⟨q, h1, h2, h3, h4⟩ := mt12_16_a e h
  have b := mt12_16_b e h
  unfold okCB at b
  rw [h1] at b
  exact ⟨q, h1, h2, h3, Option.some.inj b, h4⟩
def mt12_17 : List (Nat × Nat × Nat × Nat × Nat) := [(12, 280, 0, 186, 1), (12, 283, 0, 252, 1), (12, 273, 0, 251, 4), (12, 277, 0, 209, 4), (12, 286, 0, 254, 2)]
set_option maxRecDepth 100000 in
theorem mt12_17_a : ∀ e ∈ mt12_17, okCA e := List.forall_mem_cons.mpr ⟨⟨_, rfl, inr34 _ (List.mem_of_getElem? (i := 2) rfl), inr1 _ (List.mem_of_getElem? (i := 5) rfl), ⟨inr34 _ (List.mem_of_getElem? (i := 3) rfl), inr34 _ (List.mem_of_getElem? (i := 4) rfl)⟩⟩, List.forall_mem_cons.mpr ⟨⟨_, rfl, inr34 _ (List.mem_of_getElem? (i := 6) rfl), inr1 _ (List.mem_of_getElem? (i := 5) rfl), ⟨inr34 _ (List.mem_of_getElem? (i := 7) rfl), inr34 _ (List.mem_of_getElem? (i := 8) rfl)⟩⟩, List.forall_mem_cons.mpr ⟨⟨_, rfl, inr35 _ (List.mem_of_getElem? (i := 2) rfl), inr1 _ (List.mem_of_getElem? (i := 5) rfl), ⟨inr35 _ (List.mem_of_getElem? (i := 3) rfl), inr35 _ (List.mem_of_getElem? (i := 4) rfl)⟩⟩, List.forall_mem_cons.mpr ⟨⟨_, rfl, inr35 _ (List.mem_of_getElem? (i := 10) rfl), inr1 _ (List.mem_of_getElem? (i := 5) rfl), ⟨inr35 _ (List.mem_of_getElem? (i := 11) rfl), inr35 _ (List.mem_of_getElem? (i := 12) rfl)⟩⟩, List.forall_mem_cons.mpr ⟨⟨_, rfl, inr37 _ (List.mem_of_getElem? (i := 0) rfl), inr1 _ (List.mem_of_getElem? (i := 5) rfl), ⟨inr37 _ (List.mem_of_getElem? (i := 1) rfl), inr37 _ (List.mem_of_getElem? (i := 2) rfl)⟩⟩, fun _ h => nomatch h⟩⟩⟩⟩⟩
set_option maxRecDepth 100000 in
theorem mt12_17_b : ∀ e ∈ mt12_17, okCB e := by unfold okCB; decide +kernel
theorem mt12_17_ok : ∀ e ∈ mt12_17, okC e := fun e h => by
  obtain ⟨q, h1, h2, h3, h4⟩ := mt12_17_a e h
  have b := mt12_17_b e h
  unfold okCB at b
  rw [h1] at b
  exact ⟨q, h1, h2, h3, Option.some.inj b, h4⟩
def mt12_18 : List (Nat × Nat × Nat × Nat × Nat) := [(12, 289, 0, 258, 3), (12, 300, 0, 260, 2), (12, 303, 0, 261, 4), (12, 297, 0, 262, 1)]
set_option maxRecDepth 100000 in
theorem mt12_18_a : ∀ e ∈ mt12_18, okCA e := List.forall_mem_cons.mpr ⟨⟨_, rfl, inr39 _ (List.mem_of_getElem? (i := 9) rfl), inr1 _ (List.mem_of_getElem? (i := 5) rfl), ⟨inr39 _ (List.mem_of_getElem? (i := 10) rfl), inr39 _ (List.mem_of_getElem? (i := 11) rfl)⟩⟩, List.forall_mem_cons.mpr ⟨⟨_, rfl, inr42 _ (List.mem_of_getElem? (i := 0) rfl), inr1 _ (List.mem_of_getElem? (i := 5) rfl), ⟨inr42 _ (List.mem_of_getElem? (i := 1) rfl), inr42 _ (List.mem_of_getElem? (i := 2) rfl)⟩⟩, List.forall_mem_cons.mpr ⟨⟨_, rfl, inr42 _ (List.mem_of_getElem? (i := 5) rfl), inr1 _ (List.mem_of_getElem? (i := 5) rfl), ⟨inr42 _ (List.mem_of_getElem? (i := 6) rfl), inr42 _ (List.mem_of_getElem? (i := 7) rfl)⟩⟩, List.forall_mem_cons.mpr ⟨⟨_, rfl, inr42 _ (List.mem_of_getElem? (i := 14) rfl), inr1 _ (List.mem_of_getElem? (i := 5) rfl), ⟨inr42 _ (List.mem_of_getElem? (i := 15) rfl), inr42 _ (List.mem_of_getElem? (i := 16) rfl)⟩⟩, fun _ h => nomatch h⟩⟩⟩⟩
set_option maxRecDepth 100000 in
theorem mt12_18_b : ∀ e ∈ mt12_18, okCB e := by unfold okCB; decide +kernel
theorem mt12_18_ok : ∀ e ∈ mt12_18, okC e := fun e h => by
  obtain ⟨q, h1, h2, h3, h4⟩ := mt12_18_a e h
  have b := mt12_18_b e h
  unfold okCB at b
  rw [h1] at b
  exact ⟨q, h1, h2, h3, Option.some.inj b, h4⟩
def mt12_19 : List (Nat × Nat × Nat × Nat × Nat) := [(12, 309, 0, 264, 3), (12, 306, 0, 263, 2), (12, 312, 1, 152, 1), (12, 317, 0, 267, 1)]
set_option maxRecDepth 100000 in
theorem mt12_19_a : ∀ e ∈ mt12_19, okCA e := List.forall_mem_cons.mpr ⟨⟨_, rfl, inr41 _ (List.mem_of_getElem? (i := 20) rfl), inr1 _ (List.mem_of_getElem? (i := 5) rfl), ⟨inr41 _ (List.mem_of_getElem? (i := 21) rfl), inr41 _ (List.mem_of_getElem? (i := 22) rfl)⟩⟩, List.forall_mem_cons.mpr ⟨⟨_, rfl, inr42 _ (List.mem_of_getElem? (i := 10) rfl), inr1 _ (List.mem_of_getElem? (i := 5) rfl), ⟨inr42 _ (List.mem_of_getElem? (i := 11) rfl), inr42 _ (List.mem_of_getElem? (i := 12) rfl)⟩⟩, List.forall_mem_cons.mpr ⟨⟨_, rfl, inr42 _ (List.mem_of_getElem? (i := 18) rfl), inr41 _ (List.mem_of_getElem? (i := 11) rfl), inr41 _ (List.mem_of_getElem? (i := 10) rfl)⟩, List.forall_mem_cons.mpr ⟨⟨_, rfl, inr52 _ (List.mem_of_getElem? (i := 14) rfl), inr1 _ (List.mem_of_getElem? (i := 5) rfl), ⟨inr52 _ (List.mem_of_getElem? (i := 15) rfl), inr52 _ (List.mem_of_getElem? (i := 16) rfl)⟩⟩, fun _ h => nomatch h⟩⟩⟩⟩
set_option maxRecDepth 100000 in
theorem mt12_19_b : ∀ e ∈ mt12_19, okCB e := by unfold okCB; decide +kernel
theorem mt12_19_ok : ∀ e ∈ mt12_19, okC e := fun e h => by
  obtain ⟨q, h1, h2, h3, h4⟩ := mt12_19_a e h
  have b := mt12_19_b e h
  unfold okCB at b
  rw [h1] at b
  exact ⟨q, h1, h2, h3, Option.some.inj b, h4⟩
def mt12_20 : List (Nat × Nat × Nat × Nat × Nat) := [(12, 333, 0, 274, 2), (12, 320, 0, 203, 1), (12, 329, 0, 273, 1), (12, 326, 0, 272, 1), (12, 323, 0, 268, 2)]
set_option maxRecDepth 100000 in
theorem mt12_20_a : ∀ e ∈ mt12_20, okCA e := List.forall_mem_cons.mpr ⟨⟨_, rfl, inr46 _ (List.mem_of_getElem? (i := 0) rfl), inr1 _ (List.mem_of_getElem? (i := 5) rfl), ⟨inr46 _ (List.mem_of_getElem? (i := 1) rfl), inr46 _ (List.mem_of_getElem? (i := 2) rfl)⟩⟩, List.forall_mem_cons.mpr ⟨⟨_, rfl, inr46 _ (List.mem_of_getElem? (i := 4) rfl), inr1 _ (List.mem_of_getElem? (i := 5) rfl), ⟨inr46 _ (List.mem_of_getElem? (i := 5) rfl), inr46 _ (List.mem_of_getElem? (i := 6) rfl)⟩⟩, List.forall_mem_cons.mpr ⟨⟨_, rfl, inr46 _ (List.mem_of_getElem? (i := 8) rfl), inr1 _ (List.mem_of_getElem? (i := 5) rfl), ⟨inr46 _ (List.mem_of_getElem? (i := 9) rfl), inr46 _ (List.mem_of_getElem? (i := 10) rfl)⟩⟩, List.forall_mem_cons.mpr ⟨⟨_, rfl, inr46 _ (List.mem_of_getElem? (i := 12) rfl), inr1 _ (List.mem_of_getElem? (i := 5) rfl), ⟨inr46 _ (List.mem_of_getElem? (i := 13) rfl), inr46 _ (List.mem_of_getElem? (i := 14) rfl)⟩⟩, List.forall_mem_cons.mpr ⟨⟨_, rfl, inr52 _ (List.mem_of_getElem? (i := 18) rfl), inr1 _ (List.mem_of_getElem? (i := 5) rfl), ⟨inr52 _ (List.mem_of_getElem? (i := 19) rfl), inr52 _ (List.mem_of_getElem? (i := 20) rfl)⟩⟩, fun _ h => nomatch h⟩⟩⟩⟩⟩
set_option maxRecDepth 100000 in
theorem mt12_20_b : ∀ e ∈ mt12_20, okCB e := by unfold okCB; decide +kernel
theorem mt12_20_ok : ∀ e ∈ mt12_20, okC e := fun e h => by
  obtain ⟨q, h1, h2, h3, h4⟩ := mt12_20_a e h
  have b := mt12_20_b e h
  unfold okCB at b
  rw [h1] at b
  exact ⟨q, h1, h2, h3, Option.some.inj b, h4⟩
def mt12_21 : List (Nat × Nat × Nat × Nat × Nat) := [(12, 336, 0, 276, 0), (12, 339, 0, 277, 1), (12, 345, 0, 283, 1), (12, 342, 0, 281, 2), (12, 348, 0, 284, 1), (12, 351, 0, 285, 0)]
set_option maxRecDepth 100000 in
theorem mt12_21_a : ∀ e ∈ mt12_21, okCA e := List.forall_mem_cons.mpr ⟨⟨_, rfl, inr47 _ (List.mem_of_getElem? (i := 4) rfl), inr1 _ (List.mem_of_getElem? (i := 5) rfl), ⟨inr47 _ (List.mem_of_getElem? (i := 5) rfl), inr47 _ (List.mem_of_getElem? (i := 6) rfl)⟩⟩, List.forall_mem_cons.mpr ⟨⟨_, rfl, inr47 _ (List.mem_of_getElem? (i := 8) rfl), inr1 _ (List.mem_of_getElem? (i := 5) rfl), ⟨inr47 _ (List.mem_of_getElem? (i := 9) rfl), inr47 _ (List.mem_of_getElem? (i := 10) rfl)⟩⟩, List.forall_mem_cons.mpr ⟨⟨_, rfl, inr57 _ (List.mem_of_getElem? (i := 18) rfl), inr1 _ (List.mem_of_getElem? (i := 5) rfl), ⟨inr57 _ (List.mem_of_getElem? (i := 19) rfl), inr57 _ (List.mem_of_getElem? (i := 20) rfl)⟩⟩, List.forall_mem_cons.mpr ⟨⟨_, rfl, inr57 _ (List.mem_of_getElem? (i := 22) rfl), inr1 _ (List.mem_of_getElem? (i := 5) rfl), ⟨inr57 _ (List.mem_of_getElem? (i := 23) rfl), inr58 _ (List.mem_of_getElem? (i := 0) rfl)⟩⟩, List.forall_mem_cons.mpr ⟨⟨_, rfl, inr58 _ (List.mem_of_getElem? (i := 2) rfl), inr1 _ (List.mem_of_getElem? (i := 5) rfl), ⟨inr58 _ (List.mem_of_getElem? (i := 3) rfl), inr58 _ (List.mem_of_getElem? (i := 4) rfl)⟩⟩, List.forall_mem_cons.mpr ⟨⟨_, rfl, inr58 _ (List.mem_of_getElem? (i := 6) rfl), inr1 _ (List.mem_of_getElem? (i := 5) rfl), ⟨inr58 _ (List.mem_of_getElem? (i := 7) rfl), inr58 _ (List.mem_of_getElem? (i := 8) rfl)⟩⟩, fun _ h => nomatch h⟩⟩⟩⟩⟩⟩
set_option maxRecDepth 100000 in
theorem mt12_21_b : ∀ e ∈ mt12_21, okCB e := by unfold okCB; decide +kernel
theorem mt12_21_ok : ∀ e ∈ mt12_21, okC e := fun e h => by
  obtain ⟨q, h1, h2, h3, h4⟩ := mt12_21_a e h
  have b := mt12_21_b e h
  unfold okCB at b
  rw [h1] at b
  exact ⟨q, h1, h2, h3, Option.some.inj b, h4⟩
def mt12_22 : List (Nat × Nat × Nat × Nat × Nat) := [(12, 363, 0, 288, 1), (12, 366, 1, 315, 2), (12, 354, 0, 282, 1), (12, 360, 0, 286, 1)]
set_option maxRecDepth 100000 in
theorem mt12_22_a : ∀ e ∈ mt12_22, okCA e := List.forall_mem_cons.mpr ⟨⟨_, rfl, inr49 _ (List.mem_of_getElem? (i := 21) rfl), inr1 _ (List.mem_of_getElem? (i := 5) rfl), ⟨inr49 _ (List.mem_of_getElem? (i := 22) rfl), inr49 _ (List.mem_of_getElem? (i := 23) rfl)⟩⟩, List.forall_mem_cons.mpr ⟨⟨_, rfl, inr51 _ (List.mem_of_getElem? (i := 17) rfl), inr13 _ (List.mem_of_getElem? (i := 6) rfl), inr41 _ (List.mem_of_getElem? (i := 1) rfl)⟩, List.forall_mem_cons.mpr ⟨⟨_, rfl, inr57 _ (List.mem_of_getElem? (i := 10) rfl), inr1 _ (List.mem_of_getElem? (i := 5) rfl), ⟨inr57 _ (List.mem_of_getElem? (i := 11) rfl), inr57 _ (List.mem_of_getElem? (i := 12) rfl)⟩⟩, List.forall_mem_cons.mpr ⟨⟨_, rfl, inr57 _ (List.mem_of_getElem? (i := 14) rfl), inr1 _ (List.mem_of_getElem? (i := 5) rfl), ⟨inr57 _ (List.mem_of_getElem? (i := 15) rfl), inr57 _ (List.mem_of_getElem? (i := 16) rfl)⟩⟩, fun _ h => nomatch h⟩⟩⟩⟩
set_option maxRecDepth 100000 in
theorem mt12_22_b : ∀ e ∈ mt12_22, okCB e := by unfold okCB; decide +kernel
theorem mt12_22_ok : ∀ e ∈ mt12_22, okC e := fun e h => by
  obtain ⟨q, h1, h2, h3, h4⟩ := mt12_22_a e h
  have b := mt12_22_b e h
  unfold okCB at b
  rw [h1] at b
  exact ⟨q, h1, h2, h3, Option.some.inj b, h4⟩
def mt12_23 : List (Nat × Nat × Nat × Nat × Nat) := [(12, 378, 0, 293, 0), (12, 369, 0, 289, 3), (12, 375, 0, 291, 2), (12, 372, 0, 290, 0)]
set_option maxRecDepth 100000 in
theorem mt12_23_a : ∀ e ∈ mt12_23, okCA e := List.forall_mem_cons.mpr ⟨⟨_, rfl, inr49 _ (List.mem_of_getElem? (i := 17) rfl), inr1 _ (List.mem_of_getElem? (i := 5) rfl), ⟨inr49 _ (List.mem_of_getElem? (i := 18) rfl), inr49 _ (List.mem_of_getElem? (i := 19) rfl)⟩⟩, List.forall_mem_cons.mpr ⟨⟨_, rfl, inr50 _ (List.mem_of_getElem? (i := 1) rfl), inr1 _ (List.mem_of_getElem? (i := 5) rfl), ⟨inr50 _ (List.mem_of_getElem? (i := 2) rfl), inr50 _ (List.mem_of_getElem? (i := 3) rfl)⟩⟩, List.forall_mem_cons.mpr ⟨⟨_, rfl, inr50 _ (List.mem_of_getElem? (i := 5) rfl), inr1 _ (List.mem_of_getElem? (i := 5) rfl), ⟨inr50 _ (List.mem_of_getElem? (i := 6) rfl), inr50 _ (List.mem_of_getElem? (i := 7) rfl)⟩⟩, List.forall_mem_cons.mpr ⟨⟨_, rfl, inr51 _ (List.mem_of_getElem? (i := 13) rfl), inr1 _ (List.mem_of_getElem? (i := 5) rfl), ⟨inr51 _ (List.mem_of_getElem? (i := 14) rfl), inr51 _ (List.mem_of_getElem? (i := 15) rfl)⟩⟩, fun _ h => nomatch h⟩⟩⟩⟩
set_option maxRecDepth 100000 in
theorem mt12_23_b : ∀ e ∈ mt12_23, okCB e := by unfold okCB; decide +kernel
theorem mt12_23_ok : ∀ e ∈ mt12_23, okC e := fun e h => by
  obtain ⟨q, h1, h2, h3, h4⟩ := mt12_23_a e h
  have b := mt12_23_b e h
  unfold okCB at b
  rw [h1] at b
  exact ⟨q, h1, h2, h3, Option.some.inj b, h4⟩
def mt12_24 : List (Nat × Nat × Nat × Nat × Nat) := [(12, 394, 0, 298, 0), (12, 397, 0, 299, 0)]
set_option maxRecDepth 100000 in
theorem mt12_24_a : ∀ e ∈ mt12_24, okCA e := List.forall_mem_cons.mpr ⟨⟨_, rfl, inr62 _ (List.mem_of_getElem? (i := 10) rfl), inr1 _ (List.mem_of_getElem? (i := 5) rfl), ⟨inr62 _ (List.mem_of_getElem? (i := 11) rfl), inr62 _ (List.mem_of_getElem? (i := 12) rfl)⟩⟩, List.forall_mem_cons.mpr ⟨⟨_, rfl, inr62 _ (List.mem_of_getElem? (i := 14) rfl), inr1 _ (List.mem_of_getElem? (i := 5) rfl), ⟨inr62 _ (List.mem_of_getElem? (i := 15) rfl), inr62 _ (List.mem_of_getElem? (i := 16) rfl)⟩⟩, fun _ h => nomatch h⟩⟩
set_option maxRecDepth 100000 in
theorem mt12_24_b : ∀ e ∈ mt12_24, okCB e := by unfold okCB; decide +kernel
theorem mt12_24_ok : ∀ e ∈ mt12_24, okC e := fun e h => by
  obtain ⟨q, h1, h2, h3, h4⟩ := mt12_24_a e h
  have b := mt12_24_b e h
  unfold okCB at b
  rw [h1] at b
  exact ⟨q, h1, h2, h3, Option.some.inj b, h4⟩
def mt12_25 : List (Nat × Nat × Nat × Nat × Nat) := [(12, 411, 1, 302, 1), (12, 402, 1, 113, 2), (12, 405, 0, 297, 4)]
set_option maxRecDepth 100000 in
theorem mt12_25_a : ∀ e ∈ mt12_25, okCA e := List.forall_mem_cons.mpr ⟨⟨_, rfl, inr62 _ (List.mem_of_getElem? (i := 1) rfl), inr1 _ (List.mem_of_getElem? (i := 5) rfl), inr62 _ (List.mem_of_getElem? (i := 2) rfl)⟩, List.forall_mem_cons.mpr ⟨⟨_, rfl, inr62 _ (List.mem_of_getElem? (i := 18) rfl), inr13 _ (List.mem_of_getElem? (i := 6) rfl), inr61 _ (List.mem_of_getElem? (i := 1) rfl)⟩, List.forall_mem_cons.mpr ⟨⟨_, rfl, inr62 _ (List.mem_of_getElem? (i := 19) rfl), inr1 _ (List.mem_of_getElem? (i := 5) rfl), ⟨inr62 _ (List.mem_of_getElem? (i := 20) rfl), inr62 _ (List.mem_of_getElem? (i := 21) rfl)⟩⟩, fun _ h => nomatch h⟩⟩⟩
set_option maxRecDepth 100000 in
theorem mt12_25_b : ∀ e ∈ mt12_25, okCB e := by unfold okCB; decide +kernel
theorem mt12_25_ok : ∀ e ∈ mt12_25, okC e := fun e h => by
  obtain ⟨q, h1, h2, h3, h4⟩ := mt12_25_a e h
  have b := mt12_25_b e h
  unfold okCB at b
  rw [h1] at b
  exact ⟨q, h1, h2, h3, Option.some.inj b, h4⟩
def mt12_26 : List (Nat × Nat × Nat × Nat × Nat) := [(12, 416, 0, 300, 0), (12, 419, 1, 301, 3), (12, 426, 1, 169, 2), (12, 428, 1, 304, 2), (12, 423, 1, 314, 1)]
set_option maxRecDepth 100000 in
theorem mt12_26_a : ∀ e ∈ mt12_26, okCA e := List.forall_mem_cons.mpr ⟨⟨_, rfl, inr62 _ (List.mem_of_getElem? (i := 4) rfl), inr1 _ (List.mem_of_getElem? (i := 5) rfl), ⟨inr62 _ (List.mem_of_getElem? (i := 5) rfl), inr62 _ (List.mem_of_getElem? (i := 6) rfl)⟩⟩, List.forall_mem_cons.mpr ⟨⟨_, rfl, inr62 _ (List.mem_of_getElem? (i := 23) rfl), inr1 _ (List.mem_of_getElem? (i := 5) rfl), inr63 _ (List.mem_of_getElem? (i := 0) rfl)⟩, List.forall_mem_cons.mpr ⟨⟨_, rfl, inr64 _ (List.mem_of_getElem? (i := 8) rfl), inr13 _ (List.mem_of_getElem? (i := 6) rfl), inr63 _ (List.mem_of_getElem? (i := 13) rfl)⟩, List.forall_mem_cons.mpr ⟨⟨_, rfl, inr64 _ (List.mem_of_getElem? (i := 16) rfl), inr1 _ (List.mem_of_getElem? (i := 5) rfl), inr64 _ (List.mem_of_getElem? (i := 17) rfl)⟩, List.forall_mem_cons.mpr ⟨⟨_, rfl, inr64 _ (List.mem_of_getElem? (i := 19) rfl), inr13 _ (List.mem_of_getElem? (i := 6) rfl), inr63 _ (List.mem_of_getElem? (i := 23) rfl)⟩, fun _ h => nomatch h⟩⟩⟩⟩⟩
set_option maxRecDepth 100000 in
theorem mt12_26_b : ∀ e ∈ mt12_26, okCB e := by unfold okCB; decide +kernel
theorem mt12_26_ok : ∀ e ∈ mt12_26, okC e := fun e h => by
  obtain ⟨q, h1, h2, h3, h4⟩ := mt12_26_a e h
  have b := mt12_26_b e h
  unfold okCB at b
  rw [h1] at b
  exact ⟨q, h1, h2, h3, Option.some.inj b, h4⟩
def mt12_27 : List (Nat × Nat × Nat × Nat × Nat) := [(12, 440, 1, 305, 1), (12, 443, 0, 306, 3)]
set_option maxRecDepth 100000 in
theorem mt12_27_a : ∀ e ∈ mt12_27, okCA e := List.forall_mem_cons.mpr ⟨⟨_, rfl, inr64 _ (List.mem_of_getElem? (i := 5) rfl), inr1 _ (List.mem_of_getElem? (i := 5) rfl), inr64 _ (List.mem_of_getElem? (i := 6) rfl)⟩, List.forall_mem_cons.mpr ⟨⟨_, rfl, inr64 _ (List.mem_of_getElem? (i := 9) rfl), inr1 _ (List.mem_of_getElem? (i := 5) rfl), ⟨inr64 _ (List.mem_of_getElem? (i := 10) rfl), inr64 _ (List.mem_of_getElem? (i := 11) rfl)⟩⟩, fun _ h => nomatch h⟩⟩
set_option maxRecDepth 100000 in
theorem mt12_27_b : ∀ e ∈ mt12_27, okCB e := by unfold okCB; decide +kernel
theorem mt12_27_ok : ∀ e ∈ mt12_27, okC e := fun e h => by
  obtain ⟨q, h1, h2, h3, h4⟩ := mt12_27_a e h
  have b := mt12_27_b e h
  unfold okCB at b
  rw [h1] at b
  exact ⟨q, h1, h2, h3, Option.some.inj b, h4⟩
def mt12_29 : List (Nat × Nat × Nat × Nat × Nat) := [(12, 465, 1, 311, 1), (12, 468, 1, 309, 4), (12, 472, 1, 310, 5)]
set_option maxRecDepth 100000 in
theorem mt12_29_a : ∀ e ∈ mt12_29, okCA e := List.forall_mem_cons.mpr ⟨⟨_, rfl, inr66 _ (List.mem_of_getElem? (i := 20) rfl), inr1 _ (List.mem_of_getElem? (i := 5) rfl), inr66 _ (List.mem_of_getElem? (i := 21) rfl)⟩, List.forall_mem_cons.mpr ⟨⟨_, rfl, inr66 _ (List.mem_of_getElem? (i := 23) rfl), inr1 _ (List.mem_of_getElem? (i := 5) rfl), inr67 _ (List.mem_of_getElem? (i := 0) rfl)⟩, List.forall_mem_cons.mpr ⟨⟨_, rfl, inr67 _ (List.mem_of_getElem? (i := 5) rfl), inr1 _ (List.mem_of_getElem? (i := 5) rfl), inr67 _ (List.mem_of_getElem? (i := 6) rfl)⟩, fun _ h => nomatch h⟩⟩⟩
set_option maxRecDepth 100000 in
theorem mt12_29_b : ∀ e ∈ mt12_29, okCB e := by unfold okCB; decide +kernel
theorem mt12_29_ok : ∀ e ∈ mt12_29, okC e := fun e h => by
  obtain ⟨q, h1, h2, h3, h4⟩ := mt12_29_a e h
  have b := mt12_29_b e h
  unfold okCB at b
  rw [h1] at b
  exact ⟨q, h1, h2, h3, Option.some.inj b, h4⟩
def mt12L : List (List (Nat × Nat × Nat × Nat × Nat)) := [[], [], [], [], mt12_4, mt12_5, mt12_6, mt12_7, mt12_8, mt12_9, mt12_10, mt12_11, mt12_12, mt12_13, mt12_14, mt12_15, mt12_16, mt12_17, mt12_18, mt12_19, mt12_20, mt12_21, mt12_22, mt12_23, mt12_24, mt12_25, mt12_26, mt12_27, [], mt12_29]
theorem mt12L_ok : ∀ B ∈ mt12L, ∀ e ∈ B, okC e := List.forall_mem_cons.mpr ⟨(fun _ h => nomatch h), List.forall_mem_cons.mpr ⟨(fun _ h => nomatch h), List.forall_mem_cons.mpr ⟨(fun _ h => nomatch h), List.forall_mem_cons.mpr ⟨(fun _ h => nomatch h), List.forall_mem_cons.mpr ⟨mt12_4_ok, List.forall_mem_cons.mpr ⟨mt12_5_ok, List.forall_mem_cons.mpr ⟨mt12_6_ok, List.forall_mem_cons.mpr ⟨mt12_7_ok, List.forall_mem_cons.mpr ⟨mt12_8_ok, List.forall_mem_cons.mpr ⟨mt12_9_ok, List.forall_mem_cons.mpr ⟨mt12_10_ok, List.forall_mem_cons.mpr ⟨mt12_11_ok, List.forall_mem_cons.mpr ⟨mt12_12_ok, List.forall_mem_cons.mpr ⟨mt12_13_ok, List.forall_mem_cons.mpr ⟨mt12_14_ok, List.forall_mem_cons.mpr ⟨mt12_15_ok, List.forall_mem_cons.mpr ⟨mt12_16_ok, List.forall_mem_cons.mpr ⟨mt12_17_ok, List.forall_mem_cons.mpr ⟨mt12_18_ok, List.forall_mem_cons.mpr ⟨mt12_19_ok, List.forall_mem_cons.mpr ⟨mt12_20_ok, List.forall_mem_cons.mpr ⟨mt12_21_ok, List.forall_mem_cons.mpr ⟨mt12_22_ok, List.forall_mem_cons.mpr ⟨mt12_23_ok, List.forall_mem_cons.mpr ⟨mt12_24_ok, List.forall_mem_cons.mpr ⟨mt12_25_ok, List.forall_mem_cons.mpr ⟨mt12_26_ok, List.forall_mem_cons.mpr ⟨mt12_27_ok, List.forall_mem_cons.mpr ⟨(fun _ h => nomatch h), List.forall_mem_cons.mpr ⟨mt12_29_ok, fun _ h => nomatch h⟩⟩⟩⟩⟩⟩⟩⟩⟩⟩⟩⟩⟩⟩⟩⟩⟩⟩⟩⟩⟩⟩⟩⟩⟩⟩⟩⟩⟩⟩
def mt13_0 : List (Nat × Nat × Nat × Nat × Nat) := [(13, 7, 0, 128, 1)]
set_option maxRecDepth 100000 in
theorem mt13_0_a : ∀ e ∈ mt13_0, okCA e := List.forall_mem_cons.mpr ⟨⟨_, rfl, inr9 _ (List.mem_of_getElem? (i := 4) rfl), inr1 _ (List.mem_of_getElem? (i := 2) rfl), ⟨inr9 _ (List.mem_of_getElem? (i := 5) rfl), inr9 _ (List.mem_of_getElem? (i := 6) rfl)⟩⟩, fun _ h => nomatch h⟩
set_option maxRecDepth 100000 in
theorem mt13_0_b : ∀ e ∈ mt13_0, okCB e := by unfold okCB; decide +kernel
theorem mt13_0_ok : ∀ e ∈ mt13_0, okC e := fun e h => by
  obtain ⟨q, h1, h2, h3, h4⟩ := mt13_0_a e h
  have b := mt13_0_b e h
  unfold okCB at b
  rw [h1] at b
  exact ⟨q, h1, h2, h3, Option.some.inj b, h4⟩
def mt13_1 : List (Nat × Nat × Nat × Nat × Nat) := [(13, 17, 0, 129, 0), (13, 23, 0, 130, 4), (13, 27, 0, 131, 0), (13, 30, 0, 137, 2)]
set_option maxRecDepth 100000 in
theorem mt13_1_a : ∀ e ∈ mt13_1, okCA e := List.forall_mem_cons.mpr ⟨⟨_, rfl, inr10 _ (List.mem_of_getElem? (i := 3) rfl), inr1 _ (List.mem_of_getElem? (i := 2) rfl), ⟨inr10 _ (List.mem_of_getElem? (i := 4) rfl), inr10 _ (List.mem_of_getElem? (i := 5) rfl)⟩⟩, List.forall_mem_cons.mpr ⟨⟨_, rfl, inr13 _ (List.mem_of_getElem? (i := 11) rfl), inr1 _ (List.mem_of_getElem? (i := 2) rfl), ⟨inr13 _ (List.mem_of_getElem? (i := 12) rfl), inr13 _ (List.mem_of_getElem? (i := 13) rfl)⟩⟩, List.forall_mem_cons.mpr ⟨⟨_, rfl, inr16 _ (List.mem_of_getElem? (i := 0) rfl), inr1 _ (List.mem_of_getElem? (i := 2) rfl), ⟨inr16 _ (List.mem_of_getElem? (i := 1) rfl), inr16 _ (List.mem_of_getElem? (i := 2) rfl)⟩⟩, List.forall_mem_cons.mpr ⟨⟨_, rfl, inr22 _ (List.mem_of_getElem? (i := 4) rfl), inr1 _ (List.mem_of_getElem? (i := 2) rfl), ⟨inr22 _ (List.mem_of_getElem? (i := 5) rfl), inr22 _ (List.mem_of_getElem? (i := 6) rfl)⟩⟩, fun _ h => nomatch h⟩⟩⟩⟩
set_option maxRecDepth 100000 in
theorem mt13_1_b : ∀ e ∈ mt13_1, okCB e := by unfold okCB; decide +kernel
theorem mt13_1_ok : ∀ e ∈ mt13_1, okC e := fun e h => by
  obtain ⟨q, h1, h2, h3, h4⟩ := mt13_1_a e h
  have b := mt13_1_b e h
  unfold okCB at b
  rw [h1] at b
  exact ⟨q, h1, h2, h3, Option.some.inj b, h4⟩
def mt13_2 : List (Nat × Nat × Nat × Nat × Nat) := [(13, 36, 0, 138, 3), (13, 40, 0, 139, 1), (13, 44, 0, 143, 2)]
set_option maxRecDepth 100000 in
theorem mt13_2_a : ∀ e ∈ mt13_2, okCA e := List.forall_mem_cons.mpr ⟨⟨_, rfl, inr23 _ (List.mem_of_getElem? (i := 18) rfl), inr1 _ (List.mem_of_getElem? (i := 2) rfl), ⟨inr23 _ (List.mem_of_getElem? (i := 19) rfl), inr23 _ (List.mem_of_getElem? (i := 20) rfl)⟩⟩, List.forall_mem_cons.mpr ⟨⟨_, rfl, inr25 _ (List.mem_of_getElem? (i := 11) rfl), inr1 _ (List.mem_of_getElem? (i := 2) rfl), ⟨inr25 _ (List.mem_of_getElem? (i := 12) rfl), inr25 _ (List.mem_of_getElem? (i := 13) rfl)⟩⟩, List.forall_mem_cons.mpr ⟨⟨_, rfl, inr26 _ (List.mem_of_getElem? (i := 19) rfl), inr1 _ (List.mem_of_getElem? (i := 2) rfl), ⟨inr26 _ (List.mem_of_getElem? (i := 20) rfl), inr26 _ (List.mem_of_getElem? (i := 21) rfl)⟩⟩, fun _ h => nomatch h⟩⟩⟩
set_option maxRecDepth 100000 in
theorem mt13_2_b : ∀ e ∈ mt13_2, okCB e := by unfold okCB; decide +kernel
theorem mt13_2_ok : ∀ e ∈ mt13_2, okC e := fun e h => by
  obtain ⟨q, h1, h2, h3, h4⟩ := mt13_2_a e h
  have b := mt13_2_b e h
  unfold okCB at b
  rw [h1] at b
  exact ⟨q, h1, h2, h3, Option.some.inj b, h4⟩
def mt13_3 : List (Nat × Nat × Nat × Nat × Nat) := [(13, 48, 0, 146, 3), (13, 51, 0, 147, 2), (13, 55, 0, 148, 3), (13, 59, 0, 150, 3), (13, 62, 0, 151, 3)]
set_option maxRecDepth 100000 in
theorem mt13_3_a : ∀ e ∈ mt13_3, okCA e := List.forall_mem_cons.mpr ⟨⟨_, rfl, inr31 _ (List.mem_of_getElem? (i := 12) rfl), inr1 _ (List.mem_of_getElem? (i := 2) rfl), ⟨inr31 _ (List.mem_of_getElem? (i := 13) rfl), inr31 _ (List.mem_of_getElem? (i := 14) rfl)⟩⟩, List.forall_mem_cons.mpr ⟨⟨_, rfl, inr36 _ (List.mem_of_getElem? (i := 4) rfl), inr1 _ (List.mem_of_getElem? (i := 2) rfl), ⟨inr36 _ (List.mem_of_getElem? (i := 5) rfl), inr36 _ (List.mem_of_getElem? (i := 6) rfl)⟩⟩, List.forall_mem_cons.mpr ⟨⟨_, rfl, inr37 _ (List.mem_of_getElem? (i := 7) rfl), inr1 _ (List.mem_of_getElem? (i := 2) rfl), ⟨inr37 _ (List.mem_of_getElem? (i := 8) rfl), inr37 _ (List.mem_of_getElem? (i := 9) rfl)⟩⟩, List.forall_mem_cons.mpr ⟨⟨_, rfl, inr37 _ (List.mem_of_getElem? (i := 23) rfl), inr1 _ (List.mem_of_getElem? (i := 2) rfl), ⟨inr38 _ (List.mem_of_getElem? (i := 0) rfl), inr38 _ (List.mem_of_getElem? (i := 1) rfl)⟩⟩, List.forall_mem_cons.mpr ⟨⟨_, rfl, inr38 _ (List.mem_of_getElem? (i := 14) rfl), inr1 _ (List.mem_of_getElem? (i := 2) rfl), ⟨inr38 _ (List.mem_of_getElem? (i := 15) rfl), inr38 _ (List.mem_of_getElem? (i := 16) rfl)⟩⟩, fun _ h => nomatch h⟩⟩⟩⟩⟩
set_option maxRecDepth 100000 in
theorem mt13_3_b : ∀ e ∈ mt13_3, okCB e := by unfold okCB; decide +kernel
theorem mt13_3_ok : ∀ e ∈ mt13_3, okC e := fun e h => by
  obtain ⟨q, h1, h2, h3, h4⟩ := mt13_3_a e h
  have b := mt13_3_b e h
  unfold okCB at b
  rw [h1] at b
  exact ⟨q, h1, h2, h3, Option.some.inj b, h4⟩
def mt13_4 : List (Nat × Nat × Nat × Nat × Nat) := [(13, 66, 0, 153, 3), (13, 69, 0, 154, 3), (13, 72, 0, 160, 1), (13, 75, 0, 161, 1), (13, 78, 0, 141, 2)]
set_option maxRecDepth 100000 in
theorem mt13_4_a : ∀ e ∈ mt13_4, okCA e := List.forall_mem_cons.mpr ⟨⟨_, rfl, inr39 _ (List.mem_of_getElem? (i := 16) rfl), inr1 _ (List.mem_of_getElem? (i := 2) rfl), ⟨inr39 _ (List.mem_of_getElem? (i := 17) rfl), inr39 _ (List.mem_of_getElem? (i := 18) rfl)⟩⟩, List.forall_mem_cons.mpr ⟨⟨_, rfl, inr42 _ (List.mem_of_getElem? (i := 22) rfl), inr1 _ (List.mem_of_getElem? (i := 2) rfl), ⟨inr42 _ (List.mem_of_getElem? (i := 23) rfl), inr43 _ (List.mem_of_getElem? (i := 0) rfl)⟩⟩, List.forall_mem_cons.mpr ⟨⟨_, rfl, inr43 _ (List.mem_of_getElem? (i := 9) rfl), inr1 _ (List.mem_of_getElem? (i := 2) rfl), ⟨inr43 _ (List.mem_of_getElem? (i := 10) rfl), inr43 _ (List.mem_of_getElem? (i := 11) rfl)⟩⟩, List.forall_mem_cons.mpr ⟨⟨_, rfl, inr46 _ (List.mem_of_getElem? (i := 19) rfl), inr1 _ (List.mem_of_getElem? (i := 2) rfl), ⟨inr46 _ (List.mem_of_getElem? (i := 20) rfl), inr46 _ (List.mem_of_getElem? (i := 21) rfl)⟩⟩, List.forall_mem_cons.mpr ⟨⟨_, rfl, inr47 _ (List.mem_of_getElem? (i := 15) rfl), inr1 _ (List.mem_of_getElem? (i := 2) rfl), ⟨inr47 _ (List.mem_of_getElem? (i := 16) rfl), inr47 _ (List.mem_of_getElem? (i := 17) rfl)⟩⟩, fun _ h => nomatch h⟩⟩⟩⟩⟩
set_option maxRecDepth 100000 in
theorem mt13_4_b : ∀ e ∈ mt13_4, okCB e := by unfold okCB; decide +kernel
theorem mt13_4_ok : ∀ e ∈ mt13_4, okC e := fun e h => by
  obtain ⟨q, h1, h2, h3, h4⟩ := mt13_4_a e h
  have b := mt13_4_b e h
  unfold okCB at b
  rw [h1] at b
  exact ⟨q, h1, h2, h3, Option.some.inj b, h4⟩
def mt13_5 : List (Nat × Nat × Nat × Nat × Nat) := [(13, 81, 0, 142, 1), (13, 84, 0, 140, 2), (13, 87, 0, 164, 3), (13, 90, 0, 165, 1), (13, 94, 0, 155, 2)]
set_option maxRecDepth 100000 in
theorem mt13_5_a : ∀ e ∈ mt13_5, okCA e := List.forall_mem_cons.mpr ⟨⟨_, rfl, inr48 _ (List.mem_of_getElem? (i := 2) rfl), inr1 _ (List.mem_of_getElem? (i := 2) rfl), ⟨inr48 _ (List.mem_of_getElem? (i := 3) rfl), inr48 _ (List.mem_of_getElem? (i := 4) rfl)⟩⟩, List.forall_mem_cons.mpr ⟨⟨_, rfl, inr48 _ (List.mem_of_getElem? (i := 14) rfl), inr1 _ (List.mem_of_getElem? (i := 2) rfl), ⟨inr48 _ (List.mem_of_getElem? (i := 15) rfl), inr48 _ (List.mem_of_getElem? (i := 16) rfl)⟩⟩, List.forall_mem_cons.mpr ⟨⟨_, rfl, inr49 _ (List.mem_of_getElem? (i := 1) rfl), inr1 _ (List.mem_of_getElem? (i := 2) rfl), ⟨inr49 _ (List.mem_of_getElem? (i := 2) rfl), inr49 _ (List.mem_of_getElem? (i := 3) rfl)⟩⟩, List.forall_mem_cons.mpr ⟨⟨_, rfl, inr50 _ (List.mem_of_getElem? (i := 12) rfl), inr1 _ (List.mem_of_getElem? (i := 2) rfl), ⟨inr50 _ (List.mem_of_getElem? (i := 13) rfl), inr50 _ (List.mem_of_getElem? (i := 14) rfl)⟩⟩, List.forall_mem_cons.mpr ⟨⟨_, rfl, inr51 _ (List.mem_of_getElem? (i := 21) rfl), inr1 _ (List.mem_of_getElem? (i := 2) rfl), ⟨inr51 _ (List.mem_of_getElem? (i := 22) rfl), inr51 _ (List.mem_of_getElem? (i := 23) rfl)⟩⟩, fun _ h => nomatch h⟩⟩⟩⟩⟩
set_option maxRecDepth 100000 in
theorem mt13_5_b : ∀ e ∈ mt13_5, okCB e := by unfold okCB; decide +kernel
theorem mt13_5_ok : ∀ e ∈ mt13_5, okC e := fun e h => by
  obtain ⟨q, h1, h2, h3, h4⟩ := mt13_5_a e h
  have b := mt13_5_b e h
  unfold okCB at b
  rw [h1] at b
  exact ⟨q, h1, h2, h3, Option.some.inj b, h4⟩
def mt13_6 : List (Nat × Nat × Nat × Nat × Nat) := [(13, 97, 0, 156, 1), (13, 100, 0, 157, 1), (13, 103, 0, 158, 2), (13, 106, 0, 159, 1), (13, 109, 0, 162, 2)]
set_option maxRecDepth 100000 in
theorem mt13_6_a : ∀ e ∈ mt13_6, okCA e := List.forall_mem_cons.mpr ⟨⟨_, rfl, inr53 _ (List.mem_of_getElem? (i := 1) rfl), inr1 _ (List.mem_of_getElem? (i := 2) rfl), ⟨inr53 _ (List.mem_of_getElem? (i := 2) rfl), inr53 _ (List.mem_of_getElem? (i := 3) rfl)⟩⟩, List.forall_mem_cons.mpr ⟨⟨_, rfl, inr53 _ (List.mem_of_getElem? (i := 12) rfl), inr1 _ (List.mem_of_getElem? (i := 2) rfl), ⟨inr53 _ (List.mem_of_getElem? (i := 13) rfl), inr53 _ (List.mem_of_getElem? (i := 14) rfl)⟩⟩, List.forall_mem_cons.mpr ⟨⟨_, rfl, inr53 _ (List.mem_of_getElem? (i := 23) rfl), inr1 _ (List.mem_of_getElem? (i := 2) rfl), ⟨inr54 _ (List.mem_of_getElem? (i := 0) rfl), inr54 _ (List.mem_of_getElem? (i := 1) rfl)⟩⟩, List.forall_mem_cons.mpr ⟨⟨_, rfl, inr54 _ (List.mem_of_getElem? (i := 11) rfl), inr1 _ (List.mem_of_getElem? (i := 2) rfl), ⟨inr54 _ (List.mem_of_getElem? (i := 12) rfl), inr54 _ (List.mem_of_getElem? (i := 13) rfl)⟩⟩, List.forall_mem_cons.mpr ⟨⟨_, rfl, inr54 _ (List.mem_of_getElem? (i := 22) rfl), inr1 _ (List.mem_of_getElem? (i := 2) rfl), ⟨inr54 _ (List.mem_of_getElem? (i := 23) rfl), inr55 _ (List.mem_of_getElem? (i := 0) rfl)⟩⟩, fun _ h => nomatch h⟩⟩⟩⟩⟩
set_option maxRecDepth 100000 in
theorem mt13_6_b : ∀ e ∈ mt13_6, okCB e := by unfold okCB; decide +kernel
theorem mt13_6_ok : ∀ e ∈ mt13_6, okC e := fun e h => by
  obtain ⟨q, h1, h2, h3, h4⟩ := mt13_6_a e h
  have b := mt13_6_b e h
  unfold okCB at b
  rw [h1] at b
  exact ⟨q, h1, h2, h3, Option.some.inj b, h4⟩
def mt13_7 : List (Nat × Nat × Nat × Nat × Nat) := [(13, 112, 0, 163, 3), (13, 115, 0, 166, 4), (13, 118, 0, 168, 4), (13, 124, 0, 171, 2), (13, 127, 0, 172, 3)]
set_option maxRecDepth 100000 in
theorem mt13_7_a : ∀ e ∈ mt13_7, okCA e := List.forall_mem_cons.mpr ⟨⟨_, rfl, inr58 _ (List.mem_of_getElem? (i := 13) rfl), inr1 _ (List.mem_of_getElem? (i := 2) rfl), ⟨inr58 _ (List.mem_of_getElem? (i := 14) rfl), inr58 _ (List.mem_of_getElem? (i := 15) rfl)⟩⟩, List.forall_mem_cons.mpr ⟨⟨_, rfl, inr59 _ (List.mem_of_getElem? (i := 4) rfl), inr1 _ (List.mem_of_getElem? (i := 2) rfl), ⟨inr59 _ (List.mem_of_getElem? (i := 5) rfl), inr59 _ (List.mem_of_getElem? (i := 6) rfl)⟩⟩, List.forall_mem_cons.mpr ⟨⟨_, rfl, inr59 _ (List.mem_of_getElem? (i := 17) rfl), inr1 _ (List.mem_of_getElem? (i := 2) rfl), ⟨inr59 _ (List.mem_of_getElem? (i := 18) rfl), inr59 _ (List.mem_of_getElem? (i := 19) rfl)⟩⟩, List.forall_mem_cons.mpr ⟨⟨_, rfl, inr63 _ (List.mem_of_getElem? (i := 5) rfl), inr1 _ (List.mem_of_getElem? (i := 2) rfl), ⟨inr63 _ (List.mem_of_getElem? (i := 6) rfl), inr63 _ (List.mem_of_getElem? (i := 7) rfl)⟩⟩, List.forall_mem_cons.mpr ⟨⟨_, rfl, inr64 _ (List.mem_of_getElem? (i := 23) rfl), inr1 _ (List.mem_of_getElem? (i := 2) rfl), ⟨inr65 _ (List.mem_of_getElem? (i := 0) rfl), inr65 _ (List.mem_of_getElem? (i := 1) rfl)⟩⟩, fun _ h => nomatch h⟩⟩⟩⟩⟩
set_option maxRecDepth 100000 in
theorem mt13_7_b : ∀ e ∈ mt13_7, okCB e := by unfold okCB; decide +kernel
theorem mt13_7_ok : ∀ e ∈ mt13_7, okC e := fun e h => by
  obtain ⟨q, h1, h2, h3, h4⟩ := mt13_7_a e h
  have b := mt13_7_b e h
  unfold okCB at b
  rw [h1] at b
  exact ⟨q, h1, h2, h3, Option.some.inj b, h4⟩
def mt13_8 : List (Nat × Nat × Nat × Nat × Nat) := [(13, 134, 2, 125, 0), (13, 137, 2, 180, 0), (13, 138, 0, 126, 5), (13, 141, 0, 216, 5), (13, 142, 0, 127, 1), (13, 130, 0, 173, 5)]
set_option maxRecDepth 100000 in
theorem mt13_8_a : ∀ e ∈ mt13_8, okCA e := List.forall_mem_cons.mpr ⟨⟨_, rfl, inr1 _ (List.mem_of_getElem? (i := 7) rfl), inr1 _ (List.mem_of_getElem? (i := 2) rfl), ⟨inr1 _ (List.mem_of_getElem? (i := 8) rfl), rfl⟩⟩, List.forall_mem_cons.mpr ⟨⟨_, rfl, inr7 _ (List.mem_of_getElem? (i := 1) rfl), inr1 _ (List.mem_of_getElem? (i := 5) rfl), ⟨inr7 _ (List.mem_of_getElem? (i := 2) rfl), rfl⟩⟩, List.forall_mem_cons.mpr ⟨⟨_, rfl, inr7 _ (List.mem_of_getElem? (i := 22) rfl), inr1 _ (List.mem_of_getElem? (i := 2) rfl), ⟨inr7 _ (List.mem_of_getElem? (i := 23) rfl), inr8 _ (List.mem_of_getElem? (i := 0) rfl)⟩⟩, List.forall_mem_cons.mpr ⟨⟨_, rfl, inr8 _ (List.mem_of_getElem? (i := 8) rfl), inr1 _ (List.mem_of_getElem? (i := 5) rfl), ⟨inr8 _ (List.mem_of_getElem? (i := 9) rfl), inr8 _ (List.mem_of_getElem? (i := 10) rfl)⟩⟩, List.forall_mem_cons.mpr ⟨⟨_, rfl, inr8 _ (List.mem_of_getElem? (i := 14) rfl), inr1 _ (List.mem_of_getElem? (i := 2) rfl), ⟨inr8 _ (List.mem_of_getElem? (i := 15) rfl), inr8 _ (List.mem_of_getElem? (i := 16) rfl)⟩⟩, List.forall_mem_cons.mpr ⟨⟨_, rfl, inr65 _ (List.mem_of_getElem? (i := 10) rfl), inr1 _ (List.mem_of_getElem? (i := 2) rfl), ⟨inr65 _ (List.mem_of_getElem? (i := 11) rfl), inr65 _ (List.mem_of_getElem? (i := 12) rfl)⟩⟩, fun _ h => nomatch h⟩⟩⟩⟩⟩⟩
set_option maxRecDepth 100000 in
theorem mt13_8_b : ∀ e ∈ mt13_8, okCB e := by unfold okCB; decide +kernel
theorem mt13_8_ok : ∀ e ∈ mt13_8, okC e := fun e h => by
  obtain ⟨q, h1, h2, h3, h4⟩ := mt13_8_a e h
  have b := mt13_8_b e h
  unfold okCB at b
  rw [h1] at b
  exact ⟨q, h1, h2, h3, Option.some.inj b, h4⟩
def mt13_9 : List (Nat × Nat × Nat × Nat × Nat) := [(13, 145, 0, 217, 1), (13, 146, 1, 316, 2), (13, 151, 0, 232, 1), (13, 152, 1, 317, 2), (13, 155, 0, 233, 0), (13, 156, 1, 318, 6), (13, 159, 0, 235, 4)]
set_option maxRecDepth 100000 in
theorem mt13_9_a : ∀ e ∈ mt13_9, okCA e := List.forall_mem_cons.mpr ⟨⟨_, rfl, inr8 _ (List.mem_of_getElem? (i := 18) rfl), inr1 _ (List.mem_of_getElem? (i := 5) rfl), ⟨inr8 _ (List.mem_of_getElem? (i := 19) rfl), inr8 _ (List.mem_of_getElem? (i := 20) rfl)⟩⟩, List.forall_mem_cons.mpr ⟨⟨_, rfl, inr8 _ (List.mem_of_getElem? (i := 22) rfl), inr9 _ (List.mem_of_getElem? (i := 0) rfl), inr8 _ (List.mem_of_getElem? (i := 23) rfl)⟩, List.forall_mem_cons.mpr ⟨⟨_, rfl, inr9 _ (List.mem_of_getElem? (i := 15) rfl), inr1 _ (List.mem_of_getElem? (i := 5) rfl), ⟨inr9 _ (List.mem_of_getElem? (i := 16) rfl), inr9 _ (List.mem_of_getElem? (i := 17) rfl)⟩⟩, List.forall_mem_cons.mpr ⟨⟨_, rfl, inr9 _ (List.mem_of_getElem? (i := 23) rfl), inr9 _ (List.mem_of_getElem? (i := 0) rfl), inr10 _ (List.mem_of_getElem? (i := 0) rfl)⟩, List.forall_mem_cons.mpr ⟨⟨_, rfl, inr12 _ (List.mem_of_getElem? (i := 4) rfl), inr1 _ (List.mem_of_getElem? (i := 5) rfl), ⟨inr12 _ (List.mem_of_getElem? (i := 5) rfl), inr12 _ (List.mem_of_getElem? (i := 6) rfl)⟩⟩, List.forall_mem_cons.mpr ⟨⟨_, rfl, inr13 _ (List.mem_of_getElem? (i := 8) rfl), inr9 _ (List.mem_of_getElem? (i := 0) rfl), inr13 _ (List.mem_of_getElem? (i := 9) rfl)⟩, List.forall_mem_cons.mpr ⟨⟨_, rfl, inr14 _ (List.mem_of_getElem? (i := 17) rfl), inr1 _ (List.mem_of_getElem? (i := 5) rfl), ⟨inr14 _ (List.mem_of_getElem? (i := 18) rfl), inr14 _ (List.mem_of_getElem? (i := 19) rfl)⟩⟩, fun _ h => nomatch h⟩⟩⟩⟩⟩⟩⟩
set_option maxRecDepth 100000 in
theorem mt13_9_b : ∀ e ∈ mt13_9, okCB e := by unfold okCB; decide +kernel
theorem mt13_9_ok : ∀ e ∈ mt13_9, okC e := fun e h => by
  obtain ⟨q, h1, h2, h3, h4⟩ := mt13_9_a e h
  have b := mt13_9_b e h
  unfold okCB at b
  rw [h1] at b
  exact ⟨q, h1, h2, h3, Option.some.inj b, h4⟩
def mt13_10 : List (Nat × Nat × Nat × Nat × Nat) := [(13, 160, 1, 319, 2), (13, 162, 0, 231, 0), (13, 163, 0, 132, 0), (13, 166, 0, 223, 0), (13, 167, 1, 320, 4), (13, 170, 0, 241, 2), (13, 171, 1, 321, 5), (13, 174, 0, 242, 3), (13, 175, 1, 322, 3)]
set_option maxRecDepth 100000 in
theorem mt13_10_a : ∀ e ∈ mt13_10, okCA e := List.forall_mem_cons.mpr ⟨⟨_, rfl, inr15 _ (List.mem_of_getElem? (i := 21) rfl), inr9 _ (List.mem_of_getElem? (i := 0) rfl), inr15 _ (List.mem_of_getElem? (i := 22) rfl)⟩, List.forall_mem_cons.mpr ⟨⟨_, rfl, inr19 _ (List.mem_of_getElem? (i := 12) rfl), inr1 _ (List.mem_of_getElem? (i := 5) rfl), ⟨inr19 _ (List.mem_of_getElem? (i := 13) rfl), inr19 _ (List.mem_of_getElem? (i := 14) rfl)⟩⟩, List.forall_mem_cons.mpr ⟨⟨_, rfl, inr21 _ (List.mem_of_getElem? (i := 16) rfl), inr1 _ (List.mem_of_getElem? (i := 2) rfl), ⟨inr21 _ (List.mem_of_getElem? (i := 17) rfl), inr21 _ (List.mem_of_getElem? (i := 18) rfl)⟩⟩, List.forall_mem_cons.mpr ⟨⟨_, rfl, inr21 _ (List.mem_of_getElem? (i := 20) rfl), inr1 _ (List.mem_of_getElem? (i := 5) rfl), ⟨inr21 _ (List.mem_of_getElem? (i := 21) rfl), inr21 _ (List.mem_of_getElem? (i := 22) rfl)⟩⟩, List.forall_mem_cons.mpr ⟨⟨_, rfl, inr22 _ (List.mem_of_getElem? (i := 0) rfl), inr9 _ (List.mem_of_getElem? (i := 0) rfl), inr22 _ (List.mem_of_getElem? (i := 1) rfl)⟩, List.forall_mem_cons.mpr ⟨⟨_, rfl, inr22 _ (List.mem_of_getElem? (i := 23) rfl), inr1 _ (List.mem_of_getElem? (i := 5) rfl), ⟨inr23 _ (List.mem_of_getElem? (i := 0) rfl), inr23 _ (List.mem_of_getElem? (i := 1) rfl)⟩⟩, List.forall_mem_cons.mpr ⟨⟨_, rfl, inr23 _ (List.mem_of_getElem? (i := 15) rfl), inr9 _ (List.mem_of_getElem? (i := 0) rfl), inr23 _ (List.mem_of_getElem? (i := 16) rfl)⟩, List.forall_mem_cons.mpr ⟨⟨_, rfl, inr24 _ (List.mem_of_getElem? (i := 4) rfl), inr1 _ (List.mem_of_getElem? (i := 5) rfl), ⟨inr24 _ (List.mem_of_getElem? (i := 5) rfl), inr24 _ (List.mem_of_getElem? (i := 6) rfl)⟩⟩, List.forall_mem_cons.mpr ⟨⟨_, rfl, inr25 _ (List.mem_of_getElem? (i := 8) rfl), inr9 _ (List.mem_of_getElem? (i := 0) rfl), inr25 _ (List.mem_of_getElem? (i := 9) rfl)⟩, fun _ h => nomatch h⟩⟩⟩⟩⟩⟩⟩⟩⟩
set_option maxRecDepth 100000 in
theorem mt13_10_b : ∀ e ∈ mt13_10, okCB e := by unfold okCB; decide +kernel
theorem mt13_10_ok : ∀ e ∈ mt13_10, okC e := fun e h => by
  obtain ⟨q, h1, h2, h3, h4⟩ := mt13_10_a e h
  have b := mt13_10_b e h
  unfold okCB at b
  rw [h1] at b
  exact ⟨q, h1, h2, h3, Option.some.inj b, h4⟩
def mt13_11 : List (Nat × Nat × Nat × Nat × Nat) := [(13, 178, 0, 240, 1), (13, 179, 1, 323, 4), (13, 181, 0, 244, 2), (13, 182, 0, 144, 0), (13, 185, 0, 246, 0), (13, 186, 0, 145, 0), (13, 189, 0, 247, 0), (13, 190, 1, 324, 5)]
set_option maxRecDepth 100000 in
theorem mt13_11_a : ∀ e ∈ mt13_11, okCA e := List.forall_mem_cons.mpr ⟨⟨_, rfl, inr26 _ (List.mem_of_getElem? (i := 0) rfl), inr1 _ (List.mem_of_getElem? (i := 5) rfl), ⟨inr26 _ (List.mem_of_getElem? (i := 1) rfl), inr26 _ (List.mem_of_getElem? (i := 2) rfl)⟩⟩, List.forall_mem_cons.mpr ⟨⟨_, rfl, inr26 _ (List.mem_of_getElem? (i := 16) rfl), inr9 _ (List.mem_of_getElem? (i := 0) rfl), inr26 _ (List.mem_of_getElem? (i := 17) rfl)⟩, List.forall_mem_cons.mpr ⟨⟨_, rfl, inr28 _ (List.mem_of_getElem? (i := 9) rfl), inr1 _ (List.mem_of_getElem? (i := 5) rfl), ⟨inr28 _ (List.mem_of_getElem? (i := 10) rfl), inr28 _ (List.mem_of_getElem? (i := 11) rfl)⟩⟩, List.forall_mem_cons.mpr ⟨⟨_, rfl, inr29 _ (List.mem_of_getElem? (i := 9) rfl), inr1 _ (List.mem_of_getElem? (i := 2) rfl), ⟨inr29 _ (List.mem_of_getElem? (i := 10) rfl), inr29 _ (List.mem_of_getElem? (i := 11) rfl)⟩⟩, List.forall_mem_cons.mpr ⟨⟨_, rfl, inr30 _ (List.mem_of_getElem? (i := 1) rfl), inr1 _ (List.mem_of_getElem? (i := 5) rfl), ⟨inr30 _ (List.mem_of_getElem? (i := 2) rfl), inr30 _ (List.mem_of_getElem? (i := 3) rfl)⟩⟩, List.forall_mem_cons.mpr ⟨⟨_, rfl, inr30 _ (List.mem_of_getElem? (i := 17) rfl), inr1 _ (List.mem_of_getElem? (i := 2) rfl), ⟨inr30 _ (List.mem_of_getElem? (i := 18) rfl), inr30 _ (List.mem_of_getElem? (i := 19) rfl)⟩⟩, List.forall_mem_cons.mpr ⟨⟨_, rfl, inr31 _ (List.mem_of_getElem? (i := 5) rfl), inr1 _ (List.mem_of_getElem? (i := 5) rfl), ⟨inr31 _ (List.mem_of_getElem? (i := 6) rfl), inr31 _ (List.mem_of_getElem? (i := 7) rfl)⟩⟩, List.forall_mem_cons.mpr ⟨⟨_, rfl, inr31 _ (List.mem_of_getElem? (i := 9) rfl), inr9 _ (List.mem_of_getElem? (i := 0) rfl), inr31 _ (List.mem_of_getElem? (i := 10) rfl)⟩, fun _ h => nomatch h⟩⟩⟩⟩⟩⟩⟩⟩
set_option maxRecDepth 100000 in
theorem mt13_11_b : ∀ e ∈ mt13_11, okCB e := by unfold okCB; decide +kernel
theorem mt13_11_ok : ∀ e ∈ mt13_11, okC e := fun e h => by
  obtain ⟨q, h1, h2, h3, h4⟩ := mt13_11_a e h
  have b := mt13_11_b e h
  unfold okCB at b
  rw [h1] at b
  exact ⟨q, h1, h2, h3, Option.some.inj b, h4⟩
def mt13_12 : List (Nat × Nat × Nat × Nat × Nat) := [(13, 192, 0, 253, 3), (13, 193, 1, 325, 4), (13, 196, 0, 255, 2), (13, 197, 1, 326, 5), (13, 199, 0, 256, 3), (13, 200, 1, 327, 5), (13, 202, 0, 257, 3), (13, 203, 1, 328, 5), (13, 205, 0, 259, 3), (13, 206, 1, 329, 5)]
set_option maxRecDepth 100000 in
theorem mt13_12_a : ∀ e ∈ mt13_12, okCA e := List.forall_mem_cons.mpr ⟨⟨_, rfl, inr33 _ (List.mem_of_getElem? (i := 22) rfl), inr1 _ (List.mem_of_getElem? (i := 5) rfl), ⟨inr33 _ (List.mem_of_getElem? (i := 23) rfl), inr34 _ (List.mem_of_getElem? (i := 0) rfl)⟩⟩, List.forall_mem_cons.mpr ⟨⟨_, rfl, inr36 _ (List.mem_of_getElem? (i := 1) rfl), inr9 _ (List.mem_of_getElem? (i := 0) rfl), inr36 _ (List.mem_of_getElem? (i := 2) rfl)⟩, List.forall_mem_cons.mpr ⟨⟨_, rfl, inr36 _ (List.mem_of_getElem? (i := 20) rfl), inr1 _ (List.mem_of_getElem? (i := 5) rfl), ⟨inr36 _ (List.mem_of_getElem? (i := 21) rfl), inr36 _ (List.mem_of_getElem? (i := 22) rfl)⟩⟩, List.forall_mem_cons.mpr ⟨⟨_, rfl, inr37 _ (List.mem_of_getElem? (i := 4) rfl), inr9 _ (List.mem_of_getElem? (i := 0) rfl), inr37 _ (List.mem_of_getElem? (i := 5) rfl)⟩, List.forall_mem_cons.mpr ⟨⟨_, rfl, inr37 _ (List.mem_of_getElem? (i := 16) rfl), inr1 _ (List.mem_of_getElem? (i := 5) rfl), ⟨inr37 _ (List.mem_of_getElem? (i := 17) rfl), inr37 _ (List.mem_of_getElem? (i := 18) rfl)⟩⟩, List.forall_mem_cons.mpr ⟨⟨_, rfl, inr37 _ (List.mem_of_getElem? (i := 20) rfl), inr9 _ (List.mem_of_getElem? (i := 0) rfl), inr37 _ (List.mem_of_getElem? (i := 21) rfl)⟩, List.forall_mem_cons.mpr ⟨⟨_, rfl, inr38 _ (List.mem_of_getElem? (i := 7) rfl), inr1 _ (List.mem_of_getElem? (i := 5) rfl), ⟨inr38 _ (List.mem_of_getElem? (i := 8) rfl), inr38 _ (List.mem_of_getElem? (i := 9) rfl)⟩⟩, List.forall_mem_cons.mpr ⟨⟨_, rfl, inr38 _ (List.mem_of_getElem? (i := 11) rfl), inr9 _ (List.mem_of_getElem? (i := 0) rfl), inr38 _ (List.mem_of_getElem? (i := 12) rfl)⟩, List.forall_mem_cons.mpr ⟨⟨_, rfl, inr39 _ (List.mem_of_getElem? (i := 5) rfl), inr1 _ (List.mem_of_getElem? (i := 5) rfl), ⟨inr39 _ (List.mem_of_getElem? (i := 6) rfl), inr39 _ (List.mem_of_getElem? (i := 7) rfl)⟩⟩, List.forall_mem_cons.mpr ⟨⟨_, rfl, inr39 _ (List.mem_of_getElem? (i := 13) rfl), inr9 _ (List.mem_of_getElem? (i := 0) rfl), inr39 _ (List.mem_of_getElem? (i := 14) rfl)⟩, fun _ h => nomatch h⟩⟩⟩⟩⟩⟩⟩⟩⟩⟩
set_option maxRecDepth 100000 in
theorem mt13_12_b : ∀ e ∈ mt13_12, okCB e := by unfold okCB; decide +kernel
theorem mt13_12_ok : ∀ e ∈ mt13_12, okC e := fun e h => by
  obtain ⟨q, h1, h2, h3, h4⟩ := mt13_12_a e h
  have b := mt13_12_b e h
  unfold okCB at b
  rw [h1] at b
  exact ⟨q, h1, h2, h3, Option.some.inj b, h4⟩
def mt13_13 : List (Nat × Nat × Nat × Nat × Nat) := [(13, 208, 0, 265, 3), (13, 209, 1, 330, 5), (13, 211, 0, 266, 3), (13, 212, 1, 331, 3), (13, 214, 0, 280, 1), (13, 215, 1, 332, 3), (13, 217, 0, 279, 1), (13, 218, 1, 333, 4), (13, 220, 0, 236, 2), (13, 221, 1, 334, 3), (13, 223, 0, 238, 1)]
set_option maxRecDepth 100000 in
theorem mt13_13_a : ∀ e ∈ mt13_13, okCA e := List.forall_mem_cons.mpr ⟨⟨_, rfl, inr41 _ (List.mem_of_getElem? (i := 16) rfl), inr1 _ (List.mem_of_getElem? (i := 5) rfl), ⟨inr41 _ (List.mem_of_getElem? (i := 17) rfl), inr41 _ (List.mem_of_getElem? (i := 18) rfl)⟩⟩, List.forall_mem_cons.mpr ⟨⟨_, rfl, inr42 _ (List.mem_of_getElem? (i := 19) rfl), inr9 _ (List.mem_of_getElem? (i := 0) rfl), inr42 _ (List.mem_of_getElem? (i := 20) rfl)⟩, List.forall_mem_cons.mpr ⟨⟨_, rfl, inr43 _ (List.mem_of_getElem? (i := 2) rfl), inr1 _ (List.mem_of_getElem? (i := 5) rfl), ⟨inr43 _ (List.mem_of_getElem? (i := 3) rfl), inr43 _ (List.mem_of_getElem? (i := 4) rfl)⟩⟩, List.forall_mem_cons.mpr ⟨⟨_, rfl, inr43 _ (List.mem_of_getElem? (i := 6) rfl), inr9 _ (List.mem_of_getElem? (i := 0) rfl), inr43 _ (List.mem_of_getElem? (i := 7) rfl)⟩, List.forall_mem_cons.mpr ⟨⟨_, rfl, inr45 _ (List.mem_of_getElem? (i := 20) rfl), inr1 _ (List.mem_of_getElem? (i := 5) rfl), ⟨inr45 _ (List.mem_of_getElem? (i := 21) rfl), inr45 _ (List.mem_of_getElem? (i := 22) rfl)⟩⟩, List.forall_mem_cons.mpr ⟨⟨_, rfl, inr46 _ (List.mem_of_getElem? (i := 16) rfl), inr9 _ (List.mem_of_getElem? (i := 0) rfl), inr46 _ (List.mem_of_getElem? (i := 17) rfl)⟩, List.forall_mem_cons.mpr ⟨⟨_, rfl, inr47 _ (List.mem_of_getElem? (i := 0) rfl), inr1 _ (List.mem_of_getElem? (i := 5) rfl), ⟨inr47 _ (List.mem_of_getElem? (i := 1) rfl), inr47 _ (List.mem_of_getElem? (i := 2) rfl)⟩⟩, List.forall_mem_cons.mpr ⟨⟨_, rfl, inr47 _ (List.mem_of_getElem? (i := 12) rfl), inr9 _ (List.mem_of_getElem? (i := 0) rfl), inr47 _ (List.mem_of_getElem? (i := 13) rfl)⟩, List.forall_mem_cons.mpr ⟨⟨_, rfl, inr47 _ (List.mem_of_getElem? (i := 19) rfl), inr1 _ (List.mem_of_getElem? (i := 5) rfl), ⟨inr47 _ (List.mem_of_getElem? (i := 20) rfl), inr47 _ (List.mem_of_getElem? (i := 21) rfl)⟩⟩, List.forall_mem_cons.mpr ⟨⟨_, rfl, inr47 _ (List.mem_of_getElem? (i := 23) rfl), inr9 _ (List.mem_of_getElem? (i := 0) rfl), inr48 _ (List.mem_of_getElem? (i := 0) rfl)⟩, List.forall_mem_cons.mpr ⟨⟨_, rfl, inr48 _ (List.mem_of_getElem? (i := 7) rfl), inr1 _ (List.mem_of_getElem? (i := 5) rfl), ⟨inr48 _ (List.mem_of_getElem? (i := 8) rfl), inr48 _ (List.mem_of_getElem? (i := 9) rfl)⟩⟩, fun _ h => nomatch h⟩⟩⟩⟩⟩⟩⟩⟩⟩⟩⟩
set_option maxRecDepth 100000 in
theorem mt13_13_b : ∀ e ∈ mt13_13, okCB e := by unfold okCB; decide +kernel
theorem mt13_13_ok : ∀ e ∈ mt13_13, okC e := fun e h => by
  obtain ⟨q, h1, h2, h3, h4⟩ := mt13_13_a e h
  have b := mt13_13_b e h
  unfold okCB at b
  rw [h1] at b
  exact ⟨q, h1, h2, h3, Option.some.inj b, h4⟩
def mt13_14 : List (Nat × Nat × Nat × Nat × Nat) := [(13, 224, 1, 335, 4), (13, 226, 0, 239, 2), (13, 227, 1, 336, 5), (13, 229, 0, 294, 3), (13, 230, 1, 337, 3), (13, 232, 0, 295, 1), (13, 233, 1, 338, 4), (13, 235, 0, 269, 2), (13, 236, 1, 339, 3), (13, 238, 0, 270, 1), (13, 239, 1, 340, 3)]
set_option maxRecDepth 100000 in
theorem mt13_14_a : ∀ e ∈ mt13_14, okCA e := List.forall_mem_cons.mpr ⟨⟨_, rfl, inr48 _ (List.mem_of_getElem? (i := 11) rfl), inr9 _ (List.mem_of_getElem? (i := 0) rfl), inr48 _ (List.mem_of_getElem? (i := 12) rfl)⟩, List.forall_mem_cons.mpr ⟨⟨_, rfl, inr48 _ (List.mem_of_getElem? (i := 18) rfl), inr1 _ (List.mem_of_getElem? (i := 5) rfl), ⟨inr48 _ (List.mem_of_getElem? (i := 19) rfl), inr48 _ (List.mem_of_getElem? (i := 20) rfl)⟩⟩, List.forall_mem_cons.mpr ⟨⟨_, rfl, inr48 _ (List.mem_of_getElem? (i := 22) rfl), inr9 _ (List.mem_of_getElem? (i := 0) rfl), inr48 _ (List.mem_of_getElem? (i := 23) rfl)⟩, List.forall_mem_cons.mpr ⟨⟨_, rfl, inr49 _ (List.mem_of_getElem? (i := 13) rfl), inr1 _ (List.mem_of_getElem? (i := 5) rfl), ⟨inr49 _ (List.mem_of_getElem? (i := 14) rfl), inr49 _ (List.mem_of_getElem? (i := 15) rfl)⟩⟩, List.forall_mem_cons.mpr ⟨⟨_, rfl, inr50 _ (List.mem_of_getElem? (i := 9) rfl), inr9 _ (List.mem_of_getElem? (i := 0) rfl), inr50 _ (List.mem_of_getElem? (i := 10) rfl)⟩, List.forall_mem_cons.mpr ⟨⟨_, rfl, inr51 _ (List.mem_of_getElem? (i := 9) rfl), inr1 _ (List.mem_of_getElem? (i := 5) rfl), ⟨inr51 _ (List.mem_of_getElem? (i := 10) rfl), inr51 _ (List.mem_of_getElem? (i := 11) rfl)⟩⟩, List.forall_mem_cons.mpr ⟨⟨_, rfl, inr51 _ (List.mem_of_getElem? (i := 18) rfl), inr9 _ (List.mem_of_getElem? (i := 0) rfl), inr51 _ (List.mem_of_getElem? (i := 19) rfl)⟩, List.forall_mem_cons.mpr ⟨⟨_, rfl, inr52 _ (List.mem_of_getElem? (i := 10) rfl), inr1 _ (List.mem_of_getElem? (i := 5) rfl), ⟨inr52 _ (List.mem_of_getElem? (i := 11) rfl), inr52 _ (List.mem_of_getElem? (i := 12) rfl)⟩⟩, List.forall_mem_cons.mpr ⟨⟨_, rfl, inr52 _ (List.mem_of_getElem? (i := 22) rfl), inr9 _ (List.mem_of_getElem? (i := 0) rfl), inr52 _ (List.mem_of_getElem? (i := 23) rfl)⟩, List.forall_mem_cons.mpr ⟨⟨_, rfl, inr53 _ (List.mem_of_getElem? (i := 5) rfl), inr1 _ (List.mem_of_getElem? (i := 5) rfl), ⟨inr53 _ (List.mem_of_getElem? (i := 6) rfl), inr53 _ (List.mem_of_getElem? (i := 7) rfl)⟩⟩, List.forall_mem_cons.mpr ⟨⟨_, rfl, inr53 _ (List.mem_of_getElem? (i := 9) rfl), inr9 _ (List.mem_of_getElem? (i := 0) rfl), inr53 _ (List.mem_of_getElem? (i := 10) rfl)⟩, fun _ h => nomatch h⟩⟩⟩⟩⟩⟩⟩⟩⟩⟩⟩
set_option maxRecDepth 100000 in
theorem mt13_14_b : ∀ e ∈ mt13_14, okCB e := by unfold okCB; decide +kernel
theorem mt13_14_ok : ∀ e ∈ mt13_14, okC e := fun e h => by
  obtain ⟨q, h1, h2, h3, h4⟩ := mt13_14_a e h
  have b := mt13_14_b e h
  unfold okCB at b
  rw [h1] at b
  exact ⟨q, h1, h2, h3, Option.some.inj b, h4⟩
def mt13_15 : List (Nat × Nat × Nat × Nat × Nat) := [(13, 241, 0, 271, 1), (13, 242, 1, 341, 4), (13, 244, 0, 275, 2), (13, 245, 1, 342, 3), (13, 247, 0, 278, 1), (13, 248, 1, 343, 4), (13, 250, 0, 287, 2), (13, 251, 1, 344, 5), (13, 253, 0, 292, 3), (13, 254, 0, 177, 0)]
set_option maxRecDepth 100000 in
theorem mt13_15_a : ∀ e ∈ mt13_15, okCA e := List.forall_mem_cons.mpr ⟨⟨_, rfl, inr53 _ (List.mem_of_getElem? (i := 16) rfl), inr1 _ (List.mem_of_getElem? (i := 5) rfl), ⟨inr53 _ (List.mem_of_getElem? (i := 17) rfl), inr53 _ (List.mem_of_getElem? (i := 18) rfl)⟩⟩, List.forall_mem_cons.mpr ⟨⟨_, rfl, inr53 _ (List.mem_of_getElem? (i := 20) rfl), inr9 _ (List.mem_of_getElem? (i := 0) rfl), inr53 _ (List.mem_of_getElem? (i := 21) rfl)⟩, List.forall_mem_cons.mpr ⟨⟨_, rfl, inr54 _ (List.mem_of_getElem? (i := 4) rfl), inr1 _ (List.mem_of_getElem? (i := 5) rfl), ⟨inr54 _ (List.mem_of_getElem? (i := 5) rfl), inr54 _ (List.mem_of_getElem? (i := 6) rfl)⟩⟩, List.forall_mem_cons.mpr ⟨⟨_, rfl, inr54 _ (List.mem_of_getElem? (i := 8) rfl), inr9 _ (List.mem_of_getElem? (i := 0) rfl), inr54 _ (List.mem_of_getElem? (i := 9) rfl)⟩, List.forall_mem_cons.mpr ⟨⟨_, rfl, inr54 _ (List.mem_of_getElem? (i := 15) rfl), inr1 _ (List.mem_of_getElem? (i := 5) rfl), ⟨inr54 _ (List.mem_of_getElem? (i := 16) rfl), inr54 _ (List.mem_of_getElem? (i := 17) rfl)⟩⟩, List.forall_mem_cons.mpr ⟨⟨_, rfl, inr54 _ (List.mem_of_getElem? (i := 19) rfl), inr9 _ (List.mem_of_getElem? (i := 0) rfl), inr54 _ (List.mem_of_getElem? (i := 20) rfl)⟩, List.forall_mem_cons.mpr ⟨⟨_, rfl, inr57 _ (List.mem_of_getElem? (i := 5) rfl), inr1 _ (List.mem_of_getElem? (i := 5) rfl), ⟨inr57 _ (List.mem_of_getElem? (i := 6) rfl), inr57 _ (List.mem_of_getElem? (i := 7) rfl)⟩⟩, List.forall_mem_cons.mpr ⟨⟨_, rfl, inr58 _ (List.mem_of_getElem? (i := 10) rfl), inr9 _ (List.mem_of_getElem? (i := 0) rfl), inr58 _ (List.mem_of_getElem? (i := 11) rfl)⟩, List.forall_mem_cons.mpr ⟨⟨_, rfl, inr58 _ (List.mem_of_getElem? (i := 17) rfl), inr1 _ (List.mem_of_getElem? (i := 5) rfl), ⟨inr58 _ (List.mem_of_getElem? (i := 18) rfl), inr58 _ (List.mem_of_getElem? (i := 19) rfl)⟩⟩, List.forall_mem_cons.mpr ⟨⟨_, rfl, inr58 _ (List.mem_of_getElem? (i := 21) rfl), inr1 _ (List.mem_of_getElem? (i := 5) rfl), ⟨inr58 _ (List.mem_of_getElem? (i := 22) rfl), inr58 _ (List.mem_of_getElem? (i := 23) rfl)⟩⟩, fun _ h => nomatch h⟩⟩⟩⟩⟩⟩⟩⟩⟩⟩
set_option maxRecDepth 100000 in
theorem mt13_15_b : ∀ e ∈ mt13_15, okCB e := by unfold okCB; decide +kernel
theorem mt13_15_ok : ∀ e ∈ mt13_15, okC e := fun e h => by
  obtain ⟨q, h1, h2, h3, h4⟩ := mt13_15_a e h
  have b := mt13_15_b e h
  unfold okCB at b
  rw [h1] at b
  exact ⟨q, h1, h2, h3, Option.some.inj b, h4⟩
def mt13_16 : List (Nat × Nat × Nat × Nat × Nat) := [(13, 257, 1, 345, 6), (13, 259, 0, 296, 4), (13, 260, 1, 346, 6), (13, 262, 0, 303, 4), (13, 263, 1, 347, 4), (13, 265, 0, 307, 2), (13, 266, 1, 348, 5), (13, 268, 0, 308, 3), (13, 269, 1, 349, 7)]
set_option maxRecDepth 100000 in
theorem mt13_16_a : ∀ e ∈ mt13_16, okCA e := List.forall_mem_cons.mpr ⟨⟨_, rfl, inr59 _ (List.mem_of_getElem? (i := 1) rfl), inr9 _ (List.mem_of_getElem? (i := 0) rfl), inr59 _ (List.mem_of_getElem? (i := 2) rfl)⟩, List.forall_mem_cons.mpr ⟨⟨_, rfl, inr59 _ (List.mem_of_getElem? (i := 9) rfl), inr1 _ (List.mem_of_getElem? (i := 5) rfl), ⟨inr59 _ (List.mem_of_getElem? (i := 10) rfl), inr59 _ (List.mem_of_getElem? (i := 11) rfl)⟩⟩, List.forall_mem_cons.mpr ⟨⟨_, rfl, inr59 _ (List.mem_of_getElem? (i := 13) rfl), inr9 _ (List.mem_of_getElem? (i := 0) rfl), inr59 _ (List.mem_of_getElem? (i := 14) rfl)⟩, List.forall_mem_cons.mpr ⟨⟨_, rfl, inr61 _ (List.mem_of_getElem? (i := 16) rfl), inr1 _ (List.mem_of_getElem? (i := 5) rfl), ⟨inr61 _ (List.mem_of_getElem? (i := 17) rfl), inr61 _ (List.mem_of_getElem? (i := 18) rfl)⟩⟩, List.forall_mem_cons.mpr ⟨⟨_, rfl, inr63 _ (List.mem_of_getElem? (i := 2) rfl), inr9 _ (List.mem_of_getElem? (i := 0) rfl), inr63 _ (List.mem_of_getElem? (i := 3) rfl)⟩, List.forall_mem_cons.mpr ⟨⟨_, rfl, inr64 _ (List.mem_of_getElem? (i := 1) rfl), inr1 _ (List.mem_of_getElem? (i := 5) rfl), ⟨inr64 _ (List.mem_of_getElem? (i := 2) rfl), inr64 _ (List.mem_of_getElem? (i := 3) rfl)⟩⟩, List.forall_mem_cons.mpr ⟨⟨_, rfl, inr64 _ (List.mem_of_getElem? (i := 20) rfl), inr9 _ (List.mem_of_getElem? (i := 0) rfl), inr64 _ (List.mem_of_getElem? (i := 21) rfl)⟩, List.forall_mem_cons.mpr ⟨⟨_, rfl, inr65 _ (List.mem_of_getElem? (i := 3) rfl), inr1 _ (List.mem_of_getElem? (i := 5) rfl), ⟨inr65 _ (List.mem_of_getElem? (i := 4) rfl), inr65 _ (List.mem_of_getElem? (i := 5) rfl)⟩⟩, List.forall_mem_cons.mpr ⟨⟨_, rfl, inr65 _ (List.mem_of_getElem? (i := 7) rfl), inr9 _ (List.mem_of_getElem? (i := 0) rfl), inr65 _ (List.mem_of_getElem? (i := 8) rfl)⟩, fun _ h => nomatch h⟩⟩⟩⟩⟩⟩⟩⟩⟩
set_option maxRecDepth 100000 in
theorem mt13_16_b : ∀ e ∈ mt13_16, okCB e := by unfold okCB; decide +kernel
theorem mt13_16_ok : ∀ e ∈ mt13_16, okC e := fun e h => by
  obtain ⟨q, h1, h2, h3, h4⟩ := mt13_16_a e h
  have b := mt13_16_b e h
  unfold okCB at b
  rw [h1] at b
  exact ⟨q, h1, h2, h3, Option.some.inj b, h4⟩
def mt13_17 : List (Nat × Nat × Nat × Nat × Nat) := [(13, 272, 0, 312, 5), (13, 273, 0, 174, 0), (13, 276, 0, 181, 0), (13, 277, 0, 175, 0), (13, 281, 0, 182, 0), (13, 282, 0, 176, 1), (13, 285, 0, 313, 1)]
set_option maxRecDepth 100000 in
theorem mt13_17_a : ∀ e ∈ mt13_17, okCA e := List.forall_mem_cons.mpr ⟨⟨_, rfl, inr66 _ (List.mem_of_getElem? (i := 16) rfl), inr1 _ (List.mem_of_getElem? (i := 5) rfl), ⟨inr66 _ (List.mem_of_getElem? (i := 17) rfl), inr66 _ (List.mem_of_getElem? (i := 18) rfl)⟩⟩, List.forall_mem_cons.mpr ⟨⟨_, rfl, inr67 _ (List.mem_of_getElem? (i := 14) rfl), inr1 _ (List.mem_of_getElem? (i := 2) rfl), ⟨inr67 _ (List.mem_of_getElem? (i := 15) rfl), inr67 _ (List.mem_of_getElem? (i := 16) rfl)⟩⟩, List.forall_mem_cons.mpr ⟨⟨_, rfl, inr68 _ (List.mem_of_getElem? (i := 9) rfl), inr1 _ (List.mem_of_getElem? (i := 5) rfl), ⟨inr68 _ (List.mem_of_getElem? (i := 10) rfl), inr68 _ (List.mem_of_getElem? (i := 11) rfl)⟩⟩, List.forall_mem_cons.mpr ⟨⟨_, rfl, inr68 _ (List.mem_of_getElem? (i := 14) rfl), inr1 _ (List.mem_of_getElem? (i := 2) rfl), ⟨inr68 _ (List.mem_of_getElem? (i := 15) rfl), inr68 _ (List.mem_of_getElem? (i := 16) rfl)⟩⟩, List.forall_mem_cons.mpr ⟨⟨_, rfl, inr68 _ (List.mem_of_getElem? (i := 18) rfl), inr1 _ (List.mem_of_getElem? (i := 5) rfl), ⟨inr68 _ (List.mem_of_getElem? (i := 19) rfl), inr68 _ (List.mem_of_getElem? (i := 20) rfl)⟩⟩, List.forall_mem_cons.mpr ⟨⟨_, rfl, inr68 _ (List.mem_of_getElem? (i := 22) rfl), inr1 _ (List.mem_of_getElem? (i := 2) rfl), ⟨inr68 _ (List.mem_of_getElem? (i := 23) rfl), inr69 _ (List.mem_of_getElem? (i := 0) rfl)⟩⟩, List.forall_mem_cons.mpr ⟨⟨_, rfl, inr69 _ (List.mem_of_getElem? (i := 9) rfl), inr1 _ (List.mem_of_getElem? (i := 5) rfl), ⟨inr69 _ (List.mem_of_getElem? (i := 10) rfl), inr69 _ (List.mem_of_getElem? (i := 11) rfl)⟩⟩, fun _ h => nomatch h⟩⟩⟩⟩⟩⟩⟩
set_option maxRecDepth 100000 in
theorem mt13_17_b : ∀ e ∈ mt13_17, okCB e := by unfold okCB; decide +kernel
theorem mt13_17_ok : ∀ e ∈ mt13_17, okC e := fun e h => by
  obtain ⟨q, h1, h2, h3, h4⟩ := mt13_17_a e h
  have b := mt13_17_b e h
  unfold okCB at b
  rw [h1] at b
  exact ⟨q, h1, h2, h3, Option.some.inj b, h4⟩
def mt13L : List (List (Nat × Nat × Nat × Nat × Nat)) := [mt13_0, mt13_1, mt13_2, mt13_3, mt13_4, mt13_5, mt13_6, mt13_7, mt13_8, mt13_9, mt13_10, mt13_11, mt13_12, mt13_13, mt13_14, mt13_15, mt13_16, mt13_17]
theorem mt13L_ok : ∀ B ∈ mt13L, ∀ e ∈ B, okC e := List.forall_mem_cons.mpr ⟨mt13_0_ok, List.forall_mem_cons.mpr ⟨mt13_1_ok, List.forall_mem_cons.mpr ⟨mt13_2_ok, List.forall_mem_cons.mpr ⟨mt13_3_ok, List.forall_mem_cons.mpr ⟨mt13_4_ok, List.forall_mem_cons.mpr ⟨mt13_5_ok, List.forall_mem_cons.mpr ⟨mt13_6_ok, List.forall_mem_cons.mpr ⟨mt13_7_ok, List.forall_mem_cons.mpr ⟨mt13_8_ok, List.forall_mem_cons.mpr ⟨mt13_9_ok, List.forall_mem_cons.mpr ⟨mt13_10_ok, List.forall_mem_cons.mpr ⟨mt13_11_ok, List.forall_mem_cons.mpr ⟨mt13_12_ok, List.forall_mem_cons.mpr ⟨mt13_13_ok, List.forall_mem_cons.mpr ⟨mt13_14_ok, List.forall_mem_cons.mpr ⟨mt13_15_ok, List.forall_mem_cons.mpr ⟨mt13_16_ok, List.forall_mem_cons.mpr ⟨mt13_17_ok, fun _ h => nomatch h⟩⟩⟩⟩⟩⟩⟩⟩⟩⟩⟩⟩⟩⟩⟩⟩⟩⟩
def mtG : List (List (List (Nat × Nat × Nat × Nat × Nat))) := [mt0L, mt1L, mt2L, mt3L, mt4L, mt5L, mt6L, mt7L, mt8L, [], mt10L, mt11L, mt12L, mt13L, [], [], [], [], [], [], [], [], [], [], [], [], [], [], [], []]
theorem mtG_ok : ∀ G ∈ mtG, ∀ B ∈ G, ∀ e ∈ B, okC e := List.forall_mem_cons.mpr ⟨mt0L_ok, List.forall_mem_cons.mpr ⟨mt1L_ok, List.forall_mem_cons.mpr ⟨mt2L_ok, List.forall_mem_cons.mpr ⟨mt3L_ok, List.forall_mem_cons.mpr ⟨mt4L_ok, List.forall_mem_cons.mpr ⟨mt5L_ok, List.forall_mem_cons.mpr ⟨mt6L_ok, List.forall_mem_cons.mpr ⟨mt7L_ok, List.forall_mem_cons.mpr ⟨mt8L_ok, List.forall_mem_cons.mpr ⟨(fun _ h => nomatch h), List.forall_mem_cons.mpr ⟨mt10L_ok, List.forall_mem_cons.mpr ⟨mt11L_ok, List.forall_mem_cons.mpr ⟨mt12L_ok, List.forall_mem_cons.mpr ⟨mt13L_ok, List.forall_mem_cons.mpr ⟨(fun _ h => nomatch h), List.forall_mem_cons.mpr ⟨(fun _ h => nomatch h), List.forall_mem_cons.mpr ⟨(fun _ h => nomatch h), List.forall_mem_cons.mpr ⟨(fun _ h => nomatch h), List.forall_mem_cons.mpr ⟨(fun _ h => nomatch h), List.forall_mem_cons.mpr ⟨(fun _ h => nomatch h), List.forall_mem_cons.mpr ⟨(fun _ h => nomatch h), List.forall_mem_cons.mpr ⟨(fun _ h => nomatch h), List.forall_mem_cons.mpr ⟨(fun _ h => nomatch h), List.forall_mem_cons.mpr ⟨(fun _ h => nomatch h), List.forall_mem_cons.mpr ⟨(fun _ h => nomatch h), List.forall_mem_cons.mpr ⟨(fun _ h => nomatch h), List.forall_mem_cons.mpr ⟨(fun _ h => nomatch h), List.forall_mem_cons.mpr ⟨(fun _ h => nomatch h), List.forall_mem_cons.mpr ⟨(fun _ h => nomatch h), List.forall_mem_cons.mpr ⟨(fun _ h => nomatch h), fun _ h => nomatch h⟩⟩⟩⟩⟩⟩⟩⟩⟩⟩⟩⟩⟩⟩⟩⟩⟩⟩⟩⟩⟩⟩⟩⟩⟩⟩⟩⟩⟩⟩
def okO (e : Nat × Nat) : Prop := Cond.methodLink (P_ow e.1) e.2 objectInit ∈ wsL_law
def oi0 : List (Nat × Nat) := [(11, 3), (4, 3), (7, 3), (8, 3), (2, 3), (9, 1), (0, 3), (1, 3), (5, 3), (6, 3), (3, 3), (10, 3), (12, 7)]
set_option maxRecDepth 100000 in
theorem oi0_ok : ∀ e ∈ oi0, okO e := List.forall_mem_cons.mpr ⟨inr1 _ (List.mem_of_getElem? (i := 10) rfl), List.forall_mem_cons.mpr ⟨inr3 _ (List.mem_of_getElem? (i := 7) rfl), List.forall_mem_cons.mpr ⟨inr3 _ (List.mem_of_getElem? (i := 16) rfl), List.forall_mem_cons.mpr ⟨inr3 _ (List.mem_of_getElem? (i := 22) rfl), List.forall_mem_cons.mpr ⟨inr4 _ (List.mem_of_getElem? (i := 16) rfl), List.forall_mem_cons.mpr ⟨inr4 _ (List.mem_of_getElem? (i := 20) rfl), List.forall_mem_cons.mpr ⟨inr5 _ (List.mem_of_getElem? (i := 0) rfl), List.forall_mem_cons.mpr ⟨inr5 _ (List.mem_of_getElem? (i := 8) rfl), List.forall_mem_cons.mpr ⟨inr5 _ (List.mem_of_getElem? (i := 19) rfl), List.forall_mem_cons.mpr ⟨inr6 _ (List.mem_of_getElem? (i := 7) rfl), List.forall_mem_cons.mpr ⟨inr6 _ (List.mem_of_getElem? (i := 16) rfl), List.forall_mem_cons.mpr ⟨inr7 _ (List.mem_of_getElem? (i := 0) rfl), List.forall_mem_cons.mpr ⟨inr7 _ (List.mem_of_getElem? (i := 4) rfl), fun _ h => nomatch h⟩⟩⟩⟩⟩⟩⟩⟩⟩⟩⟩⟩⟩
def oiL : List (Nat × Nat) := oi0
theorem oiL_ok : ∀ e ∈ oiL, okO e := oi0_ok
def okN (e : Nat × Nat × Nat) : Prop := ∃ C T N, vwCl[e.2.2]? = some (C, T, N) ∧ Cond.classLink (P_ow e.1) e.2.1 C ∈ wsL_law ∧ Cond.instantiable C N ∈ wsL_law ∧ Cond.initialized C ∈ wsL_law
def nw0 : List (Nat × Nat × Nat) := [(13, 8, 11), (13, 135, 12), (11, 9, 4), (11, 16, 8), (11, 30, 0), (11, 39, 1), (11, 48, 5), (11, 57, 6), (11, 64, 3), (11, 71, 10), (11, 78, 2), (4, 9, 7), (8, 32, 9), (8, 38, 7), (2, 10, 2), (0, 9, 2), (1, 10, 2)]
set_option maxRecDepth 100000 in
theorem nw0_ok : ∀ e ∈ nw0, okN e := List.forall_mem_cons.mpr ⟨⟨_, _, _, rfl, inr1 _ (List.mem_of_getElem? (i := 0) rfl), inr1 _ (List.mem_of_getElem? (i := 1) rfl), inr1 _ (List.mem_of_getElem? (i := 2) rfl)⟩, List.forall_mem_cons.mpr ⟨⟨_, _, _, rfl, inr1 _ (List.mem_of_getElem? (i := 3) rfl), inr1 _ (List.mem_of_getElem? (i := 4) rfl), inr1 _ (List.mem_of_getElem? (i := 5) rfl)⟩, List.forall_mem_cons.mpr ⟨⟨_, _, _, rfl, inr1 _ (List.mem_of_getElem? (i := 13) rfl), inr1 _ (List.mem_of_getElem? (i := 14) rfl), inr1 _ (List.mem_of_getElem? (i := 15) rfl)⟩, List.forall_mem_cons.mpr ⟨⟨_, _, _, rfl, inr1 _ (List.mem_of_getElem? (i := 17) rfl), inr1 _ (List.mem_of_getElem? (i := 18) rfl), inr1 _ (List.mem_of_getElem? (i := 19) rfl)⟩, List.forall_mem_cons.mpr ⟨⟨_, _, _, rfl, inr1 _ (List.mem_of_getElem? (i := 23) rfl), inr2 _ (List.mem_of_getElem? (i := 0) rfl), inr2 _ (List.mem_of_getElem? (i := 1) rfl)⟩, List.forall_mem_cons.mpr ⟨⟨_, _, _, rfl, inr2 _ (List.mem_of_getElem? (i := 3) rfl), inr2 _ (List.mem_of_getElem? (i := 4) rfl), inr2 _ (List.mem_of_getElem? (i := 5) rfl)⟩, List.forall_mem_cons.mpr ⟨⟨_, _, _, rfl, inr2 _ (List.mem_of_getElem? (i := 7) rfl), inr2 _ (List.mem_of_getElem? (i := 8) rfl), inr2 _ (List.mem_of_getElem? (i := 9) rfl)⟩, List.forall_mem_cons.mpr ⟨⟨_, _, _, rfl, inr2 _ (List.mem_of_getElem? (i := 11) rfl), inr2 _ (List.mem_of_getElem? (i := 12) rfl), inr2 _ (List.mem_of_getElem? (i := 13) rfl)⟩, List.forall_mem_cons.mpr ⟨⟨_, _, _, rfl, inr2 _ (List.mem_of_getElem? (i := 15) rfl), inr2 _ (List.mem_of_getElem? (i := 16) rfl), inr2 _ (List.mem_of_getElem? (i := 17) rfl)⟩, List.forall_mem_cons.mpr ⟨⟨_, _, _, rfl, inr2 _ (List.mem_of_getElem? (i := 19) rfl), inr2 _ (List.mem_of_getElem? (i := 20) rfl), inr2 _ (List.mem_of_getElem? (i := 21) rfl)⟩, List.forall_mem_cons.mpr ⟨⟨_, _, _, rfl, inr2 _ (List.mem_of_getElem? (i := 23) rfl), inr3 _ (List.mem_of_getElem? (i := 0) rfl), inr3 _ (List.mem_of_getElem? (i := 1) rfl)⟩, List.forall_mem_cons.mpr ⟨⟨_, _, _, rfl, inr3 _ (List.mem_of_getElem? (i := 8) rfl), inr3 _ (List.mem_of_getElem? (i := 9) rfl), inr3 _ (List.mem_of_getElem? (i := 10) rfl)⟩, List.forall_mem_cons.mpr ⟨⟨_, _, _, rfl, inr4 _ (List.mem_of_getElem? (i := 3) rfl), inr4 _ (List.mem_of_getElem? (i := 7) rfl), inr4 _ (List.mem_of_getElem? (i := 8) rfl)⟩, List.forall_mem_cons.mpr ⟨⟨_, _, _, rfl, inr4 _ (List.mem_of_getElem? (i := 5) rfl), inr3 _ (List.mem_of_getElem? (i := 9) rfl), inr3 _ (List.mem_of_getElem? (i := 10) rfl)⟩, List.forall_mem_cons.mpr ⟨⟨_, _, _, rfl, inr4 _ (List.mem_of_getElem? (i := 12) rfl), inr3 _ (List.mem_of_getElem? (i := 0) rfl), inr3 _ (List.mem_of_getElem? (i := 1) rfl)⟩, List.forall_mem_cons.mpr ⟨⟨_, _, _, rfl, inr5 _ (List.mem_of_getElem? (i := 1) rfl), inr3 _ (List.mem_of_getElem? (i := 0) rfl), inr3 _ (List.mem_of_getElem? (i := 1) rfl)⟩, List.forall_mem_cons.mpr ⟨⟨_, _, _, rfl, inr5 _ (List.mem_of_getElem? (i := 11) rfl), inr3 _ (List.mem_of_getElem? (i := 0) rfl), inr3 _ (List.mem_of_getElem? (i := 1) rfl)⟩, fun _ h => nomatch h⟩⟩⟩⟩⟩⟩⟩⟩⟩⟩⟩⟩⟩⟩⟩⟩⟩
def nwL : List (Nat × Nat × Nat) := nw0
theorem nwL_ok : ∀ e ∈ nwL, okN e := nw0_ok
def P_ex : Nat → String := fun e => match e with
  | 0 => "java/lang/IllegalArgumentException"
  | 1 => "java/lang/IllegalStateException"
  | 2 => "java/lang/UnsupportedOperationException"
  | 3 => "java/lang/IndexOutOfBoundsException"
  | 4 => "java/util/NoSuchElementException"
  | _ => ""
def P_ng (e : Nat) : List Cond := [Cond.declares (Bundle.init0 "java/lang/RuntimeException"), Cond.declares (Bundle.init0 "java/lang/Exception"), Cond.declares (Bundle.init0 Bundle.tN), Cond.castable (P_ex e) (P_ex e)]
abbrev P_sup : List String := ["java/lang/RuntimeException", "java/lang/Exception"]
def okX (e : Nat × Nat × Nat × Nat) : Prop := Cond.classLink (P_ow e.1) e.2.1 (P_ex e.2.2.2) ∈ wsL_law ∧ Cond.initialized (P_ex e.2.2.2) ∈ wsL_law ∧ Bundle.fit (P_ex e.2.2.2) = true ∧ (∀ w ∈ (vx_at0 (P_ow e.1) e.2.2.1 (P_ex e.2.2.2) P_sup).filter goodWord, w ∈ wsL_law) ∧ (∀ w ∈ (vx_at0 (P_ow e.1) e.2.2.1 (P_ex e.2.2.2) P_sup).filter (fun w => !goodWord w), w ∈ P_ng e.2.2.2) ∧ e.2.2.2 < 5 ∧ (∀ w ∈ Cond.classLink (P_ow e.1) e.2.1 (P_ex e.2.2.2) :: Cond.initialized (P_ex e.2.2.2) :: vx_at0 (P_ow e.1) e.2.2.1 (P_ex e.2.2.2) P_sup, vx_ot w = true) ∧ (∀ n ∈ P_sup, Bundle.fit n = true)
def ex0 : List (Nat × Nat × Nat × Nat) := [(11, 98, 100, 0), (11, 107, 109, 1), (11, 121, 123, 2), (11, 178, 180, 3), (11, 341, 343, 4)]
set_option maxRecDepth 100000 in
theorem ex0_ok : ∀ e ∈ ex0, okX e := List.forall_mem_cons.mpr ⟨⟨inr9 _ (List.mem_of_getElem? (i := 8) rfl), inr9 _ (List.mem_of_getElem? (i := 9) rfl), by decide +kernel, fun _ h => List.mem_append_left _ (List.mem_append_left _ (List.mem_append_left _ (List.mem_append_left _ (List.mem_append_right _ h)))), by decide +kernel, Nat.le_of_ble_eq_true rfl, by decide +kernel, by decide +kernel⟩, List.forall_mem_cons.mpr ⟨⟨inr9 _ (List.mem_of_getElem? (i := 10) rfl), inr9 _ (List.mem_of_getElem? (i := 11) rfl), by decide +kernel, fun _ h => List.mem_append_left _ (List.mem_append_left _ (List.mem_append_left _ (List.mem_append_right _ h))), by decide +kernel, Nat.le_of_ble_eq_true rfl, by decide +kernel, by decide +kernel⟩, List.forall_mem_cons.mpr ⟨⟨inr10 _ (List.mem_of_getElem? (i := 7) rfl), inr10 _ (List.mem_of_getElem? (i := 8) rfl), by decide +kernel, fun _ h => List.mem_append_left _ (List.mem_append_left _ (List.mem_append_right _ h)), by decide +kernel, Nat.le_of_ble_eq_true rfl, by decide +kernel, by decide +kernel⟩, List.forall_mem_cons.mpr ⟨⟨inr22 _ (List.mem_of_getElem? (i := 12) rfl), inr22 _ (List.mem_of_getElem? (i := 13) rfl), by decide +kernel, fun _ h => List.mem_append_left _ (List.mem_append_right _ h), by decide +kernel, Nat.le_of_ble_eq_true rfl, by decide +kernel, by decide +kernel⟩, List.forall_mem_cons.mpr ⟨⟨inr59 _ (List.mem_of_getElem? (i := 21) rfl), inr59 _ (List.mem_of_getElem? (i := 22) rfl), by decide +kernel, fun _ h => List.mem_append_right _ h, by decide +kernel, Nat.le_of_ble_eq_true rfl, by decide +kernel, by decide +kernel⟩, fun _ h => nomatch h⟩⟩⟩⟩⟩
def exL : List (Nat × Nat × Nat × Nat) := ex0
theorem exL_ok : ∀ e ∈ exL, okX e := ex0_ok
def okXC (e : Nat × Nat × Nat) : Prop := Cond.classLink (P_ow e.1) e.2.1 (P_ex e.2.2) ∈ wsL_law ∧ e.2.2 < 5 ∧ e.2.1 ≠ 0
def xc0 : List (Nat × Nat × Nat) := [(13, 13, 0), (13, 15, 1), (13, 21, 2), (13, 34, 3), (13, 122, 4)]
set_option maxRecDepth 100000 in
theorem xc0_ok : ∀ e ∈ xc0, okXC e := List.forall_mem_cons.mpr ⟨⟨inr9 _ (List.mem_of_getElem? (i := 2) rfl), Nat.le_of_ble_eq_true rfl, by decide⟩, List.forall_mem_cons.mpr ⟨⟨inr9 _ (List.mem_of_getElem? (i := 3) rfl), Nat.le_of_ble_eq_true rfl, by decide⟩, List.forall_mem_cons.mpr ⟨⟨inr10 _ (List.mem_of_getElem? (i := 2) rfl), Nat.le_of_ble_eq_true rfl, by decide⟩, List.forall_mem_cons.mpr ⟨⟨inr22 _ (List.mem_of_getElem? (i := 3) rfl), Nat.le_of_ble_eq_true rfl, by decide⟩, List.forall_mem_cons.mpr ⟨⟨inr59 _ (List.mem_of_getElem? (i := 16) rfl), Nat.le_of_ble_eq_true rfl, by decide⟩, fun _ h => nomatch h⟩⟩⟩⟩⟩
def xcL : List (Nat × Nat × Nat) := xc0
theorem xcL_ok : ∀ e ∈ xcL, okXC e := xc0_ok
def okK (e : Nat × Nat × Int32) : Prop := Cond.constant (P_ow e.1) e.2.1 e.2.2 ∈ wsL_law
def kc0 : List (Nat × Nat × Int32) := [(5, 84, (1103515245)), (26, 265, (1431655765)), (26, 266, (858993459)), (26, 267, (252645135)), (12, 293, (1103515245)), (10, 36, (1000000))]
set_option maxRecDepth 100000 in
theorem kc0_ok : ∀ e ∈ kc0, okK e := List.forall_mem_cons.mpr ⟨inr40 _ (List.mem_of_getElem? (i := 7) rfl), List.forall_mem_cons.mpr ⟨inr41 _ (List.mem_of_getElem? (i := 13) rfl), List.forall_mem_cons.mpr ⟨inr41 _ (List.mem_of_getElem? (i := 14) rfl), List.forall_mem_cons.mpr ⟨inr41 _ (List.mem_of_getElem? (i := 15) rfl), List.forall_mem_cons.mpr ⟨inr42 _ (List.mem_of_getElem? (i := 4) rfl), List.forall_mem_cons.mpr ⟨inr60 _ (List.mem_of_getElem? (i := 14) rfl), fun _ h => nomatch h⟩⟩⟩⟩⟩⟩
def kcL : List (Nat × Nat × Int32) := kc0
theorem kcL_ok : ∀ e ∈ kcL, okK e := kc0_ok
def okKL (e : Nat × Nat × Int64) : Prop := Cond.constantLong (P_ow e.1) e.2.1 e.2.2 ∈ wsL_law
def kl0 : List (Nat × Nat × Int64) := [(10, 47, (2)), (10, 59, (-1)), (12, 414, (4)), (12, 400, (2)), (12, 409, (-1)), (10, 69, (18)), (10, 71, (4)), (10, 73, (27)), (10, 75, (3)), (10, 81, (8)), (10, 83, (64)), (10, 85, (16)), (10, 91, (12)), (10, 93, (256)), (10, 95, (192)), (10, 97, (128)), (10, 99, (144)), (10, 101, (6)), (10, 103, (80)), (12, 447, (18)), (12, 449, (27)), (12, 451, (3)), (12, 453, (12)), (12, 455, (9)), (12, 457, (72)), (12, 459, (8)), (12, 461, (64)), (12, 463, (16))]
set_option maxRecDepth 100000 in
theorem kl0_ok : ∀ e ∈ kl0, okKL e := List.forall_mem_cons.mpr ⟨inr60 _ (List.mem_of_getElem? (i := 23) rfl), List.forall_mem_cons.mpr ⟨inr61 _ (List.mem_of_getElem? (i := 11) rfl), List.forall_mem_cons.mpr ⟨inr61 _ (List.mem_of_getElem? (i := 23) rfl), List.forall_mem_cons.mpr ⟨inr62 _ (List.mem_of_getElem? (i := 8) rfl), List.forall_mem_cons.mpr ⟨inr62 _ (List.mem_of_getElem? (i := 9) rfl), List.forall_mem_cons.mpr ⟨inr65 _ (List.mem_of_getElem? (i := 17) rfl), List.forall_mem_cons.mpr ⟨inr65 _ (List.mem_of_getElem? (i := 18) rfl), List.forall_mem_cons.mpr ⟨inr65 _ (List.mem_of_getElem? (i := 19) rfl), List.forall_mem_cons.mpr ⟨inr65 _ (List.mem_of_getElem? (i := 20) rfl), List.forall_mem_cons.mpr ⟨inr66 _ (List.mem_of_getElem? (i := 0) rfl), List.forall_mem_cons.mpr ⟨inr66 _ (List.mem_of_getElem? (i := 1) rfl), List.forall_mem_cons.mpr ⟨inr66 _ (List.mem_of_getElem? (i := 2) rfl), List.forall_mem_cons.mpr ⟨inr66 _ (List.mem_of_getElem? (i := 3) rfl), List.forall_mem_cons.mpr ⟨inr66 _ (List.mem_of_getElem? (i := 7) rfl), List.forall_mem_cons.mpr ⟨inr66 _ (List.mem_of_getElem? (i := 8) rfl), List.forall_mem_cons.mpr ⟨inr66 _ (List.mem_of_getElem? (i := 9) rfl), List.forall_mem_cons.mpr ⟨inr66 _ (List.mem_of_getElem? (i := 10) rfl), List.forall_mem_cons.mpr ⟨inr66 _ (List.mem_of_getElem? (i := 11) rfl), List.forall_mem_cons.mpr ⟨inr66 _ (List.mem_of_getElem? (i := 12) rfl), List.forall_mem_cons.mpr ⟨inr67 _ (List.mem_of_getElem? (i := 2) rfl), List.forall_mem_cons.mpr ⟨inr67 _ (List.mem_of_getElem? (i := 3) rfl), List.forall_mem_cons.mpr ⟨inr67 _ (List.mem_of_getElem? (i := 4) rfl), List.forall_mem_cons.mpr ⟨inr67 _ (List.mem_of_getElem? (i := 8) rfl), List.forall_mem_cons.mpr ⟨inr67 _ (List.mem_of_getElem? (i := 9) rfl), List.forall_mem_cons.mpr ⟨inr67 _ (List.mem_of_getElem? (i := 10) rfl), List.forall_mem_cons.mpr ⟨inr67 _ (List.mem_of_getElem? (i := 11) rfl), List.forall_mem_cons.mpr ⟨inr67 _ (List.mem_of_getElem? (i := 12) rfl), List.forall_mem_cons.mpr ⟨inr67 _ (List.mem_of_getElem? (i := 13) rfl), fun _ h => nomatch h⟩⟩⟩⟩⟩⟩⟩⟩⟩⟩⟩⟩⟩⟩⟩⟩⟩⟩⟩⟩⟩⟩⟩⟩⟩⟩⟩⟩
def klL : List (Nat × Nat × Int64) := kl0
theorem klL_ok : ∀ e ∈ klL, okKL e := kl0_ok
theorem wArr_int : Cond.arrayClass .int ∈ wsL_law := inr3 _ (List.mem_of_getElem? (i := 12) rfl)
theorem wArr_long : Cond.arrayClass .long ∈ wsL_law := inr1 _ (List.mem_of_getElem? (i := 6) rfl)
theorem wArr_byte : Cond.arrayClass .byte ∈ wsL_law := inr7 _ (List.mem_of_getElem? (i := 9) rfl)
theorem wObj_i : Cond.instanceMethod objectInit ∈ wsL_law := inr1 _ (List.mem_of_getElem? (i := 11) rfl)
theorem wObj_c : Cond.code objectInit ⟨#[0xb1]⟩ 1 none ∈ wsL_law := inr1 _ (List.mem_of_getElem? (i := 12) rfl)
def P_ty : Nat → Nat → FieldType := fun c => match c with
  | 0 => tyX0
  | 1 => tyX1
  | 2 => tyX2
  | 3 => tyX3
  | 4 => tyX4
  | 5 => tyX5
  | 6 => tyX6
  | 7 => tyX7
  | 8 => tyX8
  | 9 => tyX9
  | 10 => tyX10
  | 11 => tyX11
  | 12 => tyX12
  | _ => fun _ => .int
def okCl (c : Nat) (r : vw_C) : Prop := (∀ w ∈ u_ws r.1 r.2.1 r.2.2, w ∈ wsL_law) ∧ (∀ k, k < r.2.2 → parseFieldDescriptor (r.2.1 k).2.2.1 = some (P_ty c k)) ∧ (∀ a, a < r.2.2 → ∀ b, b < r.2.2 → a ≠ b → (r.2.1 a).2.1 ≠ (r.2.1 b).2.1) ∧ r.1 = P_ow c ∧ (∀ k, k < r.2.2 → (r.2.1 k).1 = r.1)
set_option maxRecDepth 100000 in
theorem vwCl_ok : ∀ (c : Nat) (r : vw_C), vwCl[c]? = some r → okCl c r := by
  intro c r h
  match c, h with
  | 0, h => cases h; exact ⟨inlX0, tyX0_ok, nmX0, rfl, by decide +kernel⟩
  | 1, h => cases h; exact ⟨inlX1, tyX1_ok, nmX1, rfl, by decide +kernel⟩
  | 2, h => cases h; exact ⟨inlX2, tyX2_ok, nmX2, rfl, by decide +kernel⟩
  | 3, h => cases h; exact ⟨inlX3, tyX3_ok, nmX3, rfl, by decide +kernel⟩
  | 4, h => cases h; exact ⟨inlX4, tyX4_ok, nmX4, rfl, by decide +kernel⟩
  | 5, h => cases h; exact ⟨inlX5, tyX5_ok, nmX5, rfl, by decide +kernel⟩
  | 6, h => cases h; exact ⟨inlX6, tyX6_ok, nmX6, rfl, by decide +kernel⟩
  | 7, h => cases h; exact ⟨inlX7, tyX7_ok, nmX7, rfl, by decide +kernel⟩
  | 8, h => cases h; exact ⟨inlX8, tyX8_ok, nmX8, rfl, by decide +kernel⟩
  | 9, h => cases h; exact ⟨inlX9, tyX9_ok, nmX9, rfl, by decide +kernel⟩
  | 10, h => cases h; exact ⟨inlX10, tyX10_ok, nmX10, rfl, by decide +kernel⟩
  | 11, h => cases h; exact ⟨inlX11, tyX11_ok, nmX11, rfl, by decide +kernel⟩
  | 12, h => cases h; exact ⟨inlX12, tyX12_ok, nmX12, rfl, by decide +kernel⟩
  | c + 13, h => simp [vwCl] at h
