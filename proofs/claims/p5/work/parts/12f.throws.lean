/-! Throws -/
def tbO_ : List (List Cond) := [(tables_1_4.drop 81).take 72, (tables_1_5.drop 120).take 109, tables_1_4, tables_1_5, tables_1_1, tables_1_10, k2_sels lw_privs, tables_1_11, tables_1_2, tables_1_3, tables_1_6, tables_1_7, tables_1_8, tables_1_9]
def chkO (w : Cond) : Bool := tbO_.any (fun l => l.any (fun q => decide (q = w)))
theorem chkO_ok {w : Cond} (h : chkO w = true) : w ∈ lw_tbl := by
  unfold chkO at h
  obtain ⟨l, hl, h2⟩ := List.any_eq_true.mp h
  obtain ⟨q, hq, h3⟩ := List.any_eq_true.mp h2
  have e := of_decide_eq_true h3
  rw [← e]
  unfold tbO_ at hl
  simp only [List.mem_cons, List.not_mem_nil, or_false] at hl
  rcases hl with z | z | z | z | z | z | z | z | z | z | z | z | z | z
  · rw [z] at hq; exact tabs_in (List.mem_of_getElem? (i := 4) (rfl : tabs[4]? = some (tables_1_4))) (List.mem_of_mem_drop (List.mem_of_mem_take hq))
  · rw [z] at hq; exact tabs_in (List.mem_of_getElem? (i := 5) (rfl : tabs[5]? = some (tables_1_5))) (List.mem_of_mem_drop (List.mem_of_mem_take hq))
  · rw [z] at hq; exact tabs_in (List.mem_of_getElem? (i := 4) (rfl : tabs[4]? = some (tables_1_4))) hq
  · rw [z] at hq; exact tabs_in (List.mem_of_getElem? (i := 5) (rfl : tabs[5]? = some (tables_1_5))) hq
  · rw [z] at hq; exact tabs_in (List.mem_of_getElem? (i := 1) (rfl : tabs[1]? = some (tables_1_1))) hq
  · rw [z] at hq; exact tabs_in (List.mem_of_getElem? (i := 10) (rfl : tabs[10]? = some (tables_1_10))) hq
  · rw [z] at hq; exact tabs_in (List.mem_of_getElem? (i := 0) (rfl : tabs[0]? = some (k2_sels lw_privs))) hq
  · rw [z] at hq; exact tabs_in (List.mem_of_getElem? (i := 11) (rfl : tabs[11]? = some (tables_1_11))) hq
  · rw [z] at hq; exact tabs_in (List.mem_of_getElem? (i := 2) (rfl : tabs[2]? = some (tables_1_2))) hq
  · rw [z] at hq; exact tabs_in (List.mem_of_getElem? (i := 3) (rfl : tabs[3]? = some (tables_1_3))) hq
  · rw [z] at hq; exact tabs_in (List.mem_of_getElem? (i := 6) (rfl : tabs[6]? = some (tables_1_6))) hq
  · rw [z] at hq; exact tabs_in (List.mem_of_getElem? (i := 7) (rfl : tabs[7]? = some (tables_1_7))) hq
  · rw [z] at hq; exact tabs_in (List.mem_of_getElem? (i := 8) (rfl : tabs[8]? = some (tables_1_8))) hq
  · rw [z] at hq; exact tabs_in (List.mem_of_getElem? (i := 9) (rfl : tabs[9]? = some (tables_1_9))) hq
theorem ex_0_108_112 : ex_ok 108 112 (exN 0) 7 prog_16_method_2_code :=
  ⟨by decide +kernel, chkW_ok (p := (4, 86)) (by decide +kernel), chkW_ok (p := (1, 18)) (by decide +kernel), fun w hw => gT_of (chkO_ok (List.all_eq_true.mp (by decide +kernel : ((vx_atX RX11 112 (exN 0) 7 prog_16_method_2_code ex_N).filter goodWord).all chkO = true) w hw)) (List.mem_filter.mp hw).2, by decide +kernel, by decide +kernel, by decide +kernel, by decide +kernel, by decide +kernel, by decide +kernel, by decide +kernel⟩
theorem ex_1_274_278 : ex_ok 274 278 (exN 1) 13 prog_28_method_4_code :=
  ⟨by decide +kernel, chkW_ok (p := (5, 129)) (by decide +kernel), chkW_ok (p := (1, 25)) (by decide +kernel), fun w hw => gT_of (chkO_ok (List.all_eq_true.mp (by decide +kernel : ((vx_atX RX11 278 (exN 1) 13 prog_28_method_4_code ex_N).filter goodWord).all chkO = true) w hw)) (List.mem_filter.mp hw).2, by decide +kernel, by decide +kernel, by decide +kernel, by decide +kernel, by decide +kernel, by decide +kernel, by decide +kernel⟩
theorem ex_2_309_313 : ex_ok 309 313 (exN 2) 7 prog_17_method_2_code :=
  ⟨by decide +kernel, chkW_ok (p := (5, 213)) (by decide +kernel), chkW_ok (p := (1, 26)) (by decide +kernel), fun w hw => gT_of (chkO_ok (List.all_eq_true.mp (by decide +kernel : ((vx_atX RX11 313 (exN 2) 7 prog_17_method_2_code ex_N).filter goodWord).all chkO = true) w hw)) (List.mem_filter.mp hw).2, by decide +kernel, by decide +kernel, by decide +kernel, by decide +kernel, by decide +kernel, by decide +kernel, by decide +kernel⟩
def thA : List (Nat × Nat × Nat × Nat) := [(136, 21, 108, 0), (137, 15, 108, 0), (140, 29, 108, 0), (144, 55, 108, 0), (161, 15, 274, 1), (165, 10, 309, 2), (174, 30, 108, 0), (180, 15, 274, 1), (181, 11, 309, 2), (184, 10, 108, 0)]
theorem th_136_21 : ∃ (ic is ix : Nat) (rx : ByteArray) (text : String), ex_ok 108 ic (exN 0) ix rx ∧ (yA 136).cls = RX11 ∧ hhA 136 = [] ∧ Cond.stringRef RX11 is text ∈ lw_tbl ∧ decode (byA 136) (21 + 3) = .ok (.dup, 1) ∧ ((decode (byA 136) (21 + 4) = .ok (.ldc is, 2) ∧ decode (byA 136) (21 + 6) = .ok (.invokespecial ic, 3) ∧ decode (byA 136) (21 + 9) = .ok (.athrow, 1)) ∨ (decode (byA 136) (21 + 4) = .ok (.ldc_w is, 3) ∧ decode (byA 136) (21 + 7) = .ok (.invokespecial ic, 3) ∧ decode (byA 136) (21 + 10) = .ok (.athrow, 1))) :=
  ⟨112, 110, 7, prog_16_method_2_code, "no such text on the tape", ex_0_108_112, rfl, rfl, chkL_ok (p := (4, 127)) (by decide +kernel), by decide +kernel, Or.inl ⟨by decide +kernel, by decide +kernel, by decide +kernel⟩⟩
theorem th_137_15 : ∃ (ic is ix : Nat) (rx : ByteArray) (text : String), ex_ok 108 ic (exN 0) ix rx ∧ (yA 137).cls = RX11 ∧ hhA 137 = [] ∧ Cond.stringRef RX11 is text ∈ lw_tbl ∧ decode (byA 137) (15 + 3) = .ok (.dup, 1) ∧ ((decode (byA 137) (15 + 4) = .ok (.ldc is, 2) ∧ decode (byA 137) (15 + 6) = .ok (.invokespecial ic, 3) ∧ decode (byA 137) (15 + 9) = .ok (.athrow, 1)) ∨ (decode (byA 137) (15 + 4) = .ok (.ldc_w is, 3) ∧ decode (byA 137) (15 + 7) = .ok (.invokespecial ic, 3) ∧ decode (byA 137) (15 + 10) = .ok (.athrow, 1))) :=
  ⟨112, 110, 7, prog_16_method_2_code, "no such text on the tape", ex_0_108_112, rfl, rfl, chkL_ok (p := (4, 127)) (by decide +kernel), by decide +kernel, Or.inl ⟨by decide +kernel, by decide +kernel, by decide +kernel⟩⟩
theorem th_140_29 : ∃ (ic is ix : Nat) (rx : ByteArray) (text : String), ex_ok 108 ic (exN 0) ix rx ∧ (yA 140).cls = RX11 ∧ hhA 140 = [] ∧ Cond.stringRef RX11 is text ∈ lw_tbl ∧ decode (byA 140) (29 + 3) = .ok (.dup, 1) ∧ ((decode (byA 140) (29 + 4) = .ok (.ldc is, 2) ∧ decode (byA 140) (29 + 6) = .ok (.invokespecial ic, 3) ∧ decode (byA 140) (29 + 9) = .ok (.athrow, 1)) ∨ (decode (byA 140) (29 + 4) = .ok (.ldc_w is, 3) ∧ decode (byA 140) (29 + 7) = .ok (.invokespecial ic, 3) ∧ decode (byA 140) (29 + 10) = .ok (.athrow, 1))) :=
  ⟨112, 155, 7, prog_16_method_2_code, "from is above to", ex_0_108_112, rfl, rfl, chkL_ok (p := (5, 165)) (by decide +kernel), by decide +kernel, Or.inl ⟨by decide +kernel, by decide +kernel, by decide +kernel⟩⟩
theorem th_144_55 : ∃ (ic is ix : Nat) (rx : ByteArray) (text : String), ex_ok 108 ic (exN 0) ix rx ∧ (yA 144).cls = RX11 ∧ hhA 144 = [] ∧ Cond.stringRef RX11 is text ∈ lw_tbl ∧ decode (byA 144) (55 + 3) = .ok (.dup, 1) ∧ ((decode (byA 144) (55 + 4) = .ok (.ldc is, 2) ∧ decode (byA 144) (55 + 6) = .ok (.invokespecial ic, 3) ∧ decode (byA 144) (55 + 9) = .ok (.athrow, 1)) ∨ (decode (byA 144) (55 + 4) = .ok (.ldc_w is, 3) ∧ decode (byA 144) (55 + 7) = .ok (.invokespecial ic, 3) ∧ decode (byA 144) (55 + 10) = .ok (.athrow, 1))) :=
  ⟨112, 174, 7, prog_16_method_2_code, "from and to span no cells of one layer", ex_0_108_112, rfl, rfl, chkL_ok (p := (5, 237)) (by decide +kernel), by decide +kernel, Or.inl ⟨by decide +kernel, by decide +kernel, by decide +kernel⟩⟩
theorem th_161_15 : ∃ (ic is ix : Nat) (rx : ByteArray) (text : String), ex_ok 274 ic (exN 1) ix rx ∧ (yA 161).cls = RX11 ∧ hhA 161 = [] ∧ Cond.stringRef RX11 is text ∈ lw_tbl ∧ decode (byA 161) (15 + 3) = .ok (.dup, 1) ∧ ((decode (byA 161) (15 + 4) = .ok (.ldc is, 2) ∧ decode (byA 161) (15 + 6) = .ok (.invokespecial ic, 3) ∧ decode (byA 161) (15 + 9) = .ok (.athrow, 1)) ∨ (decode (byA 161) (15 + 4) = .ok (.ldc_w is, 3) ∧ decode (byA 161) (15 + 7) = .ok (.invokespecial ic, 3) ∧ decode (byA 161) (15 + 10) = .ok (.athrow, 1))) :=
  ⟨278, 276, 13, prog_28_method_4_code, "no such configuration", ex_1_274_278, rfl, rfl, chkL_ok (p := (6, 206)) (by decide +kernel), by decide +kernel, Or.inr ⟨by decide +kernel, by decide +kernel, by decide +kernel⟩⟩
theorem th_165_10 : ∃ (ic is ix : Nat) (rx : ByteArray) (text : String), ex_ok 309 ic (exN 2) ix rx ∧ (yA 165).cls = RX11 ∧ hhA 165 = [] ∧ Cond.stringRef RX11 is text ∈ lw_tbl ∧ decode (byA 165) (10 + 3) = .ok (.dup, 1) ∧ ((decode (byA 165) (10 + 4) = .ok (.ldc is, 2) ∧ decode (byA 165) (10 + 6) = .ok (.invokespecial ic, 3) ∧ decode (byA 165) (10 + 9) = .ok (.athrow, 1)) ∨ (decode (byA 165) (10 + 4) = .ok (.ldc_w is, 3) ∧ decode (byA 165) (10 + 7) = .ok (.invokespecial ic, 3) ∧ decode (byA 165) (10 + 10) = .ok (.athrow, 1))) :=
  ⟨313, 311, 7, prog_17_method_2_code, "no such pair", ex_2_309_313, rfl, rfl, chkL_ok (p := (7, 47)) (by decide +kernel), by decide +kernel, Or.inr ⟨by decide +kernel, by decide +kernel, by decide +kernel⟩⟩
theorem th_174_30 : ∃ (ic is ix : Nat) (rx : ByteArray) (text : String), ex_ok 108 ic (exN 0) ix rx ∧ (yA 174).cls = RX11 ∧ hhA 174 = [] ∧ Cond.stringRef RX11 is text ∈ lw_tbl ∧ decode (byA 174) (30 + 3) = .ok (.dup, 1) ∧ ((decode (byA 174) (30 + 4) = .ok (.ldc is, 2) ∧ decode (byA 174) (30 + 6) = .ok (.invokespecial ic, 3) ∧ decode (byA 174) (30 + 9) = .ok (.athrow, 1)) ∨ (decode (byA 174) (30 + 4) = .ok (.ldc_w is, 3) ∧ decode (byA 174) (30 + 7) = .ok (.invokespecial ic, 3) ∧ decode (byA 174) (30 + 10) = .ok (.athrow, 1))) :=
  ⟨112, 372, 7, prog_16_method_2_code, "the cell is shut, or of that piece", ex_0_108_112, rfl, rfl, chkL_ok (p := (8, 1)) (by decide +kernel), by decide +kernel, Or.inr ⟨by decide +kernel, by decide +kernel, by decide +kernel⟩⟩
theorem th_180_15 : ∃ (ic is ix : Nat) (rx : ByteArray) (text : String), ex_ok 274 ic (exN 1) ix rx ∧ (yA 180).cls = RX11 ∧ hhA 180 = [] ∧ Cond.stringRef RX11 is text ∈ lw_tbl ∧ decode (byA 180) (15 + 3) = .ok (.dup, 1) ∧ ((decode (byA 180) (15 + 4) = .ok (.ldc is, 2) ∧ decode (byA 180) (15 + 6) = .ok (.invokespecial ic, 3) ∧ decode (byA 180) (15 + 9) = .ok (.athrow, 1)) ∨ (decode (byA 180) (15 + 4) = .ok (.ldc_w is, 3) ∧ decode (byA 180) (15 + 7) = .ok (.invokespecial ic, 3) ∧ decode (byA 180) (15 + 10) = .ok (.athrow, 1))) :=
  ⟨278, 411, 13, prog_28_method_4_code, "no such stream", ex_1_274_278, rfl, rfl, chkL_ok (p := (5, 138)) (by decide +kernel), by decide +kernel, Or.inr ⟨by decide +kernel, by decide +kernel, by decide +kernel⟩⟩
theorem th_181_11 : ∃ (ic is ix : Nat) (rx : ByteArray) (text : String), ex_ok 309 ic (exN 2) ix rx ∧ (yA 181).cls = RX11 ∧ hhA 181 = [] ∧ Cond.stringRef RX11 is text ∈ lw_tbl ∧ decode (byA 181) (11 + 3) = .ok (.dup, 1) ∧ ((decode (byA 181) (11 + 4) = .ok (.ldc is, 2) ∧ decode (byA 181) (11 + 6) = .ok (.invokespecial ic, 3) ∧ decode (byA 181) (11 + 9) = .ok (.athrow, 1)) ∨ (decode (byA 181) (11 + 4) = .ok (.ldc_w is, 3) ∧ decode (byA 181) (11 + 7) = .ok (.invokespecial ic, 3) ∧ decode (byA 181) (11 + 10) = .ok (.athrow, 1))) :=
  ⟨313, 413, 7, prog_17_method_2_code, "no such cell", ex_2_309_313, rfl, rfl, chkL_ok (p := (5, 222)) (by decide +kernel), by decide +kernel, Or.inr ⟨by decide +kernel, by decide +kernel, by decide +kernel⟩⟩
theorem th_184_10 : ∃ (ic is ix : Nat) (rx : ByteArray) (text : String), ex_ok 108 ic (exN 0) ix rx ∧ (yA 184).cls = RX11 ∧ hhA 184 = [] ∧ Cond.stringRef RX11 is text ∈ lw_tbl ∧ decode (byA 184) (10 + 3) = .ok (.dup, 1) ∧ ((decode (byA 184) (10 + 4) = .ok (.ldc is, 2) ∧ decode (byA 184) (10 + 6) = .ok (.invokespecial ic, 3) ∧ decode (byA 184) (10 + 9) = .ok (.athrow, 1)) ∨ (decode (byA 184) (10 + 4) = .ok (.ldc_w is, 3) ∧ decode (byA 184) (10 + 7) = .ok (.invokespecial ic, 3) ∧ decode (byA 184) (10 + 10) = .ok (.athrow, 1))) :=
  ⟨112, 415, 7, prog_16_method_2_code, "a number out of its bounds", ex_0_108_112, rfl, rfl, chkL_ok (p := (5, 164)) (by decide +kernel), by decide +kernel, Or.inr ⟨by decide +kernel, by decide +kernel, by decide +kernel⟩⟩
theorem th_ok : thrX thA := by
  intro mn pc idx a hm
  simp only [thA, List.mem_cons, List.not_mem_nil, or_false, Prod.mk.injEq] at hm
  rcases hm with ⟨rfl, rfl, rfl, rfl⟩ | ⟨rfl, rfl, rfl, rfl⟩ | ⟨rfl, rfl, rfl, rfl⟩ | ⟨rfl, rfl, rfl, rfl⟩ | ⟨rfl, rfl, rfl, rfl⟩ | ⟨rfl, rfl, rfl, rfl⟩ | ⟨rfl, rfl, rfl, rfl⟩ | ⟨rfl, rfl, rfl, rfl⟩ | ⟨rfl, rfl, rfl, rfl⟩ | ⟨rfl, rfl, rfl, rfl⟩
  · exact th_136_21
  · exact th_137_15
  · exact th_140_29
  · exact th_144_55
  · exact th_161_15
  · exact th_165_10
  · exact th_174_30
  · exact th_180_15
  · exact th_181_11
  · exact th_184_10
