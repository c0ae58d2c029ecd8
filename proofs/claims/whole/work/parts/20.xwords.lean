/-! the places of the words that the throwing of each exception rests on -/
def av_wd (i : Nat) : Cond := if i = 2000 then av_e1 else if i = 2001 then av_e2 else (tables_1[i]?).getD .tt
set_option maxRecDepth 40000 in
theorem tl_xa0 : av_xa "TopicLedgers" 332 "java/lang/IllegalArgumentException" 7 prog_12_method_2_code = ([12, 382, 391, 397, 400, 402, 383, 384, 27, 28, 385, 390, 398, 418, 372, 419, 374, 420, 376, 386, 387, 388, 389, 378, 414, 415, 417, 378, 405, 406, 407, 408, 364, 408, 409, 410, 411, 366, 411, 412, 413, 414, 368, 404, 361, 362, 369, 370, 371, 373, 375, 377, 2000, 2001, 381, 380, 379] : List Nat).map av_wd := by decide +kernel
set_option maxRecDepth 40000 in
theorem tl_xa1 : av_xa "TopicLedgers" 339 "java/lang/IllegalStateException" 7 prog_13_method_2_code = ([12, 382, 391, 397, 400, 402, 383, 384, 27, 28, 385, 390, 398, 418, 372, 419, 374, 420, 376, 386, 387, 388, 389, 378, 414, 415, 417, 378, 444, 445, 446, 408, 364, 408, 409, 410, 411, 366, 411, 412, 413, 414, 368, 443, 434, 435, 436, 393, 437, 438, 439, 440, 2000, 2001, 381, 380, 441] : List Nat).map av_wd := by decide +kernel
set_option maxRecDepth 40000 in
theorem tl_xa2 : av_xa "TopicLedgers" 357 "java/lang/UnsupportedOperationException" 7 prog_20_method_2_code = ([12, 382, 391, 397, 400, 402, 383, 384, 27, 28, 385, 390, 398, 418, 372, 419, 374, 420, 376, 386, 387, 388, 389, 378, 414, 415, 417, 378, 547, 548, 549, 408, 364, 408, 409, 410, 411, 366, 411, 412, 413, 414, 368, 546, 537, 538, 539, 395, 540, 541, 542, 543, 2000, 2001, 381, 380, 544] : List Nat).map av_wd := by decide +kernel
set_option maxRecDepth 40000 in
theorem tl_xa3 : av_xa "TopicLedgers" 357 "java/lang/UnsupportedOperationException" 7 prog_20_method_2_code = ([12, 382, 391, 397, 400, 402, 383, 384, 27, 28, 385, 390, 398, 418, 372, 419, 374, 420, 376, 386, 387, 388, 389, 378, 414, 415, 417, 378, 547, 548, 549, 408, 364, 408, 409, 410, 411, 366, 411, 412, 413, 414, 368, 546, 537, 538, 539, 395, 540, 541, 542, 543, 2000, 2001, 381, 380, 544] : List Nat).map av_wd := by decide +kernel
set_option maxRecDepth 40000 in
theorem tl_xa4 : av_xa "TopicLedgers" 344 "java/lang/IndexOutOfBoundsException" 7 prog_14_method_2_code = ([12, 382, 391, 397, 400, 402, 383, 384, 27, 28, 385, 390, 398, 418, 372, 419, 374, 420, 376, 386, 387, 388, 389, 378, 414, 415, 417, 378, 626, 627, 628, 408, 364, 408, 409, 410, 411, 366, 411, 412, 413, 414, 368, 625, 616, 617, 618, 394, 619, 620, 621, 622, 2000, 2001, 381, 380, 623] : List Nat).map av_wd := by decide +kernel
set_option maxRecDepth 40000 in
theorem tl_xa5 : av_xa "TopicLedgers" 349 "java/util/NoSuchElementException" 13 prog_22_method_4_code = ([12, 382, 391, 397, 400, 402, 383, 384, 27, 28, 385, 390, 398, 418, 372, 419, 374, 420, 376, 386, 387, 388, 389, 378, 414, 415, 417, 378, 735, 736, 737, 408, 364, 408, 409, 410, 411, 366, 411, 412, 413, 414, 368, 734, 725, 726, 727, 396, 728, 729, 730, 731, 2000, 2001, 381, 380, 732] : List Nat).map av_wd := by decide +kernel
theorem av_wd_ok {args : Array Value} {s : State} (hts : ∀ w ∈ lw_tbl, w.before args s = true) (h1 : av_e1.before args s = true) (h2 : av_e2.before args s = true) {ws : List Cond} {ps : List Nat} (h : ws = ps.map av_wd) (hp : ∀ i ∈ ps, i < 1158 ∨ i = 2000 ∨ i = 2001) : ∀ w ∈ ws, w.before args s = true := by
  intro w hw
  rw [h] at hw
  obtain ⟨i, hi, rfl⟩ := List.mem_map.mp hw
  unfold av_wd
  by_cases e1 : i = 2000
  · rw [if_pos e1]; exact h1
  · by_cases e2 : i = 2001
    · rw [if_neg e1, if_pos e2]; exact h2
    · rw [if_neg e1, if_neg e2]
      cases hq : tables_1[i]? with
      | none =>
        have hlt : i < 1158 := by rcases hp i hi with h | h | h <;> omega
        have hl : tables_1.length = 1158 := by decide +kernel
        rw [List.getElem?_eq_none_iff] at hq
        omega
      | some v => exact hts _ (tl_at hq)
