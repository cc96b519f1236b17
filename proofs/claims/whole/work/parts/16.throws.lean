/-- words by their places: below 1000 in the tables, else among those on statics -/
def zchk : List Nat → List Cond → Bool
  | [], [] => true
  | i :: is, w :: ws => (if i < 1000 then decide (tables_1[i]? = some w) && zok w else decide (zWH[i - 1000]? = some w)) && zchk is ws
  | _, _ => false
theorem zchk_ok : ∀ (is : List Nat) (ws : List Cond), zchk is ws = true → ∀ w ∈ ws, w ∈ zWS ∨ w ∈ zWH
  | [], [], _, w, hw => by cases hw
  | [], _ :: _, h, _, _ => by simp [zchk] at h
  | _ :: _, [], h, _, _ => by simp [zchk] at h
  | i :: is, w :: ws, h, v, hv => by
    simp only [zchk, Bool.and_eq_true] at h
    rcases List.mem_cons.mp hv with rfl | hv
    · by_cases hi : i < 1000
      · simp only [hi, if_true, Bool.and_eq_true, decide_eq_true_eq] at h
        exact Or.inl (zmem i h.1.1 h.1.2)
      · simp only [hi, if_false, decide_eq_true_eq] at h
        exact Or.inr (List.mem_of_getElem? h.1)
    · exact zchk_ok is ws h.2 v hv
theorem w_C_50 : zTw n_C 50 52 0 := ⟨zmem 395 (by decide +kernel) rfl, zmem 396 (by decide +kernel) rfl, zmem 12 (by decide +kernel) rfl, zchk_ok [9, 417, 426, 430, 433, 435, 418, 419, 21, 22, 420, 425, 431, 447, 407, 448, 409, 449, 411, 421, 1002, 423, 1003, 413, 437, 438, 439, 440, 398, 440, 441, 442, 443, 400, 443, 444, 445, 418, 402, 436, 396, 397, 404, 405, 406, 408, 410, 412, 1000, 1001, 416, 415, 414] _ (by decide +kernel), by decide +kernel⟩
theorem w_C_57 : zTw n_C 57 59 1 := ⟨zmem 458 (by decide +kernel) rfl, zmem 459 (by decide +kernel) rfl, zmem 13 (by decide +kernel) rfl, zchk_ok [9, 417, 426, 430, 433, 435, 418, 419, 21, 22, 420, 425, 431, 447, 407, 448, 409, 449, 411, 421, 1002, 423, 1003, 413, 468, 469, 470, 440, 398, 440, 441, 442, 443, 400, 443, 444, 445, 418, 402, 467, 459, 460, 461, 428, 462, 463, 464, 465, 1000, 1001, 416, 415, 466] _ (by decide +kernel), by decide +kernel⟩
theorem w_C_160 : zTw n_C 160 162 2 := ⟨zmem 616 (by decide +kernel) rfl, zmem 617 (by decide +kernel) rfl, zmem 14 (by decide +kernel) rfl, zchk_ok [9, 417, 426, 430, 433, 435, 418, 419, 21, 22, 420, 425, 431, 447, 407, 448, 409, 449, 411, 421, 1002, 423, 1003, 413, 626, 627, 628, 440, 398, 440, 441, 442, 443, 400, 443, 444, 445, 418, 402, 625, 617, 618, 619, 429, 620, 621, 622, 623, 1000, 1001, 416, 415, 624] _ (by decide +kernel), by decide +kernel⟩
