section Fields
variable {G : GT} {K : KT} {M : MT} {own : String} {cc : ByteArray} {d pc : Nat} {ls : List (Option Value)} {st : List Value}
theorem gf_X8_live {index : Nat} (hG : GF G K own cc d) (hd : decode cc pc = .ok (.getfield index, 3)) (hl : Cond.fieldLink own index RX8 "live" "LThrownRosesReturn$Street;" ∈ TW) (kk : J G K M (pc + 3) ls (rf K (iS 0) :: st)) : J G K M pc ls (rf K 0 :: st) :=
  J_getf hG hd 0 hl tw_lay8 rfl (by decide) (by decide) (at_X K M) rfl kk
theorem gf_X8_kept {index : Nat} (hG : GF G K own cc d) (hd : decode cc pc = .ok (.getfield index, 3)) (hl : Cond.fieldLink own index RX8 "kept" "LThrownRosesReturn$Street;" ∈ TW) (kk : J G K M (pc + 3) ls (rf K (iS 1) :: st)) : J G K M pc ls (rf K 0 :: st) :=
  J_getf hG hd 1 hl tw_lay8 rfl (by decide) (by decide) (at_X K M) rfl kk
theorem gf_X8_outlook {index : Nat} (hG : GF G K own cc d) (hd : decode cc pc = .ok (.getfield index, 3)) (hl : Cond.fieldLink own index RX8 "outlook" "LThrownRosesReturn$Outlook;" ∈ TW) (kk : J G K M (pc + 3) ls (rf K 3 :: st)) : J G K M pc ls (rf K 0 :: st) :=
  J_getf hG hd 2 hl tw_lay8 rfl (by decide) (by decide) (at_X K M) rfl kk
theorem gf_X8_pairing {index : Nat} (hG : GF G K own cc d) (hd : decode cc pc = .ok (.getfield index, 3)) (hl : Cond.fieldLink own index RX8 "pairing" "LThrownRosesReturn$Pairing;" ∈ TW) (kk : J G K M (pc + 3) ls (rf K 5 :: st)) : J G K M pc ls (rf K 0 :: st) :=
  J_getf hG hd 3 hl tw_lay8 rfl (by decide) (by decide) (at_X K M) rfl kk
theorem gf_X8_tape {index : Nat} (hG : GF G K own cc d) (hd : decode cc pc = .ok (.getfield index, 3)) (hl : Cond.fieldLink own index RX8 "tape" "LThrownRosesReturn$Tape;" ∈ TW) (kk : J G K M (pc + 3) ls (rf K 9 :: st)) : J G K M pc ls (rf K 0 :: st) :=
  J_getf hG hd 4 hl tw_lay8 rfl (by decide) (by decide) (at_X K M) rfl kk
theorem gf_X8_shelves {index : Nat} (hG : GF G K own cc d) (hd : decode cc pc = .ok (.getfield index, 3)) (hl : Cond.fieldLink own index RX8 "shelves" "[LThrownRosesReturn$Shelf;" ∈ TW) (kk : J G K M (pc + 3) ls (rf K 2 :: st)) : J G K M pc ls (rf K 0 :: st) :=
  J_getf hG hd 5 hl tw_lay8 rfl (by decide) (by decide) (at_X K M) rfl kk
theorem gf_X8_refusals {index : Nat} (hG : GF G K own cc d) (hd : decode cc pc = .ok (.getfield index, 3)) (hl : Cond.fieldLink own index RX8 "refusals" "[I" ∈ TW) (kk : J G K M (pc + 3) ls (rf K 1 :: st)) : J G K M pc ls (rf K 0 :: st) :=
  J_getf hG hd 6 hl tw_lay8 rfl (by decide) (by decide) (at_X K M) rfl kk
theorem gf_X8_somethingKept {index : Nat} (hG : GF G K own cc d) (hd : decode cc pc = .ok (.getfield index, 3)) (hl : Cond.fieldLink own index RX8 "somethingKept" "Z" ∈ TW) (kk : J G K M (pc + 3) ls (.int (M.2.1 0 0) :: st)) : J G K M pc ls (rf K 0 :: st) :=
  J_getf hG hd 7 hl tw_lay8 rfl (by decide) (by decide) (at_X K M) rfl kk
theorem pf_X8_somethingKept {index : Nat} {v : Int32} (hv : v = 0 ∨ v = 1) (hG : GF G K own cc d) (hd : decode cc pc = .ok (.putfield index, 3)) (hl : Cond.fieldLink own index RX8 "somethingKept" "Z" ∈ TW) (kk : J G K (u2 M 0 0 v) (pc + 3) ls st) : J G K M pc ls (.int v :: rf K 0 :: st) :=
  J_putf hG hd 7 hl tw_lay8 tyX8 tyX8_ok nmX8 rfl (by decide) rfl (by decide) (at_X K M) (by show 7 < 8; decide) (by rcases hv with rfl | rfl <;> rfl) (by rcases hv with rfl | rfl <;> rfl) (set2 (Eq.trans (show own2 0 0 = 0 from rfl) (by first | rfl | (simp only []; omega) | omega)) ((at_X K (u2 M 0 0 v)).trans (by simp [u2]))) kk
theorem al_Xref {i : Int32} {j : Nat} (hG : GF G K own cc d) (hd : decode cc pc = .ok (.iaload, 1)) (hx : ix i 7 j) (kk : J G K M (pc + 1) ls (.int (M.2.1 1 j) :: st)) : J G K M pc ls (.int i :: rf K 1 :: st) :=
  J_iald hG hd (by decide) (at_Xref K M) hx kk
theorem as_Xref {i : Int32} {x : Int32} {j : Nat} (hG : GF G K own cc d) (hd : decode cc pc = .ok (.iastore, 1)) (hx : ix i 7 j) (kk : J G K (u2 M 1 j x) (pc + 1) ls st) : J G K M pc ls (.int x :: .int i :: rf K 1 :: st) :=
  J_iast hG hd (by decide) (at_Xref K M) hx (set2 (Eq.trans (show own2 1 j = 1 from rfl) (by first | rfl | (simp only []; omega) | omega)) ((at_Xref K (u2 M 1 j x)).trans (by simp [u2]; try rfl))) kk
theorem aa_Xsh {i : Int32} {j : Nat} (hG : GF G K own cc d) (hd : decode cc pc = .ok (.aaload, 1)) (hx : ix i 8 j) (kk : J G K M (pc + 1) ls (rf K (iH j) :: st)) : J G K M pc ls (.int i :: rf K 2 :: st) :=
  J_aald (t := 4) (ty := .object RX4) hG hd (by decide) (at_Xsh K M) rfl rfl hx rfl kk
theorem gf_X0_draft {index : Nat} (hG : GF G K own cc d) (hd : decode cc pc = .ok (.getfield index, 3)) (hl : Cond.fieldLink own index RX0 "draft" "LThrownRosesReturn$Street;" ∈ TW) (kk : J G K M (pc + 3) ls (rf K (iS 2) :: st)) : J G K M pc ls (rf K 3 :: st) :=
  J_getf hG hd 0 hl tw_lay0 rfl (by decide) (by decide) (at_Out K M) rfl kk
theorem gf_X0_openings {index : Nat} (hG : GF G K own cc d) (hd : decode cc pc = .ok (.getfield index, 3)) (hl : Cond.fieldLink own index RX0 "openings" "[I" ∈ TW) (kk : J G K M (pc + 3) ls (rf K 4 :: st)) : J G K M pc ls (rf K 3 :: st) :=
  J_getf hG hd 1 hl tw_lay0 rfl (by decide) (by decide) (at_Out K M) rfl kk
theorem gf_X0_bestCell {index : Nat} (hG : GF G K own cc d) (hd : decode cc pc = .ok (.getfield index, 3)) (hl : Cond.fieldLink own index RX0 "bestCell" "I" ∈ TW) (kk : J G K M (pc + 3) ls (.int (M.2.1 2 0) :: st)) : J G K M pc ls (rf K 3 :: st) :=
  J_getf hG hd 2 hl tw_lay0 rfl (by decide) (by decide) (at_Out K M) rfl kk
theorem pf_X0_bestCell {index : Nat} {v : Int32} (hG : GF G K own cc d) (hd : decode cc pc = .ok (.putfield index, 3)) (hl : Cond.fieldLink own index RX0 "bestCell" "I" ∈ TW) (kk : J G K (u2 M 2 0 v) (pc + 3) ls st) : J G K M pc ls (.int v :: rf K 3 :: st) :=
  J_putf hG hd 2 hl tw_lay0 tyX0 tyX0_ok nmX0 rfl (by decide) rfl (by decide) (at_Out K M) (by show 2 < 7; decide) rfl rfl (set2 (Eq.trans (show own2 2 0 = 3 from rfl) (by first | rfl | (simp only []; omega) | omega)) ((at_Out K (u2 M 2 0 v)).trans (by simp [u2]))) kk
theorem gf_X0_bestCount {index : Nat} (hG : GF G K own cc d) (hd : decode cc pc = .ok (.getfield index, 3)) (hl : Cond.fieldLink own index RX0 "bestCount" "I" ∈ TW) (kk : J G K M (pc + 3) ls (.int (M.2.1 2 1) :: st)) : J G K M pc ls (rf K 3 :: st) :=
  J_getf hG hd 3 hl tw_lay0 rfl (by decide) (by decide) (at_Out K M) rfl kk
theorem pf_X0_bestCount {index : Nat} {v : Int32} (hG : GF G K own cc d) (hd : decode cc pc = .ok (.putfield index, 3)) (hl : Cond.fieldLink own index RX0 "bestCount" "I" ∈ TW) (kk : J G K (u2 M 2 1 v) (pc + 3) ls st) : J G K M pc ls (.int v :: rf K 3 :: st) :=
  J_putf hG hd 3 hl tw_lay0 tyX0 tyX0_ok nmX0 rfl (by decide) rfl (by decide) (at_Out K M) (by show 3 < 7; decide) rfl rfl (set2 (Eq.trans (show own2 2 1 = 3 from rfl) (by first | rfl | (simp only []; omega) | omega)) ((at_Out K (u2 M 2 1 v)).trans (by simp [u2]))) kk
theorem gf_X0_logCaught {index : Nat} (hG : GF G K own cc d) (hd : decode cc pc = .ok (.getfield index, 3)) (hl : Cond.fieldLink own index RX0 "logCaught" "I" ∈ TW) (kk : J G K M (pc + 3) ls (.int (M.2.1 2 2) :: st)) : J G K M pc ls (rf K 3 :: st) :=
  J_getf hG hd 4 hl tw_lay0 rfl (by decide) (by decide) (at_Out K M) rfl kk
theorem pf_X0_logCaught {index : Nat} {v : Int32} (hG : GF G K own cc d) (hd : decode cc pc = .ok (.putfield index, 3)) (hl : Cond.fieldLink own index RX0 "logCaught" "I" ∈ TW) (kk : J G K (u2 M 2 2 v) (pc + 3) ls st) : J G K M pc ls (.int v :: rf K 3 :: st) :=
  J_putf hG hd 4 hl tw_lay0 tyX0 tyX0_ok nmX0 rfl (by decide) rfl (by decide) (at_Out K M) (by show 4 < 7; decide) rfl rfl (set2 (Eq.trans (show own2 2 2 = 3 from rfl) (by first | rfl | (simp only []; omega) | omega)) ((at_Out K (u2 M 2 2 v)).trans (by simp [u2]))) kk
theorem gf_X0_logLying {index : Nat} (hG : GF G K own cc d) (hd : decode cc pc = .ok (.getfield index, 3)) (hl : Cond.fieldLink own index RX0 "logLying" "I" ∈ TW) (kk : J G K M (pc + 3) ls (.int (M.2.1 2 3) :: st)) : J G K M pc ls (rf K 3 :: st) :=
  J_getf hG hd 5 hl tw_lay0 rfl (by decide) (by decide) (at_Out K M) rfl kk
theorem pf_X0_logLying {index : Nat} {v : Int32} (hG : GF G K own cc d) (hd : decode cc pc = .ok (.putfield index, 3)) (hl : Cond.fieldLink own index RX0 "logLying" "I" ∈ TW) (kk : J G K (u2 M 2 3 v) (pc + 3) ls st) : J G K M pc ls (.int v :: rf K 3 :: st) :=
  J_putf hG hd 5 hl tw_lay0 tyX0 tyX0_ok nmX0 rfl (by decide) rfl (by decide) (at_Out K M) (by show 5 < 7; decide) rfl rfl (set2 (Eq.trans (show own2 2 3 = 3 from rfl) (by first | rfl | (simp only []; omega) | omega)) ((at_Out K (u2 M 2 3 v)).trans (by simp [u2]))) kk
theorem gf_X0_logOff {index : Nat} (hG : GF G K own cc d) (hd : decode cc pc = .ok (.getfield index, 3)) (hl : Cond.fieldLink own index RX0 "logOff" "I" ∈ TW) (kk : J G K M (pc + 3) ls (.int (M.2.1 2 4) :: st)) : J G K M pc ls (rf K 3 :: st) :=
  J_getf hG hd 6 hl tw_lay0 rfl (by decide) (by decide) (at_Out K M) rfl kk
theorem pf_X0_logOff {index : Nat} {v : Int32} (hG : GF G K own cc d) (hd : decode cc pc = .ok (.putfield index, 3)) (hl : Cond.fieldLink own index RX0 "logOff" "I" ∈ TW) (kk : J G K (u2 M 2 4 v) (pc + 3) ls st) : J G K M pc ls (.int v :: rf K 3 :: st) :=
  J_putf hG hd 6 hl tw_lay0 tyX0 tyX0_ok nmX0 rfl (by decide) rfl (by decide) (at_Out K M) (by show 6 < 7; decide) rfl rfl (set2 (Eq.trans (show own2 2 4 = 3 from rfl) (by first | rfl | (simp only []; omega) | omega)) ((at_Out K (u2 M 2 4 v)).trans (by simp [u2]))) kk
theorem al_Opn {i : Int32} {j : Nat} (hG : GF G K own cc d) (hd : decode cc pc = .ok (.iaload, 1)) (hx : ix i 8 j) (kk : J G K M (pc + 1) ls (.int (M.2.1 3 j) :: st)) : J G K M pc ls (.int i :: rf K 4 :: st) :=
  J_iald hG hd (by decide) (at_Opn K M) hx kk
theorem as_Opn {i : Int32} {x : Int32} {j : Nat} (hG : GF G K own cc d) (hd : decode cc pc = .ok (.iastore, 1)) (hx : ix i 8 j) (kk : J G K (u2 M 3 j x) (pc + 1) ls st) : J G K M pc ls (.int x :: .int i :: rf K 4 :: st) :=
  J_iast hG hd (by decide) (at_Opn K M) hx (set2 (Eq.trans (show own2 3 j = 4 from rfl) (by first | rfl | (simp only []; omega) | omega)) ((at_Opn K (u2 M 3 j x)).trans (by simp [u2]; try rfl))) kk
theorem gf_X1_draft {index : Nat} (hG : GF G K own cc d) (hd : decode cc pc = .ok (.getfield index, 3)) (hl : Cond.fieldLink own index RX1 "draft" "LThrownRosesReturn$Street;" ∈ TW) (kk : J G K M (pc + 3) ls (rf K (iS 3) :: st)) : J G K M pc ls (rf K 5 :: st) :=
  J_getf hG hd 0 hl tw_lay1 rfl (by decide) (by decide) (at_Pai K M) rfl kk
theorem gf_X1_hits {index : Nat} (hG : GF G K own cc d) (hd : decode cc pc = .ok (.getfield index, 3)) (hl : Cond.fieldLink own index RX1 "hits" "[I" ∈ TW) (kk : J G K M (pc + 3) ls (rf K 6 :: st)) : J G K M pc ls (rf K 5 :: st) :=
  J_getf hG hd 1 hl tw_lay1 rfl (by decide) (by decide) (at_Pai K M) rfl kk
theorem gf_X1_best {index : Nat} (hG : GF G K own cc d) (hd : decode cc pc = .ok (.getfield index, 3)) (hl : Cond.fieldLink own index RX1 "best" "[[I" ∈ TW) (kk : J G K M (pc + 3) ls (rf K 7 :: st)) : J G K M pc ls (rf K 5 :: st) :=
  J_getf hG hd 2 hl tw_lay1 rfl (by decide) (by decide) (at_Pai K M) rfl kk
theorem gf_X1_partners {index : Nat} (hG : GF G K own cc d) (hd : decode cc pc = .ok (.getfield index, 3)) (hl : Cond.fieldLink own index RX1 "partners" "[I" ∈ TW) (kk : J G K M (pc + 3) ls (rf K 8 :: st)) : J G K M pc ls (rf K 5 :: st) :=
  J_getf hG hd 3 hl tw_lay1 rfl (by decide) (by decide) (at_Pai K M) rfl kk
theorem al_Hit {i : Int32} {j : Nat} (hG : GF G K own cc d) (hd : decode cc pc = .ok (.iaload, 1)) (hx : ix i 8 j) (kk : J G K M (pc + 1) ls (.int (M.2.1 4 j) :: st)) : J G K M pc ls (.int i :: rf K 6 :: st) :=
  J_iald hG hd (by decide) (at_Hit K M) hx kk
theorem as_Hit {i : Int32} {x : Int32} {j : Nat} (hG : GF G K own cc d) (hd : decode cc pc = .ok (.iastore, 1)) (hx : ix i 8 j) (kk : J G K (u2 M 4 j x) (pc + 1) ls st) : J G K M pc ls (.int x :: .int i :: rf K 6 :: st) :=
  J_iast hG hd (by decide) (at_Hit K M) hx (set2 (Eq.trans (show own2 4 j = 6 from rfl) (by first | rfl | (simp only []; omega) | omega)) ((at_Hit K (u2 M 4 j x)).trans (by simp [u2]; try rfl))) kk
theorem aa_Bst {i : Int32} {j : Nat} (hG : GF G K own cc d) (hd : decode cc pc = .ok (.aaload, 1)) (hx : ix i 9 j) (kk : J G K M (pc + 1) ls (rf K (iB j) :: st)) : J G K M pc ls (.int i :: rf K 7 :: st) :=
  J_aald (t := 5) (ty := .array .int) hG hd (by decide) (at_Bst K M) rfl rfl hx rfl kk
theorem al_Prt {i : Int32} {j : Nat} (hG : GF G K own cc d) (hd : decode cc pc = .ok (.iaload, 1)) (hx : ix i 8 j) (kk : J G K M (pc + 1) ls (.int (M.2.1 5 j) :: st)) : J G K M pc ls (.int i :: rf K 8 :: st) :=
  J_iald hG hd (by decide) (at_Prt K M) hx kk
theorem as_Prt {i : Int32} {x : Int32} {j : Nat} (hG : GF G K own cc d) (hd : decode cc pc = .ok (.iastore, 1)) (hx : ix i 8 j) (kk : J G K (u2 M 5 j x) (pc + 1) ls st) : J G K M pc ls (.int x :: .int i :: rf K 8 :: st) :=
  J_iast hG hd (by decide) (at_Prt K M) hx (set2 (Eq.trans (show own2 5 j = 8 from rfl) (by first | rfl | (simp only []; omega) | omega)) ((at_Prt K (u2 M 5 j x)).trans (by simp [u2]; try rfl))) kk
theorem gf_X6_letters {index : Nat} (hG : GF G K own cc d) (hd : decode cc pc = .ok (.getfield index, 3)) (hl : Cond.fieldLink own index RX6 "letters" "[I" ∈ TW) (kk : J G K M (pc + 3) ls (rf K 10 :: st)) : J G K M pc ls (rf K 9 :: st) :=
  J_getf hG hd 0 hl tw_lay6 rfl (by decide) (by decide) (at_Tap K M) rfl kk
theorem gf_X6_size {index : Nat} (hG : GF G K own cc d) (hd : decode cc pc = .ok (.getfield index, 3)) (hl : Cond.fieldLink own index RX6 "size" "I" ∈ TW) (kk : J G K M (pc + 3) ls (.int (M.2.1 6 0) :: st)) : J G K M pc ls (rf K 9 :: st) :=
  J_getf hG hd 1 hl tw_lay6 rfl (by decide) (by decide) (at_Tap K M) rfl kk
theorem pf_X6_size {index : Nat} {v : Int32} (hG : GF G K own cc d) (hd : decode cc pc = .ok (.putfield index, 3)) (hl : Cond.fieldLink own index RX6 "size" "I" ∈ TW) (kk : J G K (u2 M 6 0 v) (pc + 3) ls st) : J G K M pc ls (.int v :: rf K 9 :: st) :=
  J_putf hG hd 1 hl tw_lay6 tyX6 tyX6_ok nmX6 rfl (by decide) rfl (by decide) (at_Tap K M) (by show 1 < 7; decide) rfl rfl (set2 (Eq.trans (show own2 6 0 = 9 from rfl) (by first | rfl | (simp only []; omega) | omega)) ((at_Tap K (u2 M 6 0 v)).trans (by simp [u2]))) kk
theorem gf_X6_draft {index : Nat} (hG : GF G K own cc d) (hd : decode cc pc = .ok (.getfield index, 3)) (hl : Cond.fieldLink own index RX6 "draft" "LThrownRosesReturn$Street;" ∈ TW) (kk : J G K M (pc + 3) ls (rf K (iS 4) :: st)) : J G K M pc ls (rf K 9 :: st) :=
  J_getf hG hd 2 hl tw_lay6 rfl (by decide) (by decide) (at_Tap K M) rfl kk
theorem gf_X6_numbers {index : Nat} (hG : GF G K own cc d) (hd : decode cc pc = .ok (.getfield index, 3)) (hl : Cond.fieldLink own index RX6 "numbers" "[I" ∈ TW) (kk : J G K M (pc + 3) ls (rf K 11 :: st)) : J G K M pc ls (rf K 9 :: st) :=
  J_getf hG hd 3 hl tw_lay6 rfl (by decide) (by decide) (at_Tap K M) rfl kk
theorem gf_X6_type {index : Nat} (hG : GF G K own cc d) (hd : decode cc pc = .ok (.getfield index, 3)) (hl : Cond.fieldLink own index RX6 "type" "I" ∈ TW) (kk : J G K M (pc + 3) ls (.int (M.2.1 6 1) :: st)) : J G K M pc ls (rf K 9 :: st) :=
  J_getf hG hd 4 hl tw_lay6 rfl (by decide) (by decide) (at_Tap K M) rfl kk
theorem pf_X6_type {index : Nat} {v : Int32} (hG : GF G K own cc d) (hd : decode cc pc = .ok (.putfield index, 3)) (hl : Cond.fieldLink own index RX6 "type" "I" ∈ TW) (kk : J G K (u2 M 6 1 v) (pc + 3) ls st) : J G K M pc ls (.int v :: rf K 9 :: st) :=
  J_putf hG hd 4 hl tw_lay6 tyX6 tyX6_ok nmX6 rfl (by decide) rfl (by decide) (at_Tap K M) (by show 4 < 7; decide) rfl rfl (set2 (Eq.trans (show own2 6 1 = 9 from rfl) (by first | rfl | (simp only []; omega) | omega)) ((at_Tap K (u2 M 6 1 v)).trans (by simp [u2]))) kk
theorem gf_X6_start {index : Nat} (hG : GF G K own cc d) (hd : decode cc pc = .ok (.getfield index, 3)) (hl : Cond.fieldLink own index RX6 "start" "I" ∈ TW) (kk : J G K M (pc + 3) ls (.int (M.2.1 6 2) :: st)) : J G K M pc ls (rf K 9 :: st) :=
  J_getf hG hd 5 hl tw_lay6 rfl (by decide) (by decide) (at_Tap K M) rfl kk
theorem pf_X6_start {index : Nat} {v : Int32} (hG : GF G K own cc d) (hd : decode cc pc = .ok (.putfield index, 3)) (hl : Cond.fieldLink own index RX6 "start" "I" ∈ TW) (kk : J G K (u2 M 6 2 v) (pc + 3) ls st) : J G K M pc ls (.int v :: rf K 9 :: st) :=
  J_putf hG hd 5 hl tw_lay6 tyX6 tyX6_ok nmX6 rfl (by decide) rfl (by decide) (at_Tap K M) (by show 5 < 7; decide) rfl rfl (set2 (Eq.trans (show own2 6 2 = 9 from rfl) (by first | rfl | (simp only []; omega) | omega)) ((at_Tap K (u2 M 6 2 v)).trans (by simp [u2]))) kk
theorem gf_X6_end {index : Nat} (hG : GF G K own cc d) (hd : decode cc pc = .ok (.getfield index, 3)) (hl : Cond.fieldLink own index RX6 "end" "I" ∈ TW) (kk : J G K M (pc + 3) ls (.int (M.2.1 6 3) :: st)) : J G K M pc ls (rf K 9 :: st) :=
  J_getf hG hd 6 hl tw_lay6 rfl (by decide) (by decide) (at_Tap K M) rfl kk
theorem pf_X6_end {index : Nat} {v : Int32} (hG : GF G K own cc d) (hd : decode cc pc = .ok (.putfield index, 3)) (hl : Cond.fieldLink own index RX6 "end" "I" ∈ TW) (kk : J G K (u2 M 6 3 v) (pc + 3) ls st) : J G K M pc ls (.int v :: rf K 9 :: st) :=
  J_putf hG hd 6 hl tw_lay6 tyX6 tyX6_ok nmX6 rfl (by decide) rfl (by decide) (at_Tap K M) (by show 6 < 7; decide) rfl rfl (set2 (Eq.trans (show own2 6 3 = 9 from rfl) (by first | rfl | (simp only []; omega) | omega)) ((at_Tap K (u2 M 6 3 v)).trans (by simp [u2]))) kk
theorem al_Let {i : Int32} {j : Nat} (hG : GF G K own cc d) (hd : decode cc pc = .ok (.iaload, 1)) (hx : ix i 250 j) (kk : J G K M (pc + 1) ls (.int (M.2.1 7 j) :: st)) : J G K M pc ls (.int i :: rf K 10 :: st) :=
  J_iald hG hd (by decide) (at_Let K M) hx kk
theorem as_Let {i : Int32} {x : Int32} {j : Nat} (hG : GF G K own cc d) (hd : decode cc pc = .ok (.iastore, 1)) (hx : ix i 250 j) (kk : J G K (u2 M 7 j x) (pc + 1) ls st) : J G K M pc ls (.int x :: .int i :: rf K 10 :: st) :=
  J_iast hG hd (by decide) (at_Let K M) hx (set2 (Eq.trans (show own2 7 j = 10 from rfl) (by first | rfl | (simp only []; omega) | omega)) ((at_Let K (u2 M 7 j x)).trans (by simp [u2]; try rfl))) kk
theorem al_Num {i : Int32} {j : Nat} (hG : GF G K own cc d) (hd : decode cc pc = .ok (.iaload, 1)) (hx : ix i 3 j) (kk : J G K M (pc + 1) ls (.int (M.2.1 8 j) :: st)) : J G K M pc ls (.int i :: rf K 11 :: st) :=
  J_iald hG hd (by decide) (at_Num K M) hx kk
theorem as_Num {i : Int32} {x : Int32} {j : Nat} (hG : GF G K own cc d) (hd : decode cc pc = .ok (.iastore, 1)) (hx : ix i 3 j) (kk : J G K (u2 M 8 j x) (pc + 1) ls st) : J G K M pc ls (.int x :: .int i :: rf K 11 :: st) :=
  J_iast hG hd (by decide) (at_Num K M) hx (set2 (Eq.trans (show own2 8 j = 11 from rfl) (by first | rfl | (simp only []; omega) | omega)) ((at_Num K (u2 M 8 j x)).trans (by simp [u2]; try rfl))) kk
theorem gf_X5_windows {index : Nat} {s : Nat} (hs : s < 5) (hG : GF G K own cc d) (hd : decode cc pc = .ok (.getfield index, 3)) (hl : Cond.fieldLink own index RX5 "windows" "[LThrownRosesReturn$Window;" ∈ TW) (kk : J G K M (pc + 3) ls (rf K (iWA s) :: st)) : J G K M pc ls (rf K (iS s) :: st) :=
  J_getf hG hd 0 hl tw_lay5 rfl (by decide) (by unfold iS; omega) (at_Str K M s hs) rfl kk
theorem gf_X5_people {index : Nat} {s : Nat} (hs : s < 5) (hG : GF G K own cc d) (hd : decode cc pc = .ok (.getfield index, 3)) (hl : Cond.fieldLink own index RX5 "people" "[LThrownRosesReturn$Person;" ∈ TW) (kk : J G K M (pc + 3) ls (rf K (iPA s) :: st)) : J G K M pc ls (rf K (iS s) :: st) :=
  J_getf hG hd 1 hl tw_lay5 rfl (by decide) (by unfold iS; omega) (at_Str K M s hs) rfl kk
theorem gf_X5_windowCount {index : Nat} {s : Nat} (hs : s < 5) (hG : GF G K own cc d) (hd : decode cc pc = .ok (.getfield index, 3)) (hl : Cond.fieldLink own index RX5 "windowCount" "I" ∈ TW) (kk : J G K M (pc + 3) ls (.int (M.1 s 0 0) :: st)) : J G K M pc ls (rf K (iS s) :: st) :=
  J_getf hG hd 2 hl tw_lay5 rfl (by decide) (by unfold iS; omega) (at_Str K M s hs) rfl kk
theorem pf_X5_windowCount {index : Nat} {v : Int32} {s : Nat} (hs : s < 5) (hG : GF G K own cc d) (hd : decode cc pc = .ok (.putfield index, 3)) (hl : Cond.fieldLink own index RX5 "windowCount" "I" ∈ TW) (kk : J G K (u1 M s 0 0 v) (pc + 3) ls st) : J G K M pc ls (.int v :: rf K (iS s) :: st) :=
  J_putf hG hd 2 hl tw_lay5 tyX5 tyX5_ok nmX5 rfl (by decide) rfl (by unfold iS; omega) (at_Str K M s hs) (by show 2 < 10; decide) rfl rfl (set1 (Eq.trans (own1_a (by omega) (by decide)) (by first | rfl | (simp only [iS]; omega) | omega)) ((at_Str K (u1 M s 0 0 v) s hs).trans (by simp [u1]))) kk
theorem gf_X5_personCount {index : Nat} {s : Nat} (hs : s < 5) (hG : GF G K own cc d) (hd : decode cc pc = .ok (.getfield index, 3)) (hl : Cond.fieldLink own index RX5 "personCount" "I" ∈ TW) (kk : J G K M (pc + 3) ls (.int (M.1 s 1 0) :: st)) : J G K M pc ls (rf K (iS s) :: st) :=
  J_getf hG hd 3 hl tw_lay5 rfl (by decide) (by unfold iS; omega) (at_Str K M s hs) rfl kk
theorem pf_X5_personCount {index : Nat} {v : Int32} {s : Nat} (hs : s < 5) (hG : GF G K own cc d) (hd : decode cc pc = .ok (.putfield index, 3)) (hl : Cond.fieldLink own index RX5 "personCount" "I" ∈ TW) (kk : J G K (u1 M s 1 0 v) (pc + 3) ls st) : J G K M pc ls (.int v :: rf K (iS s) :: st) :=
  J_putf hG hd 3 hl tw_lay5 tyX5 tyX5_ok nmX5 rfl (by decide) rfl (by unfold iS; omega) (at_Str K M s hs) (by show 3 < 10; decide) rfl rfl (set1 (Eq.trans (own1_a (by omega) (by decide)) (by first | rfl | (simp only [iS]; omega) | omega)) ((at_Str K (u1 M s 1 0 v) s hs).trans (by simp [u1]))) kk
theorem gf_X5_cells {index : Nat} {s : Nat} (hs : s < 5) (hG : GF G K own cc d) (hd : decode cc pc = .ok (.getfield index, 3)) (hl : Cond.fieldLink own index RX5 "cells" "I" ∈ TW) (kk : J G K M (pc + 3) ls (.int (M.1 s 2 0) :: st)) : J G K M pc ls (rf K (iS s) :: st) :=
  J_getf hG hd 4 hl tw_lay5 rfl (by decide) (by unfold iS; omega) (at_Str K M s hs) rfl kk
theorem pf_X5_cells {index : Nat} {v : Int32} {s : Nat} (hs : s < 5) (hG : GF G K own cc d) (hd : decode cc pc = .ok (.putfield index, 3)) (hl : Cond.fieldLink own index RX5 "cells" "I" ∈ TW) (kk : J G K (u1 M s 2 0 v) (pc + 3) ls st) : J G K M pc ls (.int v :: rf K (iS s) :: st) :=
  J_putf hG hd 4 hl tw_lay5 tyX5 tyX5_ok nmX5 rfl (by decide) rfl (by unfold iS; omega) (at_Str K M s hs) (by show 4 < 10; decide) rfl rfl (set1 (Eq.trans (own1_a (by omega) (by decide)) (by first | rfl | (simp only [iS]; omega) | omega)) ((at_Str K (u1 M s 2 0 v) s hs).trans (by simp [u1]))) kk
theorem gf_X5_wind {index : Nat} {s : Nat} (hs : s < 5) (hG : GF G K own cc d) (hd : decode cc pc = .ok (.getfield index, 3)) (hl : Cond.fieldLink own index RX5 "wind" "I" ∈ TW) (kk : J G K M (pc + 3) ls (.int (M.1 s 3 0) :: st)) : J G K M pc ls (rf K (iS s) :: st) :=
  J_getf hG hd 5 hl tw_lay5 rfl (by decide) (by unfold iS; omega) (at_Str K M s hs) rfl kk
theorem pf_X5_wind {index : Nat} {v : Int32} {s : Nat} (hs : s < 5) (hG : GF G K own cc d) (hd : decode cc pc = .ok (.putfield index, 3)) (hl : Cond.fieldLink own index RX5 "wind" "I" ∈ TW) (kk : J G K (u1 M s 3 0 v) (pc + 3) ls st) : J G K M pc ls (.int v :: rf K (iS s) :: st) :=
  J_putf hG hd 5 hl tw_lay5 tyX5 tyX5_ok nmX5 rfl (by decide) rfl (by unfold iS; omega) (at_Str K M s hs) (by show 5 < 10; decide) rfl rfl (set1 (Eq.trans (own1_a (by omega) (by decide)) (by first | rfl | (simp only [iS]; omega) | omega)) ((at_Str K (u1 M s 3 0 v) s hs).trans (by simp [u1]))) kk
theorem gf_X5_day {index : Nat} {s : Nat} (hs : s < 5) (hG : GF G K own cc d) (hd : decode cc pc = .ok (.getfield index, 3)) (hl : Cond.fieldLink own index RX5 "day" "I" ∈ TW) (kk : J G K M (pc + 3) ls (.int (M.1 s 3 1) :: st)) : J G K M pc ls (rf K (iS s) :: st) :=
  J_getf hG hd 6 hl tw_lay5 rfl (by decide) (by unfold iS; omega) (at_Str K M s hs) rfl kk
theorem pf_X5_day {index : Nat} {v : Int32} {s : Nat} (hs : s < 5) (hG : GF G K own cc d) (hd : decode cc pc = .ok (.putfield index, 3)) (hl : Cond.fieldLink own index RX5 "day" "I" ∈ TW) (kk : J G K (u1 M s 3 1 v) (pc + 3) ls st) : J G K M pc ls (.int v :: rf K (iS s) :: st) :=
  J_putf hG hd 6 hl tw_lay5 tyX5 tyX5_ok nmX5 rfl (by decide) rfl (by unfold iS; omega) (at_Str K M s hs) (by show 6 < 10; decide) rfl rfl (set1 (Eq.trans (own1_a (by omega) (by decide)) (by first | rfl | (simp only [iS]; omega) | omega)) ((at_Str K (u1 M s 3 1 v) s hs).trans (by simp [u1]))) kk
theorem gf_X5_lent {index : Nat} {s : Nat} (hs : s < 5) (hG : GF G K own cc d) (hd : decode cc pc = .ok (.getfield index, 3)) (hl : Cond.fieldLink own index RX5 "lent" "I" ∈ TW) (kk : J G K M (pc + 3) ls (.int (M.1 s 3 2) :: st)) : J G K M pc ls (rf K (iS s) :: st) :=
  J_getf hG hd 7 hl tw_lay5 rfl (by decide) (by unfold iS; omega) (at_Str K M s hs) rfl kk
theorem pf_X5_lent {index : Nat} {v : Int32} {s : Nat} (hs : s < 5) (hG : GF G K own cc d) (hd : decode cc pc = .ok (.putfield index, 3)) (hl : Cond.fieldLink own index RX5 "lent" "I" ∈ TW) (kk : J G K (u1 M s 3 2 v) (pc + 3) ls st) : J G K M pc ls (.int v :: rf K (iS s) :: st) :=
  J_putf hG hd 7 hl tw_lay5 tyX5 tyX5_ok nmX5 rfl (by decide) rfl (by unfold iS; omega) (at_Str K M s hs) (by show 7 < 10; decide) rfl rfl (set1 (Eq.trans (own1_a (by omega) (by decide)) (by first | rfl | (simp only [iS]; omega) | omega)) ((at_Str K (u1 M s 3 2 v) s hs).trans (by simp [u1]))) kk
theorem gf_X5_said {index : Nat} {s : Nat} (hs : s < 5) (hG : GF G K own cc d) (hd : decode cc pc = .ok (.getfield index, 3)) (hl : Cond.fieldLink own index RX5 "said" "I" ∈ TW) (kk : J G K M (pc + 3) ls (.int (M.1 s 4 0) :: st)) : J G K M pc ls (rf K (iS s) :: st) :=
  J_getf hG hd 8 hl tw_lay5 rfl (by decide) (by unfold iS; omega) (at_Str K M s hs) rfl kk
theorem pf_X5_said {index : Nat} {v : Int32} {s : Nat} (hs : s < 5) (hG : GF G K own cc d) (hd : decode cc pc = .ok (.putfield index, 3)) (hl : Cond.fieldLink own index RX5 "said" "I" ∈ TW) (kk : J G K (u1 M s 4 0 v) (pc + 3) ls st) : J G K M pc ls (.int v :: rf K (iS s) :: st) :=
  J_putf hG hd 8 hl tw_lay5 tyX5 tyX5_ok nmX5 rfl (by decide) rfl (by unfold iS; omega) (at_Str K M s hs) (by show 8 < 10; decide) rfl rfl (set1 (Eq.trans (own1_a (by omega) (by decide)) (by first | rfl | (simp only [iS]; omega) | omega)) ((at_Str K (u1 M s 4 0 v) s hs).trans (by simp [u1]))) kk
theorem gf_X5_seed {index : Nat} {s : Nat} (hs : s < 5) (hG : GF G K own cc d) (hd : decode cc pc = .ok (.getfield index, 3)) (hl : Cond.fieldLink own index RX5 "seed" "I" ∈ TW) (kk : J G K M (pc + 3) ls (.int (M.1 s 5 0) :: st)) : J G K M pc ls (rf K (iS s) :: st) :=
  J_getf hG hd 9 hl tw_lay5 rfl (by decide) (by unfold iS; omega) (at_Str K M s hs) rfl kk
theorem pf_X5_seed {index : Nat} {v : Int32} {s : Nat} (hs : s < 5) (hG : GF G K own cc d) (hd : decode cc pc = .ok (.putfield index, 3)) (hl : Cond.fieldLink own index RX5 "seed" "I" ∈ TW) (kk : J G K (u1 M s 5 0 v) (pc + 3) ls st) : J G K M pc ls (.int v :: rf K (iS s) :: st) :=
  J_putf hG hd 9 hl tw_lay5 tyX5 tyX5_ok nmX5 rfl (by decide) rfl (by unfold iS; omega) (at_Str K M s hs) (by show 9 < 10; decide) rfl rfl (set1 (Eq.trans (own1_a (by omega) (by decide)) (by first | rfl | (simp only [iS]; omega) | omega)) ((at_Str K (u1 M s 5 0 v) s hs).trans (by simp [u1]))) kk
theorem aa_WA {i : Int32} {j : Nat} {s : Nat} (hs : s < 5) (hG : GF G K own cc d) (hd : decode cc pc = .ok (.aaload, 1)) (hx : ix i 8 j) (kk : J G K M (pc + 1) ls (rf K (iW s j) :: st)) : J G K M pc ls (.int i :: rf K (iWA s) :: st) :=
  J_aald (t := 2) (ty := .object RX7) hG hd (by unfold iWA; omega) (at_WA K M s hs) rfl rfl hx rfl kk
theorem aa_PA {i : Int32} {j : Nat} {s : Nat} (hs : s < 5) (hG : GF G K own cc d) (hd : decode cc pc = .ok (.aaload, 1)) (hx : ix i 8 j) (kk : J G K M (pc + 1) ls (rf K (iP s j) :: st)) : J G K M pc ls (.int i :: rf K (iPA s) :: st) :=
  J_aald (t := 3) (ty := .object RX2) hG hd (by unfold iPA; omega) (at_PA K M s hs) rfl rfl hx rfl kk
theorem gf_X4_row {index : Nat} {t : Nat} (ht : t < 8) (hG : GF G K own cc d) (hd : decode cc pc = .ok (.getfield index, 3)) (hl : Cond.fieldLink own index RX4 "row" "LThrownRosesReturn$Row;" ∈ TW) (kk : J G K M (pc + 3) ls (rf K (iR t) :: st)) : J G K M pc ls (rf K (iH t) :: st) :=
  J_getf hG hd 0 hl tw_lay4 rfl (by decide) (by unfold iH; omega) (at_She K M t ht) rfl kk
theorem gf_X4_hasRow {index : Nat} {t : Nat} (ht : t < 8) (hG : GF G K own cc d) (hd : decode cc pc = .ok (.getfield index, 3)) (hl : Cond.fieldLink own index RX4 "hasRow" "Z" ∈ TW) (kk : J G K M (pc + 3) ls (.int (M.2.1 9 t) :: st)) : J G K M pc ls (rf K (iH t) :: st) :=
  J_getf hG hd 1 hl tw_lay4 rfl (by decide) (by unfold iH; omega) (at_She K M t ht) rfl kk
theorem pf_X4_hasRow {index : Nat} {v : Int32} (hv : v = 0 ∨ v = 1) {t : Nat} (ht : t < 8) (hG : GF G K own cc d) (hd : decode cc pc = .ok (.putfield index, 3)) (hl : Cond.fieldLink own index RX4 "hasRow" "Z" ∈ TW) (kk : J G K (u2 M 9 t v) (pc + 3) ls st) : J G K M pc ls (.int v :: rf K (iH t) :: st) :=
  J_putf hG hd 1 hl tw_lay4 tyX4 tyX4_ok nmX4 rfl (by decide) rfl (by unfold iH; omega) (at_She K M t ht) (by show 1 < 3; decide) (by rcases hv with rfl | rfl <;> rfl) (by rcases hv with rfl | rfl <;> rfl) (set2 (Eq.trans (show own2 9 t = 27 + t from rfl) (by first | rfl | (simp only [iH]; omega) | omega)) ((at_She K (u2 M 9 t v) t ht).trans (by simp [u2]))) kk
theorem gf_X4_person {index : Nat} {t : Nat} (ht : t < 8) (hG : GF G K own cc d) (hd : decode cc pc = .ok (.getfield index, 3)) (hl : Cond.fieldLink own index RX4 "person" "I" ∈ TW) (kk : J G K M (pc + 3) ls (.int (M.2.1 10 t) :: st)) : J G K M pc ls (rf K (iH t) :: st) :=
  J_getf hG hd 2 hl tw_lay4 rfl (by decide) (by unfold iH; omega) (at_She K M t ht) rfl kk
theorem pf_X4_person {index : Nat} {v : Int32} {t : Nat} (ht : t < 8) (hG : GF G K own cc d) (hd : decode cc pc = .ok (.putfield index, 3)) (hl : Cond.fieldLink own index RX4 "person" "I" ∈ TW) (kk : J G K (u2 M 10 t v) (pc + 3) ls st) : J G K M pc ls (.int v :: rf K (iH t) :: st) :=
  J_putf hG hd 2 hl tw_lay4 tyX4 tyX4_ok nmX4 rfl (by decide) rfl (by unfold iH; omega) (at_She K M t ht) (by show 2 < 3; decide) rfl rfl (set2 (Eq.trans (show own2 10 t = 27 + t from rfl) (by first | rfl | (simp only [iH]; omega) | omega)) ((at_She K (u2 M 10 t v) t ht).trans (by simp [u2]))) kk
theorem gf_X3_elements {index : Nat} {t : Nat} (ht : t < 8) (hG : GF G K own cc d) (hd : decode cc pc = .ok (.getfield index, 3)) (hl : Cond.fieldLink own index RX3 "elements" "[J" ∈ TW) (kk : J G K M (pc + 3) ls (rf K (iE t) :: st)) : J G K M pc ls (rf K (iR t) :: st) :=
  J_getf hG hd 0 hl tw_lay3 rfl (by decide) (by unfold iR; omega) (at_Row K M t ht) rfl kk
theorem gf_X3_sort {index : Nat} {t : Nat} (ht : t < 8) (hG : GF G K own cc d) (hd : decode cc pc = .ok (.getfield index, 3)) (hl : Cond.fieldLink own index RX3 "sort" "I" ∈ TW) (kk : J G K M (pc + 3) ls (.int (M.2.1 11 t) :: st)) : J G K M pc ls (rf K (iR t) :: st) :=
  J_getf hG hd 1 hl tw_lay3 rfl (by decide) (by unfold iR; omega) (at_Row K M t ht) rfl kk
theorem pf_X3_sort {index : Nat} {v : Int32} {t : Nat} (ht : t < 8) (hG : GF G K own cc d) (hd : decode cc pc = .ok (.putfield index, 3)) (hl : Cond.fieldLink own index RX3 "sort" "I" ∈ TW) (kk : J G K (u2 M 11 t v) (pc + 3) ls st) : J G K M pc ls (.int v :: rf K (iR t) :: st) :=
  J_putf hG hd 1 hl tw_lay3 tyX3 tyX3_ok nmX3 rfl (by decide) rfl (by unfold iR; omega) (at_Row K M t ht) (by show 1 < 3; decide) rfl rfl (set2 (Eq.trans (show own2 11 t = 35 + t from rfl) (by first | rfl | (simp only [iR]; omega) | omega)) ((at_Row K (u2 M 11 t v) t ht).trans (by simp [u2]))) kk
theorem gf_X3_size {index : Nat} {t : Nat} (ht : t < 8) (hG : GF G K own cc d) (hd : decode cc pc = .ok (.getfield index, 3)) (hl : Cond.fieldLink own index RX3 "size" "I" ∈ TW) (kk : J G K M (pc + 3) ls (.int (M.2.1 12 t) :: st)) : J G K M pc ls (rf K (iR t) :: st) :=
  J_getf hG hd 2 hl tw_lay3 rfl (by decide) (by unfold iR; omega) (at_Row K M t ht) rfl kk
theorem pf_X3_size {index : Nat} {v : Int32} {t : Nat} (ht : t < 8) (hG : GF G K own cc d) (hd : decode cc pc = .ok (.putfield index, 3)) (hl : Cond.fieldLink own index RX3 "size" "I" ∈ TW) (kk : J G K (u2 M 12 t v) (pc + 3) ls st) : J G K M pc ls (.int v :: rf K (iR t) :: st) :=
  J_putf hG hd 2 hl tw_lay3 tyX3 tyX3_ok nmX3 rfl (by decide) rfl (by unfold iR; omega) (at_Row K M t ht) (by show 2 < 3; decide) rfl rfl (set2 (Eq.trans (show own2 12 t = 35 + t from rfl) (by first | rfl | (simp only [iR]; omega) | omega)) ((at_Row K (u2 M 12 t v) t ht).trans (by simp [u2]))) kk
theorem al_Ele {i : Int32} {j : Nat} {t : Nat} (ht : t < 8) (hG : GF G K own cc d) (hd : decode cc pc = .ok (.laload, 1)) (hx : ix i 40 j) (kk : J G K M (pc + 1) ls (.long (M.2.2 t j) :: st)) : J G K M pc ls (.int i :: rf K (iE t) :: st) :=
  J_lald hG hd (by unfold iE; omega) (at_Ele K M t ht) hx kk
theorem as_Ele {i : Int32} {x : Int64} {j : Nat} {t : Nat} (ht : t < 8) (hG : GF G K own cc d) (hd : decode cc pc = .ok (.lastore, 1)) (hx : ix i 40 j) (kk : J G K (u3 M t j x) (pc + 1) ls st) : J G K M pc ls (.long x :: .int i :: rf K (iE t) :: st) :=
  J_last hG hd (by unfold iE; omega) (at_Ele K M t ht) hx (set3 (Eq.trans (own3_a (by omega)) (by first | rfl | (simp only [iE]; omega) | omega)) ((at_Ele K (u3 M t j x) t ht).trans (by simp [u3]; try rfl))) kk
theorem al_Bro {i : Int32} {j : Nat} {t : Nat} (ht : t < 9) (hG : GF G K own cc d) (hd : decode cc pc = .ok (.iaload, 1)) (hx : ix i 256 j) (kk : J G K M (pc + 1) ls (.int (M.2.1 (13 + t) j) :: st)) : J G K M pc ls (.int i :: rf K (iB t) :: st) :=
  J_iald hG hd (by unfold iB; omega) (at_Bro K M t ht) hx kk
theorem as_Bro {i : Int32} {x : Int32} {j : Nat} {t : Nat} (ht : t < 9) (hG : GF G K own cc d) (hd : decode cc pc = .ok (.iastore, 1)) (hx : ix i 256 j) (kk : J G K (u2 M (13 + t) j x) (pc + 1) ls st) : J G K M pc ls (.int x :: .int i :: rf K (iB t) :: st) :=
  J_iast hG hd (by unfold iB; omega) (at_Bro K M t ht) hx (set2 (Eq.trans (own2_t (by omega)) (by first | rfl | (simp only [iB]; omega) | omega)) ((at_Bro K (u2 M (13 + t) j x) t ht).trans (by simp [u2]; try rfl))) kk
theorem gf_X7_cell {index : Nat} {s : Nat} (hs : s < 5) {t : Nat} (ht : t < 8) (hG : GF G K own cc d) (hd : decode cc pc = .ok (.getfield index, 3)) (hl : Cond.fieldLink own index RX7 "cell" "I" ∈ TW) (kk : J G K M (pc + 3) ls (.int (M.1 s 6 t) :: st)) : J G K M pc ls (rf K (iW s t) :: st) :=
  J_getf hG hd 0 hl tw_lay7 rfl (by decide) (by unfold iW; omega) (at_Win K M s t hs ht) rfl kk
theorem pf_X7_cell {index : Nat} {v : Int32} {s : Nat} (hs : s < 5) {t : Nat} (ht : t < 8) (hG : GF G K own cc d) (hd : decode cc pc = .ok (.putfield index, 3)) (hl : Cond.fieldLink own index RX7 "cell" "I" ∈ TW) (kk : J G K (u1 M s 6 t v) (pc + 3) ls st) : J G K M pc ls (.int v :: rf K (iW s t) :: st) :=
  J_putf hG hd 0 hl tw_lay7 tyX7 tyX7_ok nmX7 rfl (by decide) rfl (by unfold iW; omega) (at_Win K M s t hs ht) (by show 0 < 3; decide) rfl rfl (set1 (Eq.trans (own1_b (by omega) (by decide) (by decide)) (by first | rfl | (simp only [iW]; omega) | omega)) ((at_Win K (u1 M s 6 t v) s t hs ht).trans (by simp [u1]))) kk
theorem gf_X7_floor {index : Nat} {s : Nat} (hs : s < 5) {t : Nat} (ht : t < 8) (hG : GF G K own cc d) (hd : decode cc pc = .ok (.getfield index, 3)) (hl : Cond.fieldLink own index RX7 "floor" "I" ∈ TW) (kk : J G K M (pc + 3) ls (.int (M.1 s 7 t) :: st)) : J G K M pc ls (rf K (iW s t) :: st) :=
  J_getf hG hd 1 hl tw_lay7 rfl (by decide) (by unfold iW; omega) (at_Win K M s t hs ht) rfl kk
theorem pf_X7_floor {index : Nat} {v : Int32} {s : Nat} (hs : s < 5) {t : Nat} (ht : t < 8) (hG : GF G K own cc d) (hd : decode cc pc = .ok (.putfield index, 3)) (hl : Cond.fieldLink own index RX7 "floor" "I" ∈ TW) (kk : J G K (u1 M s 7 t v) (pc + 3) ls st) : J G K M pc ls (.int v :: rf K (iW s t) :: st) :=
  J_putf hG hd 1 hl tw_lay7 tyX7 tyX7_ok nmX7 rfl (by decide) rfl (by unfold iW; omega) (at_Win K M s t hs ht) (by show 1 < 3; decide) rfl rfl (set1 (Eq.trans (own1_b (by omega) (by decide) (by decide)) (by first | rfl | (simp only [iW]; omega) | omega)) ((at_Win K (u1 M s 7 t v) s t hs ht).trans (by simp [u1]))) kk
theorem gf_X7_thorns {index : Nat} {s : Nat} (hs : s < 5) {t : Nat} (ht : t < 8) (hG : GF G K own cc d) (hd : decode cc pc = .ok (.getfield index, 3)) (hl : Cond.fieldLink own index RX7 "thorns" "I" ∈ TW) (kk : J G K M (pc + 3) ls (.int (M.1 s 8 t) :: st)) : J G K M pc ls (rf K (iW s t) :: st) :=
  J_getf hG hd 2 hl tw_lay7 rfl (by decide) (by unfold iW; omega) (at_Win K M s t hs ht) rfl kk
theorem pf_X7_thorns {index : Nat} {v : Int32} {s : Nat} (hs : s < 5) {t : Nat} (ht : t < 8) (hG : GF G K own cc d) (hd : decode cc pc = .ok (.putfield index, 3)) (hl : Cond.fieldLink own index RX7 "thorns" "I" ∈ TW) (kk : J G K (u1 M s 8 t v) (pc + 3) ls st) : J G K M pc ls (.int v :: rf K (iW s t) :: st) :=
  J_putf hG hd 2 hl tw_lay7 tyX7 tyX7_ok nmX7 rfl (by decide) rfl (by unfold iW; omega) (at_Win K M s t hs ht) (by show 2 < 3; decide) rfl rfl (set1 (Eq.trans (own1_b (by omega) (by decide) (by decide)) (by first | rfl | (simp only [iW]; omega) | omega)) ((at_Win K (u1 M s 8 t v) s t hs ht).trans (by simp [u1]))) kk
theorem gf_X2_kind {index : Nat} {s : Nat} (hs : s < 5) {t : Nat} (ht : t < 8) (hG : GF G K own cc d) (hd : decode cc pc = .ok (.getfield index, 3)) (hl : Cond.fieldLink own index RX2 "kind" "I" ∈ TW) (kk : J G K M (pc + 3) ls (.int (M.1 s 9 t) :: st)) : J G K M pc ls (rf K (iP s t) :: st) :=
  J_getf hG hd 0 hl tw_lay2 rfl (by decide) (by unfold iP; omega) (at_Per K M s t hs ht) rfl kk
theorem pf_X2_kind {index : Nat} {v : Int32} {s : Nat} (hs : s < 5) {t : Nat} (ht : t < 8) (hG : GF G K own cc d) (hd : decode cc pc = .ok (.putfield index, 3)) (hl : Cond.fieldLink own index RX2 "kind" "I" ∈ TW) (kk : J G K (u1 M s 9 t v) (pc + 3) ls st) : J G K M pc ls (.int v :: rf K (iP s t) :: st) :=
  J_putf hG hd 0 hl tw_lay2 tyX2 tyX2_ok nmX2 rfl (by decide) rfl (by unfold iP; omega) (at_Per K M s t hs ht) (by show 0 < 5; decide) rfl rfl (set1 (Eq.trans (own1_c (by omega) (by decide) (by decide)) (by first | rfl | (simp only [iP]; omega) | omega)) ((at_Per K (u1 M s 9 t v) s t hs ht).trans (by simp [u1]))) kk
theorem gf_X2_a {index : Nat} {s : Nat} (hs : s < 5) {t : Nat} (ht : t < 8) (hG : GF G K own cc d) (hd : decode cc pc = .ok (.getfield index, 3)) (hl : Cond.fieldLink own index RX2 "a" "I" ∈ TW) (kk : J G K M (pc + 3) ls (.int (M.1 s 10 t) :: st)) : J G K M pc ls (rf K (iP s t) :: st) :=
  J_getf hG hd 1 hl tw_lay2 rfl (by decide) (by unfold iP; omega) (at_Per K M s t hs ht) rfl kk
theorem pf_X2_a {index : Nat} {v : Int32} {s : Nat} (hs : s < 5) {t : Nat} (ht : t < 8) (hG : GF G K own cc d) (hd : decode cc pc = .ok (.putfield index, 3)) (hl : Cond.fieldLink own index RX2 "a" "I" ∈ TW) (kk : J G K (u1 M s 10 t v) (pc + 3) ls st) : J G K M pc ls (.int v :: rf K (iP s t) :: st) :=
  J_putf hG hd 1 hl tw_lay2 tyX2 tyX2_ok nmX2 rfl (by decide) rfl (by unfold iP; omega) (at_Per K M s t hs ht) (by show 1 < 5; decide) rfl rfl (set1 (Eq.trans (own1_c (by omega) (by decide) (by decide)) (by first | rfl | (simp only [iP]; omega) | omega)) ((at_Per K (u1 M s 10 t v) s t hs ht).trans (by simp [u1]))) kk
theorem gf_X2_at {index : Nat} {s : Nat} (hs : s < 5) {t : Nat} (ht : t < 8) (hG : GF G K own cc d) (hd : decode cc pc = .ok (.getfield index, 3)) (hl : Cond.fieldLink own index RX2 "at" "I" ∈ TW) (kk : J G K M (pc + 3) ls (.int (M.1 s 11 t) :: st)) : J G K M pc ls (rf K (iP s t) :: st) :=
  J_getf hG hd 2 hl tw_lay2 rfl (by decide) (by unfold iP; omega) (at_Per K M s t hs ht) rfl kk
theorem pf_X2_at {index : Nat} {v : Int32} {s : Nat} (hs : s < 5) {t : Nat} (ht : t < 8) (hG : GF G K own cc d) (hd : decode cc pc = .ok (.putfield index, 3)) (hl : Cond.fieldLink own index RX2 "at" "I" ∈ TW) (kk : J G K (u1 M s 11 t v) (pc + 3) ls st) : J G K M pc ls (.int v :: rf K (iP s t) :: st) :=
  J_putf hG hd 2 hl tw_lay2 tyX2 tyX2_ok nmX2 rfl (by decide) rfl (by unfold iP; omega) (at_Per K M s t hs ht) (by show 2 < 5; decide) rfl rfl (set1 (Eq.trans (own1_c (by omega) (by decide) (by decide)) (by first | rfl | (simp only [iP]; omega) | omega)) ((at_Per K (u1 M s 11 t v) s t hs ht).trans (by simp [u1]))) kk
theorem gf_X2_rose {index : Nat} {s : Nat} (hs : s < 5) {t : Nat} (ht : t < 8) (hG : GF G K own cc d) (hd : decode cc pc = .ok (.getfield index, 3)) (hl : Cond.fieldLink own index RX2 "rose" "I" ∈ TW) (kk : J G K M (pc + 3) ls (.int (M.1 s 12 t) :: st)) : J G K M pc ls (rf K (iP s t) :: st) :=
  J_getf hG hd 3 hl tw_lay2 rfl (by decide) (by unfold iP; omega) (at_Per K M s t hs ht) rfl kk
theorem pf_X2_rose {index : Nat} {v : Int32} {s : Nat} (hs : s < 5) {t : Nat} (ht : t < 8) (hG : GF G K own cc d) (hd : decode cc pc = .ok (.putfield index, 3)) (hl : Cond.fieldLink own index RX2 "rose" "I" ∈ TW) (kk : J G K (u1 M s 12 t v) (pc + 3) ls st) : J G K M pc ls (.int v :: rf K (iP s t) :: st) :=
  J_putf hG hd 3 hl tw_lay2 tyX2 tyX2_ok nmX2 rfl (by decide) rfl (by unfold iP; omega) (at_Per K M s t hs ht) (by show 3 < 5; decide) rfl rfl (set1 (Eq.trans (own1_c (by omega) (by decide) (by decide)) (by first | rfl | (simp only [iP]; omega) | omega)) ((at_Per K (u1 M s 12 t v) s t hs ht).trans (by simp [u1]))) kk
theorem gf_X2_due {index : Nat} {s : Nat} (hs : s < 5) {t : Nat} (ht : t < 8) (hG : GF G K own cc d) (hd : decode cc pc = .ok (.getfield index, 3)) (hl : Cond.fieldLink own index RX2 "due" "I" ∈ TW) (kk : J G K M (pc + 3) ls (.int (M.1 s 13 t) :: st)) : J G K M pc ls (rf K (iP s t) :: st) :=
  J_getf hG hd 4 hl tw_lay2 rfl (by decide) (by unfold iP; omega) (at_Per K M s t hs ht) rfl kk
theorem pf_X2_due {index : Nat} {v : Int32} {s : Nat} (hs : s < 5) {t : Nat} (ht : t < 8) (hG : GF G K own cc d) (hd : decode cc pc = .ok (.putfield index, 3)) (hl : Cond.fieldLink own index RX2 "due" "I" ∈ TW) (kk : J G K (u1 M s 13 t v) (pc + 3) ls st) : J G K M pc ls (.int v :: rf K (iP s t) :: st) :=
  J_putf hG hd 4 hl tw_lay2 tyX2 tyX2_ok nmX2 rfl (by decide) rfl (by unfold iP; omega) (at_Per K M s t hs ht) (by show 4 < 5; decide) rfl rfl (set1 (Eq.trans (own1_c (by omega) (by decide) (by decide)) (by first | rfl | (simp only [iP]; omega) | omega)) ((at_Per K (u1 M s 13 t v) s t hs ht).trans (by simp [u1]))) kk
theorem gf_X9_n {index : Nat} (hG : GF G K own cc d) (hd : decode cc pc = .ok (.getfield index, 3)) (hl : Cond.fieldLink own index RX9 "n" "I" ∈ TW) (kk : J G K M (pc + 3) ls (.int (M.1 5 2 0) :: st)) : J G K M pc ls (rf K 140 :: st) :=
  J_getf hG hd 0 hl tw_lay9 rfl (by decide) (by decide) (at_Mod K M) rfl kk
theorem pf_X9_n {index : Nat} {v : Int32} (hG : GF G K own cc d) (hd : decode cc pc = .ok (.putfield index, 3)) (hl : Cond.fieldLink own index RX9 "n" "I" ∈ TW) (kk : J G K (u1 M 5 2 0 v) (pc + 3) ls st) : J G K M pc ls (.int v :: rf K 140 :: st) :=
  J_putf hG hd 0 hl tw_lay9 tyX9 tyX9_ok nmX9 rfl (by decide) rfl (by decide) (at_Mod K M) (by show 0 < 32; decide) rfl rfl (set1 (Eq.trans (show own1 5 2 0 = 140 from rfl) (by first | rfl | (simp only []; omega) | omega)) ((at_Mod K (u1 M 5 2 0 v)).trans (by simp [u1]))) kk
theorem gf_X9_ways {index : Nat} (hG : GF G K own cc d) (hd : decode cc pc = .ok (.getfield index, 3)) (hl : Cond.fieldLink own index RX9 "ways" "[I" ∈ TW) (kk : J G K M (pc + 3) ls (rf K 141 :: st)) : J G K M pc ls (rf K 140 :: st) :=
  J_getf hG hd 1 hl tw_lay9 rfl (by decide) (by decide) (at_Mod K M) rfl kk
theorem gf_X9_said {index : Nat} (hG : GF G K own cc d) (hd : decode cc pc = .ok (.getfield index, 3)) (hl : Cond.fieldLink own index RX9 "said" "I" ∈ TW) (kk : J G K M (pc + 3) ls (.int (M.1 5 4 0) :: st)) : J G K M pc ls (rf K 140 :: st) :=
  J_getf hG hd 2 hl tw_lay9 rfl (by decide) (by decide) (at_Mod K M) rfl kk
theorem pf_X9_said {index : Nat} {v : Int32} (hG : GF G K own cc d) (hd : decode cc pc = .ok (.putfield index, 3)) (hl : Cond.fieldLink own index RX9 "said" "I" ∈ TW) (kk : J G K (u1 M 5 4 0 v) (pc + 3) ls st) : J G K M pc ls (.int v :: rf K 140 :: st) :=
  J_putf hG hd 2 hl tw_lay9 tyX9 tyX9_ok nmX9 rfl (by decide) rfl (by decide) (at_Mod K M) (by show 2 < 32; decide) rfl rfl (set1 (Eq.trans (show own1 5 4 0 = 140 from rfl) (by first | rfl | (simp only []; omega) | omega)) ((at_Mod K (u1 M 5 4 0 v)).trans (by simp [u1]))) kk
theorem gf_X9_windows {index : Nat} (hG : GF G K own cc d) (hd : decode cc pc = .ok (.getfield index, 3)) (hl : Cond.fieldLink own index RX9 "windows" "I" ∈ TW) (kk : J G K M (pc + 3) ls (.int (M.1 5 0 0) :: st)) : J G K M pc ls (rf K 140 :: st) :=
  J_getf hG hd 3 hl tw_lay9 rfl (by decide) (by decide) (at_Mod K M) rfl kk
theorem pf_X9_windows {index : Nat} {v : Int32} (hG : GF G K own cc d) (hd : decode cc pc = .ok (.putfield index, 3)) (hl : Cond.fieldLink own index RX9 "windows" "I" ∈ TW) (kk : J G K (u1 M 5 0 0 v) (pc + 3) ls st) : J G K M pc ls (.int v :: rf K 140 :: st) :=
  J_putf hG hd 3 hl tw_lay9 tyX9 tyX9_ok nmX9 rfl (by decide) rfl (by decide) (at_Mod K M) (by show 3 < 32; decide) rfl rfl (set1 (Eq.trans (show own1 5 0 0 = 140 from rfl) (by first | rfl | (simp only []; omega) | omega)) ((at_Mod K (u1 M 5 0 0 v)).trans (by simp [u1]))) kk
theorem gf_X9_at {index : Nat} (hG : GF G K own cc d) (hd : decode cc pc = .ok (.getfield index, 3)) (hl : Cond.fieldLink own index RX9 "at" "[I" ∈ TW) (kk : J G K M (pc + 3) ls (rf K 142 :: st)) : J G K M pc ls (rf K 140 :: st) :=
  J_getf hG hd 4 hl tw_lay9 rfl (by decide) (by decide) (at_Mod K M) rfl kk
theorem gf_X9_floor {index : Nat} (hG : GF G K own cc d) (hd : decode cc pc = .ok (.getfield index, 3)) (hl : Cond.fieldLink own index RX9 "floor" "[I" ∈ TW) (kk : J G K M (pc + 3) ls (rf K 143 :: st)) : J G K M pc ls (rf K 140 :: st) :=
  J_getf hG hd 5 hl tw_lay9 rfl (by decide) (by decide) (at_Mod K M) rfl kk
theorem gf_X9_thorns {index : Nat} (hG : GF G K own cc d) (hd : decode cc pc = .ok (.getfield index, 3)) (hl : Cond.fieldLink own index RX9 "thorns" "[I" ∈ TW) (kk : J G K M (pc + 3) ls (rf K 144 :: st)) : J G K M pc ls (rf K 140 :: st) :=
  J_getf hG hd 6 hl tw_lay9 rfl (by decide) (by decide) (at_Mod K M) rfl kk
theorem gf_X9_people {index : Nat} (hG : GF G K own cc d) (hd : decode cc pc = .ok (.getfield index, 3)) (hl : Cond.fieldLink own index RX9 "people" "I" ∈ TW) (kk : J G K M (pc + 3) ls (.int (M.1 5 1 0) :: st)) : J G K M pc ls (rf K 140 :: st) :=
  J_getf hG hd 7 hl tw_lay9 rfl (by decide) (by decide) (at_Mod K M) rfl kk
theorem pf_X9_people {index : Nat} {v : Int32} (hG : GF G K own cc d) (hd : decode cc pc = .ok (.putfield index, 3)) (hl : Cond.fieldLink own index RX9 "people" "I" ∈ TW) (kk : J G K (u1 M 5 1 0 v) (pc + 3) ls st) : J G K M pc ls (.int v :: rf K 140 :: st) :=
  J_putf hG hd 7 hl tw_lay9 tyX9 tyX9_ok nmX9 rfl (by decide) rfl (by decide) (at_Mod K M) (by show 7 < 32; decide) rfl rfl (set1 (Eq.trans (show own1 5 1 0 = 140 from rfl) (by first | rfl | (simp only []; omega) | omega)) ((at_Mod K (u1 M 5 1 0 v)).trans (by simp [u1]))) kk
theorem gf_X9_kind {index : Nat} (hG : GF G K own cc d) (hd : decode cc pc = .ok (.getfield index, 3)) (hl : Cond.fieldLink own index RX9 "kind" "[I" ∈ TW) (kk : J G K M (pc + 3) ls (rf K 145 :: st)) : J G K M pc ls (rf K 140 :: st) :=
  J_getf hG hd 8 hl tw_lay9 rfl (by decide) (by decide) (at_Mod K M) rfl kk
theorem gf_X9_own {index : Nat} (hG : GF G K own cc d) (hd : decode cc pc = .ok (.getfield index, 3)) (hl : Cond.fieldLink own index RX9 "own" "[I" ∈ TW) (kk : J G K M (pc + 3) ls (rf K 146 :: st)) : J G K M pc ls (rf K 140 :: st) :=
  J_getf hG hd 9 hl tw_lay9 rfl (by decide) (by decide) (at_Mod K M) rfl kk
theorem gf_X9_place {index : Nat} (hG : GF G K own cc d) (hd : decode cc pc = .ok (.getfield index, 3)) (hl : Cond.fieldLink own index RX9 "place" "[I" ∈ TW) (kk : J G K M (pc + 3) ls (rf K 147 :: st)) : J G K M pc ls (rf K 140 :: st) :=
  J_getf hG hd 10 hl tw_lay9 rfl (by decide) (by decide) (at_Mod K M) rfl kk
theorem gf_X9_rose {index : Nat} (hG : GF G K own cc d) (hd : decode cc pc = .ok (.getfield index, 3)) (hl : Cond.fieldLink own index RX9 "rose" "[I" ∈ TW) (kk : J G K M (pc + 3) ls (rf K 148 :: st)) : J G K M pc ls (rf K 140 :: st) :=
  J_getf hG hd 11 hl tw_lay9 rfl (by decide) (by decide) (at_Mod K M) rfl kk
theorem gf_X9_due {index : Nat} (hG : GF G K own cc d) (hd : decode cc pc = .ok (.getfield index, 3)) (hl : Cond.fieldLink own index RX9 "due" "[I" ∈ TW) (kk : J G K M (pc + 3) ls (rf K 149 :: st)) : J G K M pc ls (rf K 140 :: st) :=
  J_getf hG hd 12 hl tw_lay9 rfl (by decide) (by decide) (at_Mod K M) rfl kk
theorem gf_X9_seed {index : Nat} (hG : GF G K own cc d) (hd : decode cc pc = .ok (.getfield index, 3)) (hl : Cond.fieldLink own index RX9 "seed" "I" ∈ TW) (kk : J G K M (pc + 3) ls (.int (M.1 5 5 0) :: st)) : J G K M pc ls (rf K 140 :: st) :=
  J_getf hG hd 13 hl tw_lay9 rfl (by decide) (by decide) (at_Mod K M) rfl kk
theorem pf_X9_seed {index : Nat} {v : Int32} (hG : GF G K own cc d) (hd : decode cc pc = .ok (.putfield index, 3)) (hl : Cond.fieldLink own index RX9 "seed" "I" ∈ TW) (kk : J G K (u1 M 5 5 0 v) (pc + 3) ls st) : J G K M pc ls (.int v :: rf K 140 :: st) :=
  J_putf hG hd 13 hl tw_lay9 tyX9 tyX9_ok nmX9 rfl (by decide) rfl (by decide) (at_Mod K M) (by show 13 < 32; decide) rfl rfl (set1 (Eq.trans (show own1 5 5 0 = 140 from rfl) (by first | rfl | (simp only []; omega) | omega)) ((at_Mod K (u1 M 5 5 0 v)).trans (by simp [u1]))) kk
theorem gf_X9_taped {index : Nat} (hG : GF G K own cc d) (hd : decode cc pc = .ok (.getfield index, 3)) (hl : Cond.fieldLink own index RX9 "taped" "I" ∈ TW) (kk : J G K M (pc + 3) ls (.int (M.2.1 30 0) :: st)) : J G K M pc ls (rf K 140 :: st) :=
  J_getf hG hd 14 hl tw_lay9 rfl (by decide) (by decide) (at_Mod K M) rfl kk
theorem pf_X9_taped {index : Nat} {v : Int32} (hG : GF G K own cc d) (hd : decode cc pc = .ok (.putfield index, 3)) (hl : Cond.fieldLink own index RX9 "taped" "I" ∈ TW) (kk : J G K (u2 M 30 0 v) (pc + 3) ls st) : J G K M pc ls (.int v :: rf K 140 :: st) :=
  J_putf hG hd 14 hl tw_lay9 tyX9 tyX9_ok nmX9 rfl (by decide) rfl (by decide) (at_Mod K M) (by show 14 < 32; decide) rfl rfl (set2 (Eq.trans (show own2 30 0 = 140 from rfl) (by first | rfl | (simp only []; omega) | omega)) ((at_Mod K (u2 M 30 0 v)).trans (by simp [u2]))) kk
theorem gf_X9_tape {index : Nat} (hG : GF G K own cc d) (hd : decode cc pc = .ok (.getfield index, 3)) (hl : Cond.fieldLink own index RX9 "tape" "[I" ∈ TW) (kk : J G K M (pc + 3) ls (rf K 150 :: st)) : J G K M pc ls (rf K 140 :: st) :=
  J_getf hG hd 15 hl tw_lay9 rfl (by decide) (by decide) (at_Mod K M) rfl kk
theorem gf_X9_from {index : Nat} (hG : GF G K own cc d) (hd : decode cc pc = .ok (.getfield index, 3)) (hl : Cond.fieldLink own index RX9 "from" "I" ∈ TW) (kk : J G K M (pc + 3) ls (.int (M.2.1 30 1) :: st)) : J G K M pc ls (rf K 140 :: st) :=
  J_getf hG hd 16 hl tw_lay9 rfl (by decide) (by decide) (at_Mod K M) rfl kk
theorem pf_X9_from {index : Nat} {v : Int32} (hG : GF G K own cc d) (hd : decode cc pc = .ok (.putfield index, 3)) (hl : Cond.fieldLink own index RX9 "from" "I" ∈ TW) (kk : J G K (u2 M 30 1 v) (pc + 3) ls st) : J G K M pc ls (.int v :: rf K 140 :: st) :=
  J_putf hG hd 16 hl tw_lay9 tyX9 tyX9_ok nmX9 rfl (by decide) rfl (by decide) (at_Mod K M) (by show 16 < 32; decide) rfl rfl (set2 (Eq.trans (show own2 30 1 = 140 from rfl) (by first | rfl | (simp only []; omega) | omega)) ((at_Mod K (u2 M 30 1 v)).trans (by simp [u2]))) kk
theorem gf_X9_to {index : Nat} (hG : GF G K own cc d) (hd : decode cc pc = .ok (.getfield index, 3)) (hl : Cond.fieldLink own index RX9 "to" "I" ∈ TW) (kk : J G K M (pc + 3) ls (.int (M.2.1 30 2) :: st)) : J G K M pc ls (rf K 140 :: st) :=
  J_getf hG hd 17 hl tw_lay9 rfl (by decide) (by decide) (at_Mod K M) rfl kk
theorem pf_X9_to {index : Nat} {v : Int32} (hG : GF G K own cc d) (hd : decode cc pc = .ok (.putfield index, 3)) (hl : Cond.fieldLink own index RX9 "to" "I" ∈ TW) (kk : J G K (u2 M 30 2 v) (pc + 3) ls st) : J G K M pc ls (.int v :: rf K 140 :: st) :=
  J_putf hG hd 17 hl tw_lay9 tyX9 tyX9_ok nmX9 rfl (by decide) rfl (by decide) (at_Mod K M) (by show 17 < 32; decide) rfl rfl (set2 (Eq.trans (show own2 30 2 = 140 from rfl) (by first | rfl | (simp only []; omega) | omega)) ((at_Mod K (u2 M 30 2 v)).trans (by simp [u2]))) kk
theorem gf_X9_token {index : Nat} (hG : GF G K own cc d) (hd : decode cc pc = .ok (.getfield index, 3)) (hl : Cond.fieldLink own index RX9 "token" "I" ∈ TW) (kk : J G K M (pc + 3) ls (.int (M.2.1 30 3) :: st)) : J G K M pc ls (rf K 140 :: st) :=
  J_getf hG hd 18 hl tw_lay9 rfl (by decide) (by decide) (at_Mod K M) rfl kk
theorem pf_X9_token {index : Nat} {v : Int32} (hG : GF G K own cc d) (hd : decode cc pc = .ok (.putfield index, 3)) (hl : Cond.fieldLink own index RX9 "token" "I" ∈ TW) (kk : J G K (u2 M 30 3 v) (pc + 3) ls st) : J G K M pc ls (.int v :: rf K 140 :: st) :=
  J_putf hG hd 18 hl tw_lay9 tyX9 tyX9_ok nmX9 rfl (by decide) rfl (by decide) (at_Mod K M) (by show 18 < 32; decide) rfl rfl (set2 (Eq.trans (show own2 30 3 = 140 from rfl) (by first | rfl | (simp only []; omega) | omega)) ((at_Mod K (u2 M 30 3 v)).trans (by simp [u2]))) kk
theorem gf_X9_value {index : Nat} (hG : GF G K own cc d) (hd : decode cc pc = .ok (.getfield index, 3)) (hl : Cond.fieldLink own index RX9 "value" "I" ∈ TW) (kk : J G K M (pc + 3) ls (.int (M.2.1 30 4) :: st)) : J G K M pc ls (rf K 140 :: st) :=
  J_getf hG hd 19 hl tw_lay9 rfl (by decide) (by decide) (at_Mod K M) rfl kk
theorem pf_X9_value {index : Nat} {v : Int32} (hG : GF G K own cc d) (hd : decode cc pc = .ok (.putfield index, 3)) (hl : Cond.fieldLink own index RX9 "value" "I" ∈ TW) (kk : J G K (u2 M 30 4 v) (pc + 3) ls st) : J G K M pc ls (.int v :: rf K 140 :: st) :=
  J_putf hG hd 19 hl tw_lay9 tyX9 tyX9_ok nmX9 rfl (by decide) rfl (by decide) (at_Mod K M) (by show 19 < 32; decide) rfl rfl (set2 (Eq.trans (show own2 30 4 = 140 from rfl) (by first | rfl | (simp only []; omega) | omega)) ((at_Mod K (u2 M 30 4 v)).trans (by simp [u2]))) kk
theorem gf_X9_holding {index : Nat} (hG : GF G K own cc d) (hd : decode cc pc = .ok (.getfield index, 3)) (hl : Cond.fieldLink own index RX9 "holding" "[I" ∈ TW) (kk : J G K M (pc + 3) ls (rf K 151 :: st)) : J G K M pc ls (rf K 140 :: st) :=
  J_getf hG hd 20 hl tw_lay9 rfl (by decide) (by decide) (at_Mod K M) rfl kk
theorem gf_X9_rowLength {index : Nat} (hG : GF G K own cc d) (hd : decode cc pc = .ok (.getfield index, 3)) (hl : Cond.fieldLink own index RX9 "rowLength" "[I" ∈ TW) (kk : J G K M (pc + 3) ls (rf K 152 :: st)) : J G K M pc ls (rf K 140 :: st) :=
  J_getf hG hd 21 hl tw_lay9 rfl (by decide) (by decide) (at_Mod K M) rfl kk
theorem gf_X9_rowOf {index : Nat} (hG : GF G K own cc d) (hd : decode cc pc = .ok (.getfield index, 3)) (hl : Cond.fieldLink own index RX9 "rowOf" "[J" ∈ TW) (kk : J G K M (pc + 3) ls (rf K 153 :: st)) : J G K M pc ls (rf K 140 :: st) :=
  J_getf hG hd 22 hl tw_lay9 rfl (by decide) (by decide) (at_Mod K M) rfl kk
theorem gf_X9_refusals {index : Nat} (hG : GF G K own cc d) (hd : decode cc pc = .ok (.getfield index, 3)) (hl : Cond.fieldLink own index RX9 "refusals" "[I" ∈ TW) (kk : J G K M (pc + 3) ls (rf K 154 :: st)) : J G K M pc ls (rf K 140 :: st) :=
  J_getf hG hd 23 hl tw_lay9 rfl (by decide) (by decide) (at_Mod K M) rfl kk
theorem gf_X9_imaged {index : Nat} (hG : GF G K own cc d) (hd : decode cc pc = .ok (.getfield index, 3)) (hl : Cond.fieldLink own index RX9 "imaged" "Z" ∈ TW) (kk : J G K M (pc + 3) ls (.int (M.2.1 30 5) :: st)) : J G K M pc ls (rf K 140 :: st) :=
  J_getf hG hd 24 hl tw_lay9 rfl (by decide) (by decide) (at_Mod K M) rfl kk
theorem pf_X9_imaged {index : Nat} {v : Int32} (hv : v = 0 ∨ v = 1) (hG : GF G K own cc d) (hd : decode cc pc = .ok (.putfield index, 3)) (hl : Cond.fieldLink own index RX9 "imaged" "Z" ∈ TW) (kk : J G K (u2 M 30 5 v) (pc + 3) ls st) : J G K M pc ls (.int v :: rf K 140 :: st) :=
  J_putf hG hd 24 hl tw_lay9 tyX9 tyX9_ok nmX9 rfl (by decide) rfl (by decide) (at_Mod K M) (by show 24 < 32; decide) (by rcases hv with rfl | rfl <;> rfl) (by rcases hv with rfl | rfl <;> rfl) (set2 (Eq.trans (show own2 30 5 = 140 from rfl) (by first | rfl | (simp only []; omega) | omega)) ((at_Mod K (u2 M 30 5 v)).trans (by simp [u2]))) kk
theorem gf_X9_old {index : Nat} (hG : GF G K own cc d) (hd : decode cc pc = .ok (.getfield index, 3)) (hl : Cond.fieldLink own index RX9 "old" "[I" ∈ TW) (kk : J G K M (pc + 3) ls (rf K 155 :: st)) : J G K M pc ls (rf K 140 :: st) :=
  J_getf hG hd 25 hl tw_lay9 rfl (by decide) (by decide) (at_Mod K M) rfl kk
theorem gf_X9_before {index : Nat} (hG : GF G K own cc d) (hd : decode cc pc = .ok (.getfield index, 3)) (hl : Cond.fieldLink own index RX9 "before" "[I" ∈ TW) (kk : J G K M (pc + 3) ls (rf K 156 :: st)) : J G K M pc ls (rf K 140 :: st) :=
  J_getf hG hd 26 hl tw_lay9 rfl (by decide) (by decide) (at_Mod K M) rfl kk
theorem gf_X9_roses {index : Nat} (hG : GF G K own cc d) (hd : decode cc pc = .ok (.getfield index, 3)) (hl : Cond.fieldLink own index RX9 "roses" "[I" ∈ TW) (kk : J G K M (pc + 3) ls (rf K 157 :: st)) : J G K M pc ls (rf K 140 :: st) :=
  J_getf hG hd 27 hl tw_lay9 rfl (by decide) (by decide) (at_Mod K M) rfl kk
theorem gf_X9_hits {index : Nat} (hG : GF G K own cc d) (hd : decode cc pc = .ok (.getfield index, 3)) (hl : Cond.fieldLink own index RX9 "hits" "[I" ∈ TW) (kk : J G K M (pc + 3) ls (rf K 158 :: st)) : J G K M pc ls (rf K 140 :: st) :=
  J_getf hG hd 28 hl tw_lay9 rfl (by decide) (by decide) (at_Mod K M) rfl kk
theorem gf_X9_tried {index : Nat} (hG : GF G K own cc d) (hd : decode cc pc = .ok (.getfield index, 3)) (hl : Cond.fieldLink own index RX9 "tried" "[I" ∈ TW) (kk : J G K M (pc + 3) ls (rf K 159 :: st)) : J G K M pc ls (rf K 140 :: st) :=
  J_getf hG hd 29 hl tw_lay9 rfl (by decide) (by decide) (at_Mod K M) rfl kk
theorem gf_X9_best {index : Nat} (hG : GF G K own cc d) (hd : decode cc pc = .ok (.getfield index, 3)) (hl : Cond.fieldLink own index RX9 "best" "[I" ∈ TW) (kk : J G K M (pc + 3) ls (rf K 160 :: st)) : J G K M pc ls (rf K 140 :: st) :=
  J_getf hG hd 30 hl tw_lay9 rfl (by decide) (by decide) (at_Mod K M) rfl kk
theorem gf_X9_most {index : Nat} (hG : GF G K own cc d) (hd : decode cc pc = .ok (.getfield index, 3)) (hl : Cond.fieldLink own index RX9 "most" "I" ∈ TW) (kk : J G K M (pc + 3) ls (.int (M.2.1 30 6) :: st)) : J G K M pc ls (rf K 140 :: st) :=
  J_getf hG hd 31 hl tw_lay9 rfl (by decide) (by decide) (at_Mod K M) rfl kk
theorem pf_X9_most {index : Nat} {v : Int32} (hG : GF G K own cc d) (hd : decode cc pc = .ok (.putfield index, 3)) (hl : Cond.fieldLink own index RX9 "most" "I" ∈ TW) (kk : J G K (u2 M 30 6 v) (pc + 3) ls st) : J G K M pc ls (.int v :: rf K 140 :: st) :=
  J_putf hG hd 31 hl tw_lay9 tyX9 tyX9_ok nmX9 rfl (by decide) rfl (by decide) (at_Mod K M) (by show 31 < 32; decide) rfl rfl (set2 (Eq.trans (show own2 30 6 = 140 from rfl) (by first | rfl | (simp only []; omega) | omega)) ((at_Mod K (u2 M 30 6 v)).trans (by simp [u2]))) kk
theorem al_Mways {i : Int32} {j : Nat} (hG : GF G K own cc d) (hd : decode cc pc = .ok (.iaload, 1)) (hx : ix i 3 j) (kk : J G K M (pc + 1) ls (.int (M.1 5 3 j) :: st)) : J G K M pc ls (.int i :: rf K 141 :: st) :=
  J_iald hG hd (by decide) (at_Mways K M) hx kk
theorem as_Mways {i : Int32} {x : Int32} {j : Nat} (hG : GF G K own cc d) (hd : decode cc pc = .ok (.iastore, 1)) (hx : ix i 3 j) (kk : J G K (u1 M 5 3 j x) (pc + 1) ls st) : J G K M pc ls (.int x :: .int i :: rf K 141 :: st) :=
  J_iast hG hd (by decide) (at_Mways K M) hx (set1 (Eq.trans (show own1 5 3 j = 141 from rfl) (by first | rfl | (simp only []; omega) | omega)) ((at_Mways K (u1 M 5 3 j x)).trans (by simp [u1]; try rfl))) kk
theorem al_Mat {i : Int32} {j : Nat} (hG : GF G K own cc d) (hd : decode cc pc = .ok (.iaload, 1)) (hx : ix i 8 j) (kk : J G K M (pc + 1) ls (.int (M.1 5 6 j) :: st)) : J G K M pc ls (.int i :: rf K 142 :: st) :=
  J_iald hG hd (by decide) (at_Mat K M) hx kk
theorem as_Mat {i : Int32} {x : Int32} {j : Nat} (hG : GF G K own cc d) (hd : decode cc pc = .ok (.iastore, 1)) (hx : ix i 8 j) (kk : J G K (u1 M 5 6 j x) (pc + 1) ls st) : J G K M pc ls (.int x :: .int i :: rf K 142 :: st) :=
  J_iast hG hd (by decide) (at_Mat K M) hx (set1 (Eq.trans (show own1 5 6 j = 142 from rfl) (by first | rfl | (simp only []; omega) | omega)) ((at_Mat K (u1 M 5 6 j x)).trans (by simp [u1]; try rfl))) kk
theorem al_Mfloor {i : Int32} {j : Nat} (hG : GF G K own cc d) (hd : decode cc pc = .ok (.iaload, 1)) (hx : ix i 8 j) (kk : J G K M (pc + 1) ls (.int (M.1 5 7 j) :: st)) : J G K M pc ls (.int i :: rf K 143 :: st) :=
  J_iald hG hd (by decide) (at_Mfloor K M) hx kk
theorem as_Mfloor {i : Int32} {x : Int32} {j : Nat} (hG : GF G K own cc d) (hd : decode cc pc = .ok (.iastore, 1)) (hx : ix i 8 j) (kk : J G K (u1 M 5 7 j x) (pc + 1) ls st) : J G K M pc ls (.int x :: .int i :: rf K 143 :: st) :=
  J_iast hG hd (by decide) (at_Mfloor K M) hx (set1 (Eq.trans (show own1 5 7 j = 143 from rfl) (by first | rfl | (simp only []; omega) | omega)) ((at_Mfloor K (u1 M 5 7 j x)).trans (by simp [u1]; try rfl))) kk
theorem al_Mthorns {i : Int32} {j : Nat} (hG : GF G K own cc d) (hd : decode cc pc = .ok (.iaload, 1)) (hx : ix i 8 j) (kk : J G K M (pc + 1) ls (.int (M.1 5 8 j) :: st)) : J G K M pc ls (.int i :: rf K 144 :: st) :=
  J_iald hG hd (by decide) (at_Mthorns K M) hx kk
theorem as_Mthorns {i : Int32} {x : Int32} {j : Nat} (hG : GF G K own cc d) (hd : decode cc pc = .ok (.iastore, 1)) (hx : ix i 8 j) (kk : J G K (u1 M 5 8 j x) (pc + 1) ls st) : J G K M pc ls (.int x :: .int i :: rf K 144 :: st) :=
  J_iast hG hd (by decide) (at_Mthorns K M) hx (set1 (Eq.trans (show own1 5 8 j = 144 from rfl) (by first | rfl | (simp only []; omega) | omega)) ((at_Mthorns K (u1 M 5 8 j x)).trans (by simp [u1]; try rfl))) kk
theorem al_Mkind {i : Int32} {j : Nat} (hG : GF G K own cc d) (hd : decode cc pc = .ok (.iaload, 1)) (hx : ix i 8 j) (kk : J G K M (pc + 1) ls (.int (M.1 5 9 j) :: st)) : J G K M pc ls (.int i :: rf K 145 :: st) :=
  J_iald hG hd (by decide) (at_Mkind K M) hx kk
theorem as_Mkind {i : Int32} {x : Int32} {j : Nat} (hG : GF G K own cc d) (hd : decode cc pc = .ok (.iastore, 1)) (hx : ix i 8 j) (kk : J G K (u1 M 5 9 j x) (pc + 1) ls st) : J G K M pc ls (.int x :: .int i :: rf K 145 :: st) :=
  J_iast hG hd (by decide) (at_Mkind K M) hx (set1 (Eq.trans (show own1 5 9 j = 145 from rfl) (by first | rfl | (simp only []; omega) | omega)) ((at_Mkind K (u1 M 5 9 j x)).trans (by simp [u1]; try rfl))) kk
theorem al_Mown {i : Int32} {j : Nat} (hG : GF G K own cc d) (hd : decode cc pc = .ok (.iaload, 1)) (hx : ix i 8 j) (kk : J G K M (pc + 1) ls (.int (M.1 5 10 j) :: st)) : J G K M pc ls (.int i :: rf K 146 :: st) :=
  J_iald hG hd (by decide) (at_Mown K M) hx kk
theorem as_Mown {i : Int32} {x : Int32} {j : Nat} (hG : GF G K own cc d) (hd : decode cc pc = .ok (.iastore, 1)) (hx : ix i 8 j) (kk : J G K (u1 M 5 10 j x) (pc + 1) ls st) : J G K M pc ls (.int x :: .int i :: rf K 146 :: st) :=
  J_iast hG hd (by decide) (at_Mown K M) hx (set1 (Eq.trans (show own1 5 10 j = 146 from rfl) (by first | rfl | (simp only []; omega) | omega)) ((at_Mown K (u1 M 5 10 j x)).trans (by simp [u1]; try rfl))) kk
theorem al_Mplace {i : Int32} {j : Nat} (hG : GF G K own cc d) (hd : decode cc pc = .ok (.iaload, 1)) (hx : ix i 8 j) (kk : J G K M (pc + 1) ls (.int (M.1 5 11 j) :: st)) : J G K M pc ls (.int i :: rf K 147 :: st) :=
  J_iald hG hd (by decide) (at_Mplace K M) hx kk
theorem as_Mplace {i : Int32} {x : Int32} {j : Nat} (hG : GF G K own cc d) (hd : decode cc pc = .ok (.iastore, 1)) (hx : ix i 8 j) (kk : J G K (u1 M 5 11 j x) (pc + 1) ls st) : J G K M pc ls (.int x :: .int i :: rf K 147 :: st) :=
  J_iast hG hd (by decide) (at_Mplace K M) hx (set1 (Eq.trans (show own1 5 11 j = 147 from rfl) (by first | rfl | (simp only []; omega) | omega)) ((at_Mplace K (u1 M 5 11 j x)).trans (by simp [u1]; try rfl))) kk
theorem al_Mrose {i : Int32} {j : Nat} (hG : GF G K own cc d) (hd : decode cc pc = .ok (.iaload, 1)) (hx : ix i 8 j) (kk : J G K M (pc + 1) ls (.int (M.1 5 12 j) :: st)) : J G K M pc ls (.int i :: rf K 148 :: st) :=
  J_iald hG hd (by decide) (at_Mrose K M) hx kk
theorem as_Mrose {i : Int32} {x : Int32} {j : Nat} (hG : GF G K own cc d) (hd : decode cc pc = .ok (.iastore, 1)) (hx : ix i 8 j) (kk : J G K (u1 M 5 12 j x) (pc + 1) ls st) : J G K M pc ls (.int x :: .int i :: rf K 148 :: st) :=
  J_iast hG hd (by decide) (at_Mrose K M) hx (set1 (Eq.trans (show own1 5 12 j = 148 from rfl) (by first | rfl | (simp only []; omega) | omega)) ((at_Mrose K (u1 M 5 12 j x)).trans (by simp [u1]; try rfl))) kk
theorem al_Mdue {i : Int32} {j : Nat} (hG : GF G K own cc d) (hd : decode cc pc = .ok (.iaload, 1)) (hx : ix i 8 j) (kk : J G K M (pc + 1) ls (.int (M.1 5 13 j) :: st)) : J G K M pc ls (.int i :: rf K 149 :: st) :=
  J_iald hG hd (by decide) (at_Mdue K M) hx kk
theorem as_Mdue {i : Int32} {x : Int32} {j : Nat} (hG : GF G K own cc d) (hd : decode cc pc = .ok (.iastore, 1)) (hx : ix i 8 j) (kk : J G K (u1 M 5 13 j x) (pc + 1) ls st) : J G K M pc ls (.int x :: .int i :: rf K 149 :: st) :=
  J_iast hG hd (by decide) (at_Mdue K M) hx (set1 (Eq.trans (show own1 5 13 j = 149 from rfl) (by first | rfl | (simp only []; omega) | omega)) ((at_Mdue K (u1 M 5 13 j x)).trans (by simp [u1]; try rfl))) kk
theorem al_Mtape {i : Int32} {j : Nat} (hG : GF G K own cc d) (hd : decode cc pc = .ok (.iaload, 1)) (hx : ix i 250 j) (kk : J G K M (pc + 1) ls (.int (M.2.1 31 j) :: st)) : J G K M pc ls (.int i :: rf K 150 :: st) :=
  J_iald hG hd (by decide) (at_Mtape K M) hx kk
theorem as_Mtape {i : Int32} {x : Int32} {j : Nat} (hG : GF G K own cc d) (hd : decode cc pc = .ok (.iastore, 1)) (hx : ix i 250 j) (kk : J G K (u2 M 31 j x) (pc + 1) ls st) : J G K M pc ls (.int x :: .int i :: rf K 150 :: st) :=
  J_iast hG hd (by decide) (at_Mtape K M) hx (set2 (Eq.trans (show own2 31 j = 150 from rfl) (by first | rfl | (simp only []; omega) | omega)) ((at_Mtape K (u2 M 31 j x)).trans (by simp [u2]; try rfl))) kk
theorem al_Mholding {i : Int32} {j : Nat} (hG : GF G K own cc d) (hd : decode cc pc = .ok (.iaload, 1)) (hx : ix i 8 j) (kk : J G K M (pc + 1) ls (.int (M.2.1 32 j) :: st)) : J G K M pc ls (.int i :: rf K 151 :: st) :=
  J_iald hG hd (by decide) (at_Mholding K M) hx kk
theorem as_Mholding {i : Int32} {x : Int32} {j : Nat} (hG : GF G K own cc d) (hd : decode cc pc = .ok (.iastore, 1)) (hx : ix i 8 j) (kk : J G K (u2 M 32 j x) (pc + 1) ls st) : J G K M pc ls (.int x :: .int i :: rf K 151 :: st) :=
  J_iast hG hd (by decide) (at_Mholding K M) hx (set2 (Eq.trans (show own2 32 j = 151 from rfl) (by first | rfl | (simp only []; omega) | omega)) ((at_Mholding K (u2 M 32 j x)).trans (by simp [u2]; try rfl))) kk
theorem al_MrowLength {i : Int32} {j : Nat} (hG : GF G K own cc d) (hd : decode cc pc = .ok (.iaload, 1)) (hx : ix i 8 j) (kk : J G K M (pc + 1) ls (.int (M.2.1 33 j) :: st)) : J G K M pc ls (.int i :: rf K 152 :: st) :=
  J_iald hG hd (by decide) (at_MrowLength K M) hx kk
theorem as_MrowLength {i : Int32} {x : Int32} {j : Nat} (hG : GF G K own cc d) (hd : decode cc pc = .ok (.iastore, 1)) (hx : ix i 8 j) (kk : J G K (u2 M 33 j x) (pc + 1) ls st) : J G K M pc ls (.int x :: .int i :: rf K 152 :: st) :=
  J_iast hG hd (by decide) (at_MrowLength K M) hx (set2 (Eq.trans (show own2 33 j = 152 from rfl) (by first | rfl | (simp only []; omega) | omega)) ((at_MrowLength K (u2 M 33 j x)).trans (by simp [u2]; try rfl))) kk
theorem al_MrowOf {i : Int32} {j : Nat} (hG : GF G K own cc d) (hd : decode cc pc = .ok (.laload, 1)) (hx : ix i 320 j) (kk : J G K M (pc + 1) ls (.long (M.2.2 8 j) :: st)) : J G K M pc ls (.int i :: rf K 153 :: st) :=
  J_lald hG hd (by decide) (at_MrowOf K M) hx kk
theorem as_MrowOf {i : Int32} {x : Int64} {j : Nat} (hG : GF G K own cc d) (hd : decode cc pc = .ok (.lastore, 1)) (hx : ix i 320 j) (kk : J G K (u3 M 8 j x) (pc + 1) ls st) : J G K M pc ls (.long x :: .int i :: rf K 153 :: st) :=
  J_last hG hd (by decide) (at_MrowOf K M) hx (set3 (Eq.trans (show own3 8 j = 153 from rfl) (by first | rfl | (simp only []; omega) | omega)) ((at_MrowOf K (u3 M 8 j x)).trans (by simp [u3]; try rfl))) kk
theorem al_Mrefusals {i : Int32} {j : Nat} (hG : GF G K own cc d) (hd : decode cc pc = .ok (.iaload, 1)) (hx : ix i 7 j) (kk : J G K M (pc + 1) ls (.int (M.2.1 34 j) :: st)) : J G K M pc ls (.int i :: rf K 154 :: st) :=
  J_iald hG hd (by decide) (at_Mrefusals K M) hx kk
theorem as_Mrefusals {i : Int32} {x : Int32} {j : Nat} (hG : GF G K own cc d) (hd : decode cc pc = .ok (.iastore, 1)) (hx : ix i 7 j) (kk : J G K (u2 M 34 j x) (pc + 1) ls st) : J G K M pc ls (.int x :: .int i :: rf K 154 :: st) :=
  J_iast hG hd (by decide) (at_Mrefusals K M) hx (set2 (Eq.trans (show own2 34 j = 154 from rfl) (by first | rfl | (simp only []; omega) | omega)) ((at_Mrefusals K (u2 M 34 j x)).trans (by simp [u2]; try rfl))) kk
theorem al_Mold {i : Int32} {j : Nat} (hG : GF G K own cc d) (hd : decode cc pc = .ok (.iaload, 1)) (hx : ix i 75 j) (kk : J G K M (pc + 1) ls (.int (M.2.1 35 j) :: st)) : J G K M pc ls (.int i :: rf K 155 :: st) :=
  J_iald hG hd (by decide) (at_Mold K M) hx kk
theorem as_Mold {i : Int32} {x : Int32} {j : Nat} (hG : GF G K own cc d) (hd : decode cc pc = .ok (.iastore, 1)) (hx : ix i 75 j) (kk : J G K (u2 M 35 j x) (pc + 1) ls st) : J G K M pc ls (.int x :: .int i :: rf K 155 :: st) :=
  J_iast hG hd (by decide) (at_Mold K M) hx (set2 (Eq.trans (show own2 35 j = 155 from rfl) (by first | rfl | (simp only []; omega) | omega)) ((at_Mold K (u2 M 35 j x)).trans (by simp [u2]; try rfl))) kk
theorem al_Mbefore {i : Int32} {j : Nat} (hG : GF G K own cc d) (hd : decode cc pc = .ok (.iaload, 1)) (hx : ix i 75 j) (kk : J G K M (pc + 1) ls (.int (M.2.1 36 j) :: st)) : J G K M pc ls (.int i :: rf K 156 :: st) :=
  J_iald hG hd (by decide) (at_Mbefore K M) hx kk
theorem as_Mbefore {i : Int32} {x : Int32} {j : Nat} (hG : GF G K own cc d) (hd : decode cc pc = .ok (.iastore, 1)) (hx : ix i 75 j) (kk : J G K (u2 M 36 j x) (pc + 1) ls st) : J G K M pc ls (.int x :: .int i :: rf K 156 :: st) :=
  J_iast hG hd (by decide) (at_Mbefore K M) hx (set2 (Eq.trans (show own2 36 j = 156 from rfl) (by first | rfl | (simp only []; omega) | omega)) ((at_Mbefore K (u2 M 36 j x)).trans (by simp [u2]; try rfl))) kk
theorem al_Mroses {i : Int32} {j : Nat} (hG : GF G K own cc d) (hd : decode cc pc = .ok (.iaload, 1)) (hx : ix i 8 j) (kk : J G K M (pc + 1) ls (.int (M.2.1 37 j) :: st)) : J G K M pc ls (.int i :: rf K 157 :: st) :=
  J_iald hG hd (by decide) (at_Mroses K M) hx kk
theorem as_Mroses {i : Int32} {x : Int32} {j : Nat} (hG : GF G K own cc d) (hd : decode cc pc = .ok (.iastore, 1)) (hx : ix i 8 j) (kk : J G K (u2 M 37 j x) (pc + 1) ls st) : J G K M pc ls (.int x :: .int i :: rf K 157 :: st) :=
  J_iast hG hd (by decide) (at_Mroses K M) hx (set2 (Eq.trans (show own2 37 j = 157 from rfl) (by first | rfl | (simp only []; omega) | omega)) ((at_Mroses K (u2 M 37 j x)).trans (by simp [u2]; try rfl))) kk
theorem al_Mhits {i : Int32} {j : Nat} (hG : GF G K own cc d) (hd : decode cc pc = .ok (.iaload, 1)) (hx : ix i 8 j) (kk : J G K M (pc + 1) ls (.int (M.2.1 38 j) :: st)) : J G K M pc ls (.int i :: rf K 158 :: st) :=
  J_iald hG hd (by decide) (at_Mhits K M) hx kk
theorem as_Mhits {i : Int32} {x : Int32} {j : Nat} (hG : GF G K own cc d) (hd : decode cc pc = .ok (.iastore, 1)) (hx : ix i 8 j) (kk : J G K (u2 M 38 j x) (pc + 1) ls st) : J G K M pc ls (.int x :: .int i :: rf K 158 :: st) :=
  J_iast hG hd (by decide) (at_Mhits K M) hx (set2 (Eq.trans (show own2 38 j = 158 from rfl) (by first | rfl | (simp only []; omega) | omega)) ((at_Mhits K (u2 M 38 j x)).trans (by simp [u2]; try rfl))) kk
theorem al_Mtried {i : Int32} {j : Nat} (hG : GF G K own cc d) (hd : decode cc pc = .ok (.iaload, 1)) (hx : ix i 8 j) (kk : J G K M (pc + 1) ls (.int (M.2.1 39 j) :: st)) : J G K M pc ls (.int i :: rf K 159 :: st) :=
  J_iald hG hd (by decide) (at_Mtried K M) hx kk
theorem as_Mtried {i : Int32} {x : Int32} {j : Nat} (hG : GF G K own cc d) (hd : decode cc pc = .ok (.iastore, 1)) (hx : ix i 8 j) (kk : J G K (u2 M 39 j x) (pc + 1) ls st) : J G K M pc ls (.int x :: .int i :: rf K 159 :: st) :=
  J_iast hG hd (by decide) (at_Mtried K M) hx (set2 (Eq.trans (show own2 39 j = 159 from rfl) (by first | rfl | (simp only []; omega) | omega)) ((at_Mtried K (u2 M 39 j x)).trans (by simp [u2]; try rfl))) kk
theorem al_Mbest {i : Int32} {j : Nat} (hG : GF G K own cc d) (hd : decode cc pc = .ok (.iaload, 1)) (hx : ix i 8 j) (kk : J G K M (pc + 1) ls (.int (M.2.1 40 j) :: st)) : J G K M pc ls (.int i :: rf K 160 :: st) :=
  J_iald hG hd (by decide) (at_Mbest K M) hx kk
theorem as_Mbest {i : Int32} {x : Int32} {j : Nat} (hG : GF G K own cc d) (hd : decode cc pc = .ok (.iastore, 1)) (hx : ix i 8 j) (kk : J G K (u2 M 40 j x) (pc + 1) ls st) : J G K M pc ls (.int x :: .int i :: rf K 160 :: st) :=
  J_iast hG hd (by decide) (at_Mbest K M) hx (set2 (Eq.trans (show own2 40 j = 160 from rfl) (by first | rfl | (simp only []; omega) | omega)) ((at_Mbest K (u2 M 40 j x)).trans (by simp [u2]; try rfl))) kk
end Fields
