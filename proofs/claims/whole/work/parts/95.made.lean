/-! ===== the methods that make the objects ===== -/
section Made
def Wf7 (_ : Nat → ClassId) (q : Nat) (_ : Unit) : va_W := [(q, .inr (7, [.int 0, .int 0, .int 0]))]
def Wf2 (_ : Nat → ClassId) (q : Nat) (_ : Unit) : va_W := [(q, .inr (2, [.int 0, .int 0, .int 0, .int (-1), .int (-1)]))]
def Wf3 (cn : Nat → ClassId) (q : Nat) (e : Nat) : va_W := (q, .inr (3, [.ref e, .int 0, .int 0])) :: [(e, .inl (cn 1, 40, .inr (.inl (fun _ => 0))))]
def Wf4 (cn : Nat → ClassId) (q : Nat) (u : Nat × Nat) : va_W := (q, .inr (4, [.ref u.1, .int 0, .int (-1)])) :: Wf3 cn u.1 u.2
abbrev S5 : Type := Nat × Nat × (Nat → Nat) × (Nat → Nat)
def Wf5 (cn : Nat → ClassId) (q : Nat) (u : S5) : va_W := (q, .inr (5, [.ref u.1, .ref u.2.1, .int 0, .int 0, .int 12, .int 5, .int 0, .int 40, .int 0, .int 1])) :: (u.2.1, .inl (cn 3, 8, .inr (.inr (.inr (.inr (rr 8 u.2.2.2)))))) :: ((mkW 8 (fun i => Wf7 cn (u.2.2.1 i) ()) ++ [(u.1, .inl (cn 2, 8, .inr (.inr (.inr (.inr (rr 8 u.2.2.1))))))]) ++ mkW 8 (fun i => Wf2 cn (u.2.2.2 i) ()))
abbrev S0 : Type := Nat × S5 × Nat
def Wf0 (cn : Nat → ClassId) (q : Nat) (u : S0) : va_W := (q, .inr (0, [.ref u.1, .ref u.2.2, .int 0, .int 0, .int 0, .int 0, .int 0])) :: (Wf5 cn u.1 u.2.1 ++ [(u.2.2, .inl (cn 0, 8, .inl (fun _ => 0)))])
abbrev S1 : Type := Nat × S5 × Nat × Nat × (Nat → Nat) × Nat
def Wf1 (cn : Nat → ClassId) (q : Nat) (u : S1) : va_W := (q, .inr (1, [.ref u.1, .ref u.2.2.1, .ref u.2.2.2.1, .ref u.2.2.2.2.2])) :: ((((Wf5 cn u.1 u.2.1 ++ [(u.2.2.1, .inl (cn 0, 8, .inl (fun _ => 0)))]) ++ [(u.2.2.2.1, .inl (cn 5, 9, .inr (.inr (.inr (.inr (rr 9 u.2.2.2.2.1))))))]) ++ (List.range 9).map (fun i => (u.2.2.2.2.1 i, .inl (cn 0, 256, .inl (fun _ => 0))))) ++ [(u.2.2.2.2.2, .inl (cn 0, 8, .inl (fun _ => 0)))])
abbrev S6 : Type := Nat × Nat × S5 × Nat
def Wf6 (cn : Nat → ClassId) (q : Nat) (u : S6) : va_W := (q, .inr (6, [.ref u.1, .int 0, .ref u.2.1, .ref u.2.2.2, .int 0, .int 0, .int 0])) :: (([(u.1, .inl (cn 0, 250, .inl (fun _ => 0)))] ++ Wf5 cn u.2.1 u.2.2.1) ++ [(u.2.2.2, .inl (cn 0, 3, .inl (fun _ => 0)))])
abbrev S8 : Type := (Nat × S5) × (Nat × S5) × (Nat × S0) × (Nat × S1) × (Nat × S6) × Nat × Nat × (Nat → Nat) × (Nat → Nat × Nat)
def Wf8 (cn : Nat → ClassId) (q : Nat) (u : S8) : va_W := (q, .inr (8, [.ref u.1.1, .ref u.2.1.1, .ref u.2.2.1.1, .ref u.2.2.2.1.1, .ref u.2.2.2.2.1.1, .ref u.2.2.2.2.2.1, .ref u.2.2.2.2.2.2.1, .int 0])) :: (u.2.2.2.2.2.1, .inl (cn 4, 8, .inr (.inr (.inr (.inr (rr 8 u.2.2.2.2.2.2.2.1)))))) :: ((((((Wf5 cn u.1.1 u.1.2 ++ Wf5 cn u.2.1.1 u.2.1.2) ++ Wf0 cn u.2.2.1.1 u.2.2.1.2) ++ Wf1 cn u.2.2.2.1.1 u.2.2.2.1.2) ++ Wf6 cn u.2.2.2.2.1.1 u.2.2.2.2.1.2) ++ [(u.2.2.2.2.2.2.1, .inl (cn 0, 7, .inl (fun _ => 0)))]) ++ mkW 8 (fun i => Wf4 cn (u.2.2.2.2.2.2.2.1 i) (u.2.2.2.2.2.2.2.2 i)))
def wy : Nat → Int32 := upd (upd (fun _ => 0) 0 5) 2 40
def hh (j : Nat) : Nat → Int32 := fun i => if i < j then -1 else 0
theorem hh_0 : hh 0 = fun _ => 0 := funext fun i => if_neg (Nat.not_lt_zero i)
theorem hh_up (j : Nat) : upd (hh j) j (-1) = hh (j + 1) := by
  funext i
  unfold upd hh
  by_cases h : i = j
  · rw [if_pos h, if_pos (by omega)]
  · by_cases h2 : i < j
    · rw [if_neg h, if_pos h2, if_pos (by omega)]
    · rw [if_neg h, if_neg h2, if_neg (by omega)]
def Wf9 (cn : Nat → ClassId) (q : Nat) (a : Nat → Nat) : va_W := (q, .inr (9, [.int 12, .ref (a 0), .int 0, .int 0, .ref (a 1), .ref (a 2), .ref (a 3), .int 0, .ref (a 4), .ref (a 5), .ref (a 6), .ref (a 7), .ref (a 8), .int 1, .int 0, .ref (a 9), .int 0, .int 0, .int 0, .int 0, .ref (a 10), .ref (a 11), .ref (a 12), .ref (a 13), .int 0, .ref (a 14), .ref (a 15), .ref (a 16), .ref (a 17), .ref (a 18), .ref (a 19), .int 0])) :: [(a 0, .inl (cn 0, 3, .inl wy)), (a 1, .inl (cn 0, 8, .inl (fun _ => 0))), (a 2, .inl (cn 0, 8, .inl (fun _ => 0))), (a 3, .inl (cn 0, 8, .inl (fun _ => 0))), (a 4, .inl (cn 0, 8, .inl (fun _ => 0))), (a 5, .inl (cn 0, 8, .inl (fun _ => 0))), (a 6, .inl (cn 0, 8, .inl (fun _ => 0))), (a 7, .inl (cn 0, 8, .inl (fun _ => 0))), (a 8, .inl (cn 0, 8, .inl (fun _ => 0))), (a 9, .inl (cn 0, 250, .inl (fun _ => 0))), (a 10, .inl (cn 0, 8, .inl (hh 8))), (a 11, .inl (cn 0, 8, .inl (fun _ => 0))), (a 12, .inl (cn 1, 320, .inr (.inl (fun _ => 0)))), (a 13, .inl (cn 0, 7, .inl (fun _ => 0))), (a 14, .inl (cn 0, 75, .inl (fun _ => 0))), (a 15, .inl (cn 0, 75, .inl (fun _ => 0))), (a 16, .inl (cn 0, 8, .inl (fun _ => 0))), (a 17, .inl (cn 0, 8, .inl (fun _ => 0))), (a 18, .inl (cn 0, 8, .inl (fun _ => 0))), (a 19, .inl (cn 0, 8, .inl (fun _ => 0)))]
set_option maxHeartbeats 400000 in
theorem c_X7_init : CI (S := Unit) 1 yX7_init cX7_init 1 0 0 7 [.int 0, .int 0, .int 0] Wf7 := by
  refine CI.of [] (Or.inl rfl) (by decide) (by decide +kernel) rfl (fun G X h0 hF hN hin hcl hsl fin => ?_)
  refine l_aload hF dX7_init_0 rfl ?_
  refine l_obj hF dX7_init_1 tw_112 (by decide) ?_
  exact fin _ _ _ _ _ () dX7_init_4 (Nat.le_of_ble_eq_true rfl) (Nat.le_of_ble_eq_true rfl) rfl
set_option maxHeartbeats 400000 in
theorem c_X2_init : CI (S := Unit) 1 yX2_init cX2_init 1 0 0 2 [.int 0, .int 0, .int 0, .int 0, .int 0] Wf2 := by
  refine CI.of [] (Or.inl rfl) (by decide) (by decide +kernel) rfl (fun G X h0 hF hN hin hcl hsl fin => ?_)
  refine l_aload hF dX2_init_0 rfl ?_
  refine l_obj hF dX2_init_1 tw_133 (by decide) ?_
  refine l_aload hF dX2_init_4 rfl ?_
  refine l_iconst (v := (-1)) hF dX2_init_5 rfl ?_
  refine l_put (C := RX2) (T := TX2) (N := 5) (fs' := [.int 0, .int 0, .int 0, .int (-1), .int 0]) hF dX2_init_6 3 tw_145 tw_lay2 tyX2 tyX2_ok nmX2 rfl (by decide) rfl (of_decide_eq_true rfl) rfl rfl rfl ?_
  refine l_aload hF dX2_init_9 rfl ?_
  refine l_iconst (v := (-1)) hF dX2_init_10 rfl ?_
  refine l_put (C := RX2) (T := TX2) (N := 5) (fs' := [.int 0, .int 0, .int 0, .int (-1), .int (-1)]) hF dX2_init_11 4 tw_148 tw_lay2 tyX2 tyX2_ok nmX2 rfl (by decide) rfl (of_decide_eq_true rfl) rfl rfl rfl ?_
  exact fin _ _ _ _ _ () dX2_init_14 (Nat.le_of_ble_eq_true rfl) (Nat.le_of_ble_eq_true rfl) rfl
set_option maxHeartbeats 400000 in
theorem c_X3_init : CI (S := Nat) 1 yX3_init cX3_init 1 1 40 3 [.null, .int 0, .int 0] Wf3 := by
  refine CI.of [] (Or.inl rfl) (by decide) (by decide +kernel) rfl (fun G X h0 hF hN hin hcl hsl fin => ?_)
  refine l_aload hF dX3_init_0 rfl ?_
  refine l_obj hF dX3_init_1 tw_322 (by decide) ?_
  refine l_aload hF dX3_init_4 rfl ?_
  refine l_bipush (v := 40) hF dX3_init_5 rfl ?_
  refine l_newaJ (N' := 40) hF dX3_init_7 (by decide) (by rw [hcl]; exact Nat.le_of_ble_eq_true rfl) (by rw [hsl]; exact Nat.le_of_ble_eq_true rfl) (fun q1 => ?_)
  refine L.eq (ws' := (h0, .inr (3, [.null, .int 0, .int 0])) :: [(q1, .inl (X.2.1 1, 40, .inr (.inl (fun _ => 0))))]) rfl ?_
  refine l_putF (C := RX3) (T := TX3) (N := 3) (fs' := [.ref q1, .int 0, .int 0]) hF dX3_init_9 hin 0 tw_323 tw_lay3 tyX3 tyX3_ok nmX3 rfl (by decide) rfl rfl (of_decide_eq_true rfl) rfl rfl rfl ?_
  exact fin _ _ _ _ _ q1 dX3_init_12 (Nat.le_of_ble_eq_true rfl) (Nat.le_of_ble_eq_true rfl) rfl
set_option maxHeartbeats 400000 in
theorem c_X4_init : CI (S := Nat × Nat) 2 yX4_init cX4_init 1 2 43 4 [.null, .int 0, .int 0] Wf4 := by
  refine CI.of [] (Or.inl rfl) (by decide) (by decide +kernel) rfl (fun G X h0 hF hN hin hcl hsl fin => ?_)
  refine l_aload hF dX4_init_0 rfl ?_
  refine l_obj hF dX4_init_1 tw_316 (by decide) ?_
  refine l_aload hF dX4_init_4 rfl ?_
  refine l_make (C := RX3) (T := TX3) (N := 3) hF dX4_init_5 dX4_init_8 dX4_init_9 (c_X3_init) (Or.inr (List.mem_of_getElem? (i := 6) rfl)) tw_317 tw_318 tw_81 tw_320 tw_321 tw_lay3 tyX3 tyX3_ok rfl (fun j hj => by rcases (show j = 0 ∨ j = 1 ∨ j = 2 by omega) with rfl | rfl | rfl <;> rfl) ⟨rfl, rfl, by decide, by decide, rfl⟩ (by decide) (by decide) (by rw [hcl]; exact Nat.le_of_ble_eq_true rfl) (by rw [hsl]; exact Nat.le_of_ble_eq_true rfl) (Nat.le_of_ble_eq_true rfl) (fun q1 u1 => ?_)
  refine L.eq (ws' := (h0, .inr (4, [.null, .int 0, .int 0])) :: Wf3 X.2.1 q1 u1) rfl ?_
  refine l_putF (C := RX4) (T := TX4) (N := 3) (fs' := [.ref q1, .int 0, .int 0]) hF dX4_init_12 hin 0 tw_342 tw_lay4 tyX4 tyX4_ok nmX4 rfl (by decide) rfl rfl (of_decide_eq_true rfl) rfl rfl rfl ?_
  refine l_aload hF dX4_init_15 rfl ?_
  refine l_iconst (v := (-1)) hF dX4_init_16 rfl ?_
  refine l_put (C := RX4) (T := TX4) (N := 3) (fs' := [.ref q1, .int 0, .int (-1)]) hF dX4_init_17 2 tw_346 tw_lay4 tyX4 tyX4_ok nmX4 rfl (by decide) rfl (of_decide_eq_true rfl) rfl rfl rfl ?_
  exact fin _ _ _ _ _ (q1, u1) dX4_init_20 (Nat.le_of_ble_eq_true rfl) (Nat.le_of_ble_eq_true rfl) rfl
set_option maxHeartbeats 400000 in
theorem c_X5_init : CI (S := S5) 2 yX5_init cX5_init 2 18 80 5 [.null, .null, .int 0, .int 0, .int 0, .int 0, .int 0, .int 0, .int 0, .int 0] Wf5 := by
  refine CI.of [none] (Or.inr rfl) (by decide) (by decide +kernel) rfl (fun G X h0 hF hN hin hcl hsl fin => ?_)
  refine l_aload hF dX5_init_0 rfl ?_
  refine l_obj hF dX5_init_1 tw_103 (by decide) ?_
  refine l_aload hF dX5_init_4 rfl ?_
  refine l_bipush (v := 8) hF dX5_init_5 rfl ?_
  refine l_newq (C := RX7) (t := 2) (N' := 8) hF dX5_init_7 tw_104 hF.2.2.2.2.2.1.2.2.1 rfl (by decide) (by rw [hcl]; exact Nat.le_of_ble_eq_true rfl) (by rw [hsl]; exact Nat.le_of_ble_eq_true rfl) (fun q1 => ?_)
  refine L.eq (ws' := (h0, .inr (5, [.null, .null, .int 0, .int 0, .int 0, .int 0, .int 0, .int 0, .int 0, .int 0])) :: [(q1, .inl (X.2.1 2, 8, .inr (.inr (.inr (.inr (fun _ => none))))))]) rfl ?_
  refine l_putF (C := RX5) (T := TX5) (N := 10) (fs' := [.ref q1, .null, .int 0, .int 0, .int 0, .int 0, .int 0, .int 0, .int 0, .int 0]) hF dX5_init_10 hin 0 tw_162 tw_lay5 tyX5 tyX5_ok nmX5 rfl (by decide) rfl rfl (of_decide_eq_true rfl) rfl rfl rfl ?_
  refine l_aload hF dX5_init_13 rfl ?_
  refine l_bipush (v := 8) hF dX5_init_14 rfl ?_
  refine l_newq (C := RX2) (t := 3) (N' := 8) hF dX5_init_16 tw_106 hF.2.2.2.2.2.1.2.2.2.1 rfl (by decide) (by rw [hcl]; exact Nat.le_of_ble_eq_true rfl) (by rw [hsl]; exact Nat.le_of_ble_eq_true rfl) (fun q2 => ?_)
  refine L.eq (ws' := (h0, .inr (5, [.ref q1, .null, .int 0, .int 0, .int 0, .int 0, .int 0, .int 0, .int 0, .int 0])) :: [(q1, .inl (X.2.1 2, 8, .inr (.inr (.inr (.inr (fun _ => none)))))), (q2, .inl (X.2.1 3, 8, .inr (.inr (.inr (.inr (fun _ => none))))))]) rfl ?_
  refine l_putF (C := RX5) (T := TX5) (N := 10) (fs' := [.ref q1, .ref q2, .int 0, .int 0, .int 0, .int 0, .int 0, .int 0, .int 0, .int 0]) hF dX5_init_19 hin 1 tw_164 tw_lay5 tyX5 tyX5_ok nmX5 rfl (by decide) rfl rfl (of_decide_eq_true rfl) rfl rfl rfl ?_
  refine l_aload hF dX5_init_22 rfl ?_
  refine l_bipush (v := 12) hF dX5_init_23 rfl ?_
  refine l_put (C := RX5) (T := TX5) (N := 10) (fs' := [.ref q1, .ref q2, .int 0, .int 0, .int 12, .int 0, .int 0, .int 0, .int 0, .int 0]) hF dX5_init_25 4 tw_177 tw_lay5 tyX5 tyX5_ok nmX5 rfl (by decide) rfl (of_decide_eq_true rfl) rfl rfl rfl ?_
  refine l_aload hF dX5_init_28 rfl ?_
  refine l_iconst (v := 5) hF dX5_init_29 rfl ?_
  refine l_put (C := RX5) (T := TX5) (N := 10) (fs' := [.ref q1, .ref q2, .int 0, .int 0, .int 12, .int 5, .int 0, .int 0, .int 0, .int 0]) hF dX5_init_30 5 tw_181 tw_lay5 tyX5 tyX5_ok nmX5 rfl (by decide) rfl (of_decide_eq_true rfl) rfl rfl rfl ?_
  refine l_aload hF dX5_init_33 rfl ?_
  refine l_bipush (v := 40) hF dX5_init_34 rfl ?_
  refine l_put (C := RX5) (T := TX5) (N := 10) (fs' := [.ref q1, .ref q2, .int 0, .int 0, .int 12, .int 5, .int 0, .int 40, .int 0, .int 0]) hF dX5_init_36 7 tw_188 tw_lay5 tyX5 tyX5_ok nmX5 rfl (by decide) rfl (of_decide_eq_true rfl) rfl rfl rfl ?_
  refine l_aload hF dX5_init_39 rfl ?_
  refine l_iconst (v := 1) hF dX5_init_40 rfl ?_
  refine l_put (C := RX5) (T := TX5) (N := 10) (fs' := [.ref q1, .ref q2, .int 0, .int 0, .int 12, .int 5, .int 0, .int 40, .int 0, .int 1]) hF dX5_init_41 9 tw_193 tw_lay5 tyX5 tyX5_ok nmX5 rfl (by decide) rfl (of_decide_eq_true rfl) rfl rfl rfl ?_
  refine l_iconst (v := nI 0) hF dX5_init_44 rfl ?_
  refine l_istore hF dX5_init_45 rfl rfl ?_
  refine l_fill (C := RX7) (T := TX7) (N := 3) (CO := RX5) (TO := TX5) (NO := 10) (t := 2) (b := 46) (e := 71) () hF dX5_init_46 dX5_init_47 dX5_init_49 (by decide) dX5_init_52 dX5_init_53 dX5_init_56 dX5_init_57 dX5_init_60 dX5_init_61 dX5_init_64 dX5_init_65 dX5_init_68 (by decide) c_X7_init (Or.inr (List.mem_of_getElem? (i := 0) rfl)) tw_104 tw_108 tw_75 tw_110 tw_111 tw_lay7 tyX7 tyX7_ok rfl (fun j hj => by rcases (show j = 0 ∨ j = 1 ∨ j = 2 by omega) with rfl | rfl | rfl <;> rfl) ⟨rfl, rfl, by decide, by decide, rfl⟩ (by decide) (by decide) 0 tw_162 tw_lay5 rfl (by decide) rfl rfl (fun q u => ⟨_, rfl⟩) (by rw [hcl]; exact Nat.le_of_ble_eq_true rfl) (by rw [hsl]; exact Nat.le_of_ble_eq_true rfl) (fun r1 a1 => ?_)
  refine l_iconst (v := nI 0) hF dX5_init_71 rfl ?_
  refine l_istore hF dX5_init_72 rfl rfl ?_
  refine L.eq (ws' := ([(h0, .inr (5, [.ref q1, .ref q2, .int 0, .int 0, .int 12, .int 5, .int 0, .int 40, .int 0, .int 1]))] ++ [(q1, .inl (X.2.1 2, 8, .inr (.inr (.inr (.inr (rr 8 r1))))))]) ++ ((q2, .inl (X.2.1 3, 8, .inr (.inr (.inr (.inr (fun _ => none)))))) :: mkW 8 (fun i => Wf7 X.2.1 (r1 i) (a1 i)))) rfl ?_
  refine L.swap ?_
  refine L.eq (ws' := (h0, .inr (5, [.ref q1, .ref q2, .int 0, .int 0, .int 12, .int 5, .int 0, .int 40, .int 0, .int 1])) :: (q2, .inl (X.2.1 3, 8, .inr (.inr (.inr (.inr (fun _ => none)))))) :: (mkW 8 (fun i => Wf7 X.2.1 (r1 i) (a1 i)) ++ [(q1, .inl (X.2.1 2, 8, .inr (.inr (.inr (.inr (rr 8 r1))))))])) rfl ?_
  refine l_fill (C := RX2) (T := TX2) (N := 5) (CO := RX5) (TO := TX5) (NO := 10) (t := 3) (b := 73) (e := 98) () hF dX5_init_73 dX5_init_74 dX5_init_76 (by decide) dX5_init_79 dX5_init_80 dX5_init_83 dX5_init_84 dX5_init_87 dX5_init_88 dX5_init_91 dX5_init_92 dX5_init_95 (by decide) c_X2_init (Or.inr (List.mem_of_getElem? (i := 1) rfl)) tw_106 tw_129 tw_76 tw_131 tw_132 tw_lay2 tyX2 tyX2_ok rfl (fun j hj => by rcases (show j = 0 ∨ j = 1 ∨ j = 2 ∨ j = 3 ∨ j = 4 by omega) with rfl | rfl | rfl | rfl | rfl <;> rfl) ⟨rfl, rfl, by decide, by decide, rfl⟩ (by decide) (by decide) 1 tw_164 tw_lay5 rfl (by decide) rfl rfl (fun q u => ⟨_, rfl⟩) (by rw [hcl]; exact Nat.le_of_ble_eq_true rfl) (by rw [hsl]; exact Nat.le_of_ble_eq_true rfl) (fun r2 a2 => ?_)
  exact fin _ _ _ _ _ (q1, q2, r1, r2) dX5_init_98 (Nat.le_of_ble_eq_true rfl) (Nat.le_of_ble_eq_true rfl) rfl
set_option maxHeartbeats 400000 in
theorem c_X0_init : CI (S := S0) 3 yX0_init cX0_init 1 20 98 0 [.null, .null, .int 0, .int 0, .int 0, .int 0, .int 0] Wf0 := by
  refine CI.of [] (Or.inl rfl) (by decide) (by decide +kernel) rfl (fun G X h0 hF hN hin hcl hsl fin => ?_)
  refine l_aload hF dX0_init_0 rfl ?_
  refine l_obj hF dX0_init_1 tw_221 (by decide) ?_
  refine l_aload hF dX0_init_4 rfl ?_
  refine l_make (C := RX5) (T := TX5) (N := 10) hF dX0_init_5 dX0_init_8 dX0_init_9 (c_X5_init) (Or.inl tw_223) tw_222 tw_99 tw_74 tw_101 tw_102 tw_lay5 tyX5 tyX5_ok rfl (fun j hj => by rcases (show j = 0 ∨ j = 1 ∨ j = 2 ∨ j = 3 ∨ j = 4 ∨ j = 5 ∨ j = 6 ∨ j = 7 ∨ j = 8 ∨ j = 9 by omega) with rfl | rfl | rfl | rfl | rfl | rfl | rfl | rfl | rfl | rfl <;> rfl) ⟨rfl, rfl, by decide, by decide, rfl⟩ (by decide) (by decide) (by rw [hcl]; exact Nat.le_of_ble_eq_true rfl) (by rw [hsl]; exact Nat.le_of_ble_eq_true rfl) (Nat.le_of_ble_eq_true rfl) (fun q1 u1 => ?_)
  refine L.eq (ws' := (h0, .inr (0, [.null, .null, .int 0, .int 0, .int 0, .int 0, .int 0])) :: Wf5 X.2.1 q1 u1) rfl ?_
  refine l_putF (C := RX0) (T := TX0) (N := 7) (fs' := [.ref q1, .null, .int 0, .int 0, .int 0, .int 0, .int 0]) hF dX0_init_12 hin 0 tw_224 tw_lay0 tyX0 tyX0_ok nmX0 rfl (by decide) rfl rfl (of_decide_eq_true rfl) rfl rfl rfl ?_
  refine l_aload hF dX0_init_15 rfl ?_
  refine l_bipush (v := 8) hF dX0_init_16 rfl ?_
  refine l_newaI (N' := 8) hF dX0_init_18 (by decide) (by rw [hcl]; exact Nat.le_of_ble_eq_true rfl) (by rw [hsl]; exact Nat.le_of_ble_eq_true rfl) (fun q2 => ?_)
  refine L.eq (ws' := (h0, .inr (0, [.ref q1, .null, .int 0, .int 0, .int 0, .int 0, .int 0])) :: (Wf5 X.2.1 q1 u1 ++ [(q2, .inl (X.2.1 0, 8, .inl (fun _ => 0)))])) rfl ?_
  refine l_putF (C := RX0) (T := TX0) (N := 7) (fs' := [.ref q1, .ref q2, .int 0, .int 0, .int 0, .int 0, .int 0]) hF dX0_init_20 hin 1 tw_226 tw_lay0 tyX0 tyX0_ok nmX0 rfl (by decide) rfl rfl (of_decide_eq_true rfl) rfl rfl rfl ?_
  exact fin _ _ _ _ _ (q1, u1, q2) dX0_init_23 (Nat.le_of_ble_eq_true rfl) (Nat.le_of_ble_eq_true rfl) rfl
set_option maxHeartbeats 400000 in
theorem c_X1_init : CI (S := S1) 3 yX1_init cX1_init 1 31 2419 1 [.null, .null, .null, .null] Wf1 := by
  refine CI.of [] (Or.inl rfl) (by decide) (by decide +kernel) rfl (fun G X h0 hF hN hin hcl hsl fin => ?_)
  refine l_aload hF dX1_init_0 rfl ?_
  refine l_obj hF dX1_init_1 tw_258 (by decide) ?_
  refine l_aload hF dX1_init_4 rfl ?_
  refine l_make (C := RX5) (T := TX5) (N := 10) hF dX1_init_5 dX1_init_8 dX1_init_9 (c_X5_init) (Or.inl tw_260) tw_259 tw_99 tw_74 tw_101 tw_102 tw_lay5 tyX5 tyX5_ok rfl (fun j hj => by rcases (show j = 0 ∨ j = 1 ∨ j = 2 ∨ j = 3 ∨ j = 4 ∨ j = 5 ∨ j = 6 ∨ j = 7 ∨ j = 8 ∨ j = 9 by omega) with rfl | rfl | rfl | rfl | rfl | rfl | rfl | rfl | rfl | rfl <;> rfl) ⟨rfl, rfl, by decide, by decide, rfl⟩ (by decide) (by decide) (by rw [hcl]; exact Nat.le_of_ble_eq_true rfl) (by rw [hsl]; exact Nat.le_of_ble_eq_true rfl) (Nat.le_of_ble_eq_true rfl) (fun q1 u1 => ?_)
  refine L.eq (ws' := (h0, .inr (1, [.null, .null, .null, .null])) :: Wf5 X.2.1 q1 u1) rfl ?_
  refine l_putF (C := RX1) (T := TX1) (N := 4) (fs' := [.ref q1, .null, .null, .null]) hF dX1_init_12 hin 0 tw_263 tw_lay1 tyX1 tyX1_ok nmX1 rfl (by decide) rfl rfl (of_decide_eq_true rfl) rfl rfl rfl ?_
  refine l_aload hF dX1_init_15 rfl ?_
  refine l_bipush (v := 8) hF dX1_init_16 rfl ?_
  refine l_newaI (N' := 8) hF dX1_init_18 (by decide) (by rw [hcl]; exact Nat.le_of_ble_eq_true rfl) (by rw [hsl]; exact Nat.le_of_ble_eq_true rfl) (fun q2 => ?_)
  refine L.eq (ws' := (h0, .inr (1, [.ref q1, .null, .null, .null])) :: (Wf5 X.2.1 q1 u1 ++ [(q2, .inl (X.2.1 0, 8, .inl (fun _ => 0)))])) rfl ?_
  refine l_putF (C := RX1) (T := TX1) (N := 4) (fs' := [.ref q1, .ref q2, .null, .null]) hF dX1_init_20 hin 1 tw_264 tw_lay1 tyX1 tyX1_ok nmX1 rfl (by decide) rfl rfl (of_decide_eq_true rfl) rfl rfl rfl ?_
  refine l_aload hF dX1_init_23 rfl ?_
  refine l_bipush (v := 9) hF dX1_init_24 rfl ?_
  refine l_sipush (v := 256) hF dX1_init_26 rfl ?_
  refine l_mna (N' := 9) (M' := 256) hF dX1_init_29 tw_261 (by decide) (by decide) (by rw [hcl]; exact Nat.le_of_ble_eq_true rfl) (by rw [hsl]; exact Nat.le_of_ble_eq_true rfl) (fun q3 r => ?_)
  refine L.eq (ws' := (h0, .inr (1, [.ref q1, .ref q2, .null, .null])) :: (((Wf5 X.2.1 q1 u1 ++ [(q2, .inl (X.2.1 0, 8, .inl (fun _ => 0)))]) ++ [(q3, .inl (X.2.1 5, 9, .inr (.inr (.inr (.inr (rr 9 r))))))]) ++ (List.range 9).map (fun i => (r i, .inl (X.2.1 0, 256, .inl (fun _ => 0)))))) rfl ?_
  refine l_putF (C := RX1) (T := TX1) (N := 4) (fs' := [.ref q1, .ref q2, .ref q3, .null]) hF dX1_init_33 hin 2 tw_265 tw_lay1 tyX1 tyX1_ok nmX1 rfl (by decide) rfl rfl (of_decide_eq_true rfl) rfl rfl rfl ?_
  refine l_aload hF dX1_init_36 rfl ?_
  refine l_bipush (v := 8) hF dX1_init_37 rfl ?_
  refine l_newaI (N' := 8) hF dX1_init_39 (by decide) (by rw [hcl]; exact Nat.le_of_ble_eq_true rfl) (by rw [hsl]; exact Nat.le_of_ble_eq_true rfl) (fun q4 => ?_)
  refine L.eq (ws' := (h0, .inr (1, [.ref q1, .ref q2, .ref q3, .null])) :: ((((Wf5 X.2.1 q1 u1 ++ [(q2, .inl (X.2.1 0, 8, .inl (fun _ => 0)))]) ++ [(q3, .inl (X.2.1 5, 9, .inr (.inr (.inr (.inr (rr 9 r))))))]) ++ (List.range 9).map (fun i => (r i, .inl (X.2.1 0, 256, .inl (fun _ => 0))))) ++ [(q4, .inl (X.2.1 0, 8, .inl (fun _ => 0)))])) rfl ?_
  refine l_putF (C := RX1) (T := TX1) (N := 4) (fs' := [.ref q1, .ref q2, .ref q3, .ref q4]) hF dX1_init_41 hin 3 tw_266 tw_lay1 tyX1 tyX1_ok nmX1 rfl (by decide) rfl rfl (of_decide_eq_true rfl) rfl rfl rfl ?_
  exact fin _ _ _ _ _ (q1, u1, q2, q3, r, q4) dX1_init_44 (Nat.le_of_ble_eq_true rfl) (Nat.le_of_ble_eq_true rfl) rfl
set_option maxHeartbeats 400000 in
theorem c_X6_init : CI (S := S6) 3 yX6_init cX6_init 1 21 343 6 [.null, .int 0, .null, .null, .int 0, .int 0, .int 0] Wf6 := by
  refine CI.of [] (Or.inl rfl) (by decide) (by decide +kernel) rfl (fun G X h0 hF hN hin hcl hsl fin => ?_)
  refine l_aload hF dX6_init_0 rfl ?_
  refine l_obj hF dX6_init_1 tw_282 (by decide) ?_
  refine l_aload hF dX6_init_4 rfl ?_
  refine l_sipush (v := 250) hF dX6_init_5 rfl ?_
  refine l_newaI (N' := 250) hF dX6_init_8 (by decide) (by rw [hcl]; exact Nat.le_of_ble_eq_true rfl) (by rw [hsl]; exact Nat.le_of_ble_eq_true rfl) (fun q1 => ?_)
  refine L.eq (ws' := (h0, .inr (6, [.null, .int 0, .null, .null, .int 0, .int 0, .int 0])) :: [(q1, .inl (X.2.1 0, 250, .inl (fun _ => 0)))]) rfl ?_
  refine l_putF (C := RX6) (T := TX6) (N := 7) (fs' := [.ref q1, .int 0, .null, .null, .int 0, .int 0, .int 0]) hF dX6_init_10 hin 0 tw_285 tw_lay6 tyX6 tyX6_ok nmX6 rfl (by decide) rfl rfl (of_decide_eq_true rfl) rfl rfl rfl ?_
  refine l_aload hF dX6_init_13 rfl ?_
  refine l_make (C := RX5) (T := TX5) (N := 10) hF dX6_init_14 dX6_init_17 dX6_init_18 (c_X5_init) (Or.inl tw_284) tw_283 tw_99 tw_74 tw_101 tw_102 tw_lay5 tyX5 tyX5_ok rfl (fun j hj => by rcases (show j = 0 ∨ j = 1 ∨ j = 2 ∨ j = 3 ∨ j = 4 ∨ j = 5 ∨ j = 6 ∨ j = 7 ∨ j = 8 ∨ j = 9 by omega) with rfl | rfl | rfl | rfl | rfl | rfl | rfl | rfl | rfl | rfl <;> rfl) ⟨rfl, rfl, by decide, by decide, rfl⟩ (by decide) (by decide) (by rw [hcl]; exact Nat.le_of_ble_eq_true rfl) (by rw [hsl]; exact Nat.le_of_ble_eq_true rfl) (Nat.le_of_ble_eq_true rfl) (fun q2 u2 => ?_)
  refine L.eq (ws' := (h0, .inr (6, [.ref q1, .int 0, .null, .null, .int 0, .int 0, .int 0])) :: ([(q1, .inl (X.2.1 0, 250, .inl (fun _ => 0)))] ++ Wf5 X.2.1 q2 u2)) rfl ?_
  refine l_putF (C := RX6) (T := TX6) (N := 7) (fs' := [.ref q1, .int 0, .ref q2, .null, .int 0, .int 0, .int 0]) hF dX6_init_21 hin 2 tw_289 tw_lay6 tyX6 tyX6_ok nmX6 rfl (by decide) rfl rfl (of_decide_eq_true rfl) rfl rfl rfl ?_
  refine l_aload hF dX6_init_24 rfl ?_
  refine l_iconst (v := 3) hF dX6_init_25 rfl ?_
  refine l_newaI (N' := 3) hF dX6_init_26 (by decide) (by rw [hcl]; exact Nat.le_of_ble_eq_true rfl) (by rw [hsl]; exact Nat.le_of_ble_eq_true rfl) (fun q3 => ?_)
  refine L.eq (ws' := (h0, .inr (6, [.ref q1, .int 0, .ref q2, .null, .int 0, .int 0, .int 0])) :: (([(q1, .inl (X.2.1 0, 250, .inl (fun _ => 0)))] ++ Wf5 X.2.1 q2 u2) ++ [(q3, .inl (X.2.1 0, 3, .inl (fun _ => 0)))])) rfl ?_
  refine l_putF (C := RX6) (T := TX6) (N := 7) (fs' := [.ref q1, .int 0, .ref q2, .ref q3, .int 0, .int 0, .int 0]) hF dX6_init_28 hin 3 tw_291 tw_lay6 tyX6 tyX6_ok nmX6 rfl (by decide) rfl rfl (of_decide_eq_true rfl) rfl rfl rfl ?_
  exact fin _ _ _ _ _ (q1, q2, u2, q3) dX6_init_31 (Nat.le_of_ble_eq_true rfl) (Nat.le_of_ble_eq_true rfl) rfl
set_option maxHeartbeats 400000 in
theorem c_X8_init : CI (S := S8) 4 yX8_init cX8_init 2 139 3441 8 [.null, .null, .null, .null, .null, .null, .null, .int 0] Wf8 := by
  refine CI.of [none] (Or.inr rfl) (by decide) (by decide +kernel) rfl (fun G X h0 hF hN hin hcl hsl fin => ?_)
  refine l_aload hF dX8_init_0 rfl ?_
  refine l_obj hF dX8_init_1 tw_95 (by decide) ?_
  refine l_aload hF dX8_init_4 rfl ?_
  refine l_make (C := RX5) (T := TX5) (N := 10) hF dX8_init_5 dX8_init_8 dX8_init_9 (c_X5_init) (Or.inl tw_100) tw_98 tw_99 tw_74 tw_101 tw_102 tw_lay5 tyX5 tyX5_ok rfl (fun j hj => by rcases (show j = 0 ∨ j = 1 ∨ j = 2 ∨ j = 3 ∨ j = 4 ∨ j = 5 ∨ j = 6 ∨ j = 7 ∨ j = 8 ∨ j = 9 by omega) with rfl | rfl | rfl | rfl | rfl | rfl | rfl | rfl | rfl | rfl <;> rfl) ⟨rfl, rfl, by decide, by decide, rfl⟩ (by decide) (by decide) (by rw [hcl]; exact Nat.le_of_ble_eq_true rfl) (by rw [hsl]; exact Nat.le_of_ble_eq_true rfl) (Nat.le_of_ble_eq_true rfl) (fun q1 u1 => ?_)
  refine L.eq (ws' := (h0, .inr (8, [.null, .null, .null, .null, .null, .null, .null, .int 0])) :: Wf5 X.2.1 q1 u1) rfl ?_
  refine l_putF (C := RX8) (T := TX8) (N := 8) (fs' := [.ref q1, .null, .null, .null, .null, .null, .null, .int 0]) hF dX8_init_12 hin 0 tw_355 tw_lay8 tyX8 tyX8_ok nmX8 rfl (by decide) rfl rfl (of_decide_eq_true rfl) rfl rfl rfl ?_
  refine l_aload hF dX8_init_15 rfl ?_
  refine l_make (C := RX5) (T := TX5) (N := 10) hF dX8_init_16 dX8_init_19 dX8_init_20 (c_X5_init) (Or.inl tw_100) tw_98 tw_99 tw_74 tw_101 tw_102 tw_lay5 tyX5 tyX5_ok rfl (fun j hj => by rcases (show j = 0 ∨ j = 1 ∨ j = 2 ∨ j = 3 ∨ j = 4 ∨ j = 5 ∨ j = 6 ∨ j = 7 ∨ j = 8 ∨ j = 9 by omega) with rfl | rfl | rfl | rfl | rfl | rfl | rfl | rfl | rfl | rfl <;> rfl) ⟨rfl, rfl, by decide, by decide, rfl⟩ (by decide) (by decide) (by rw [hcl]; exact Nat.le_of_ble_eq_true rfl) (by rw [hsl]; exact Nat.le_of_ble_eq_true rfl) (Nat.le_of_ble_eq_true rfl) (fun q2 u2 => ?_)
  refine L.eq (ws' := (h0, .inr (8, [.ref q1, .null, .null, .null, .null, .null, .null, .int 0])) :: (Wf5 X.2.1 q1 u1 ++ Wf5 X.2.1 q2 u2)) rfl ?_
  refine l_putF (C := RX8) (T := TX8) (N := 8) (fs' := [.ref q1, .ref q2, .null, .null, .null, .null, .null, .int 0]) hF dX8_init_23 hin 1 tw_356 tw_lay8 tyX8 tyX8_ok nmX8 rfl (by decide) rfl rfl (of_decide_eq_true rfl) rfl rfl rfl ?_
  refine l_aload hF dX8_init_26 rfl ?_
  refine l_make (C := RX0) (T := TX0) (N := 7) hF dX8_init_27 dX8_init_30 dX8_init_31 (c_X0_init) (Or.inr (List.mem_of_getElem? (i := 2) rfl)) tw_216 tw_217 tw_77 tw_219 tw_220 tw_lay0 tyX0 tyX0_ok rfl (fun j hj => by rcases (show j = 0 ∨ j = 1 ∨ j = 2 ∨ j = 3 ∨ j = 4 ∨ j = 5 ∨ j = 6 by omega) with rfl | rfl | rfl | rfl | rfl | rfl | rfl <;> rfl) ⟨rfl, rfl, by decide, by decide, rfl⟩ (by decide) (by decide) (by rw [hcl]; exact Nat.le_of_ble_eq_true rfl) (by rw [hsl]; exact Nat.le_of_ble_eq_true rfl) (Nat.le_of_ble_eq_true rfl) (fun q3 u3 => ?_)
  refine L.eq (ws' := (h0, .inr (8, [.ref q1, .ref q2, .null, .null, .null, .null, .null, .int 0])) :: ((Wf5 X.2.1 q1 u1 ++ Wf5 X.2.1 q2 u2) ++ Wf0 X.2.1 q3 u3)) rfl ?_
  refine l_putF (C := RX8) (T := TX8) (N := 8) (fs' := [.ref q1, .ref q2, .ref q3, .null, .null, .null, .null, .int 0]) hF dX8_init_34 hin 2 tw_357 tw_lay8 tyX8 tyX8_ok nmX8 rfl (by decide) rfl rfl (of_decide_eq_true rfl) rfl rfl rfl ?_
  refine l_aload hF dX8_init_37 rfl ?_
  refine l_make (C := RX1) (T := TX1) (N := 4) hF dX8_init_38 dX8_init_41 dX8_init_42 (c_X1_init) (Or.inr (List.mem_of_getElem? (i := 3) rfl)) tw_253 tw_254 tw_78 tw_256 tw_257 tw_lay1 tyX1 tyX1_ok rfl (fun j hj => by rcases (show j = 0 ∨ j = 1 ∨ j = 2 ∨ j = 3 by omega) with rfl | rfl | rfl | rfl <;> rfl) ⟨rfl, rfl, by decide, by decide, rfl⟩ (by decide) (by decide) (by rw [hcl]; exact Nat.le_of_ble_eq_true rfl) (by rw [hsl]; exact Nat.le_of_ble_eq_true rfl) (Nat.le_of_ble_eq_true rfl) (fun q4 u4 => ?_)
  refine L.eq (ws' := (h0, .inr (8, [.ref q1, .ref q2, .ref q3, .null, .null, .null, .null, .int 0])) :: (((Wf5 X.2.1 q1 u1 ++ Wf5 X.2.1 q2 u2) ++ Wf0 X.2.1 q3 u3) ++ Wf1 X.2.1 q4 u4)) rfl ?_
  refine l_putF (C := RX8) (T := TX8) (N := 8) (fs' := [.ref q1, .ref q2, .ref q3, .ref q4, .null, .null, .null, .int 0]) hF dX8_init_45 hin 3 tw_358 tw_lay8 tyX8 tyX8_ok nmX8 rfl (by decide) rfl rfl (of_decide_eq_true rfl) rfl rfl rfl ?_
  refine l_aload hF dX8_init_48 rfl ?_
  refine l_make (C := RX6) (T := TX6) (N := 7) hF dX8_init_49 dX8_init_52 dX8_init_53 (c_X6_init) (Or.inr (List.mem_of_getElem? (i := 4) rfl)) tw_277 tw_278 tw_79 tw_280 tw_281 tw_lay6 tyX6 tyX6_ok rfl (fun j hj => by rcases (show j = 0 ∨ j = 1 ∨ j = 2 ∨ j = 3 ∨ j = 4 ∨ j = 5 ∨ j = 6 by omega) with rfl | rfl | rfl | rfl | rfl | rfl | rfl <;> rfl) ⟨rfl, rfl, by decide, by decide, rfl⟩ (by decide) (by decide) (by rw [hcl]; exact Nat.le_of_ble_eq_true rfl) (by rw [hsl]; exact Nat.le_of_ble_eq_true rfl) (Nat.le_of_ble_eq_true rfl) (fun q5 u5 => ?_)
  refine L.eq (ws' := (h0, .inr (8, [.ref q1, .ref q2, .ref q3, .ref q4, .null, .null, .null, .int 0])) :: ((((Wf5 X.2.1 q1 u1 ++ Wf5 X.2.1 q2 u2) ++ Wf0 X.2.1 q3 u3) ++ Wf1 X.2.1 q4 u4) ++ Wf6 X.2.1 q5 u5)) rfl ?_
  refine l_putF (C := RX8) (T := TX8) (N := 8) (fs' := [.ref q1, .ref q2, .ref q3, .ref q4, .ref q5, .null, .null, .int 0]) hF dX8_init_56 hin 4 tw_359 tw_lay8 tyX8 tyX8_ok nmX8 rfl (by decide) rfl rfl (of_decide_eq_true rfl) rfl rfl rfl ?_
  refine l_aload hF dX8_init_59 rfl ?_
  refine l_bipush (v := 8) hF dX8_init_60 rfl ?_
  refine l_newq (C := RX4) (t := 4) (N' := 8) hF dX8_init_62 tw_310 hF.2.2.2.2.2.1.2.2.2.2.1 rfl (by decide) (by rw [hcl]; exact Nat.le_of_ble_eq_true rfl) (by rw [hsl]; exact Nat.le_of_ble_eq_true rfl) (fun q6 => ?_)
  refine L.eq (ws' := ([(h0, .inr (8, [.ref q1, .ref q2, .ref q3, .ref q4, .ref q5, .null, .null, .int 0]))] ++ ((((Wf5 X.2.1 q1 u1 ++ Wf5 X.2.1 q2 u2) ++ Wf0 X.2.1 q3 u3) ++ Wf1 X.2.1 q4 u4) ++ Wf6 X.2.1 q5 u5)) ++ [(q6, .inl (X.2.1 4, 8, .inr (.inr (.inr (.inr (fun _ => none))))))]) rfl ?_
  refine L.swap ?_
  refine L.eq (ws' := (h0, .inr (8, [.ref q1, .ref q2, .ref q3, .ref q4, .ref q5, .null, .null, .int 0])) :: (q6, .inl (X.2.1 4, 8, .inr (.inr (.inr (.inr (fun _ => none)))))) :: ((((Wf5 X.2.1 q1 u1 ++ Wf5 X.2.1 q2 u2) ++ Wf0 X.2.1 q3 u3) ++ Wf1 X.2.1 q4 u4) ++ Wf6 X.2.1 q5 u5)) rfl ?_
  refine l_putF (C := RX8) (T := TX8) (N := 8) (fs' := [.ref q1, .ref q2, .ref q3, .ref q4, .ref q5, .ref q6, .null, .int 0]) hF dX8_init_65 hin 5 tw_360 tw_lay8 tyX8 tyX8_ok nmX8 rfl (by decide) rfl rfl (of_decide_eq_true rfl) rfl rfl rfl ?_
  refine l_aload hF dX8_init_68 rfl ?_
  refine l_bipush (v := 7) hF dX8_init_69 rfl ?_
  refine l_newaI (N' := 7) hF dX8_init_71 (by decide) (by rw [hcl]; exact Nat.le_of_ble_eq_true rfl) (by rw [hsl]; exact Nat.le_of_ble_eq_true rfl) (fun q7 => ?_)
  refine L.eq (ws' := (h0, .inr (8, [.ref q1, .ref q2, .ref q3, .ref q4, .ref q5, .ref q6, .null, .int 0])) :: ((q6, .inl (X.2.1 4, 8, .inr (.inr (.inr (.inr (fun _ => none)))))) :: ((((Wf5 X.2.1 q1 u1 ++ Wf5 X.2.1 q2 u2) ++ Wf0 X.2.1 q3 u3) ++ Wf1 X.2.1 q4 u4) ++ Wf6 X.2.1 q5 u5) ++ [(q7, .inl (X.2.1 0, 7, .inl (fun _ => 0)))])) rfl ?_
  refine l_putF (C := RX8) (T := TX8) (N := 8) (fs' := [.ref q1, .ref q2, .ref q3, .ref q4, .ref q5, .ref q6, .ref q7, .int 0]) hF dX8_init_73 hin 6 tw_361 tw_lay8 tyX8 tyX8_ok nmX8 rfl (by decide) rfl rfl (of_decide_eq_true rfl) rfl rfl rfl ?_
  refine l_iconst (v := nI 0) hF dX8_init_76 rfl ?_
  refine l_istore hF dX8_init_77 rfl rfl ?_
  refine l_fill (C := RX4) (T := TX4) (N := 3) (CO := RX8) (TO := TX8) (NO := 8) (t := 4) (b := 78) (e := 103) (0, 0) hF dX8_init_78 dX8_init_79 dX8_init_81 (by decide) dX8_init_84 dX8_init_85 dX8_init_88 dX8_init_89 dX8_init_92 dX8_init_93 dX8_init_96 dX8_init_97 dX8_init_100 (by decide) c_X4_init (Or.inr (List.mem_of_getElem? (i := 5) rfl)) tw_310 tw_312 tw_80 tw_314 tw_315 tw_lay4 tyX4 tyX4_ok rfl (fun j hj => by rcases (show j = 0 ∨ j = 1 ∨ j = 2 by omega) with rfl | rfl | rfl <;> rfl) ⟨rfl, rfl, by decide, by decide, rfl⟩ (by decide) (by decide) 5 tw_360 tw_lay8 rfl (by decide) rfl rfl (fun q u => ⟨_, rfl⟩) (by rw [hcl]; exact Nat.le_of_ble_eq_true rfl) (by rw [hsl]; exact Nat.le_of_ble_eq_true rfl) (fun r1 a1 => ?_)
  exact fin _ _ _ _ _ ((q1, u1), (q2, u2), (q3, u3), (q4, u4), (q5, u5), q6, q7, r1, a1) dX8_init_103 (Nat.le_of_ble_eq_true rfl) (Nat.le_of_ble_eq_true rfl) rfl
set_option maxHeartbeats 400000 in
theorem c_X9_init : CI (S := Nat → Nat) 1 yX9_init cX9_init 2 20 842 9 [.int 0, .null, .int 0, .int 0, .null, .null, .null, .int 0, .null, .null, .null, .null, .null, .int 0, .int 0, .null, .int 0, .int 0, .int 0, .int 0, .null, .null, .null, .null, .int 0, .null, .null, .null, .null, .null, .null, .int 0] Wf9 := by
  refine CI.of [none] (Or.inr rfl) (by decide) (by decide +kernel) rfl (fun G X h0 hF hN hin hcl hsl fin => ?_)
  refine l_aload hF dX9_init_0 rfl ?_
  refine l_obj hF dX9_init_1 tw_1165 (by decide) ?_
  refine l_aload hF dX9_init_4 rfl ?_
  refine l_iconst (v := 3) hF dX9_init_5 rfl ?_
  refine l_newaI (N' := 3) hF dX9_init_6 (by decide) (by rw [hcl]; exact Nat.le_of_ble_eq_true rfl) (by rw [hsl]; exact Nat.le_of_ble_eq_true rfl) (fun q1 => ?_)
  refine L.eq (ws' := (h0, .inr (9, [.int 0, .null, .int 0, .int 0, .null, .null, .null, .int 0, .null, .null, .null, .null, .null, .int 0, .int 0, .null, .int 0, .int 0, .int 0, .int 0, .null, .null, .null, .null, .int 0, .null, .null, .null, .null, .null, .null, .int 0])) :: [(q1, .inl (X.2.1 0, 3, .inl (fun _ => 0)))]) rfl ?_
  refine l_putF (C := RX9) (T := TX9) (N := 32) (fs' := [.int 0, .ref q1, .int 0, .int 0, .null, .null, .null, .int 0, .null, .null, .null, .null, .null, .int 0, .int 0, .null, .int 0, .int 0, .int 0, .int 0, .null, .null, .null, .null, .int 0, .null, .null, .null, .null, .null, .null, .int 0]) hF dX9_init_8 hin 1 tw_1167 tw_lay9 tyX9 tyX9_ok nmX9 rfl (by decide) rfl rfl (of_decide_eq_true rfl) rfl rfl rfl ?_
  refine l_aload hF dX9_init_11 rfl ?_
  refine l_bipush (v := 8) hF dX9_init_12 rfl ?_
  refine l_newaI (N' := 8) hF dX9_init_14 (by decide) (by rw [hcl]; exact Nat.le_of_ble_eq_true rfl) (by rw [hsl]; exact Nat.le_of_ble_eq_true rfl) (fun q2 => ?_)
  refine L.eq (ws' := (h0, .inr (9, [.int 0, .ref q1, .int 0, .int 0, .null, .null, .null, .int 0, .null, .null, .null, .null, .null, .int 0, .int 0, .null, .int 0, .int 0, .int 0, .int 0, .null, .null, .null, .null, .int 0, .null, .null, .null, .null, .null, .null, .int 0])) :: [(q1, .inl (X.2.1 0, 3, .inl (fun _ => 0))), (q2, .inl (X.2.1 0, 8, .inl (fun _ => 0)))]) rfl ?_
  refine l_putF (C := RX9) (T := TX9) (N := 32) (fs' := [.int 0, .ref q1, .int 0, .int 0, .ref q2, .null, .null, .int 0, .null, .null, .null, .null, .null, .int 0, .int 0, .null, .int 0, .int 0, .int 0, .int 0, .null, .null, .null, .null, .int 0, .null, .null, .null, .null, .null, .null, .int 0]) hF dX9_init_16 hin 4 tw_1170 tw_lay9 tyX9 tyX9_ok nmX9 rfl (by decide) rfl rfl (of_decide_eq_true rfl) rfl rfl rfl ?_
  refine l_aload hF dX9_init_19 rfl ?_
  refine l_bipush (v := 8) hF dX9_init_20 rfl ?_
  refine l_newaI (N' := 8) hF dX9_init_22 (by decide) (by rw [hcl]; exact Nat.le_of_ble_eq_true rfl) (by rw [hsl]; exact Nat.le_of_ble_eq_true rfl) (fun q3 => ?_)
  refine L.eq (ws' := (h0, .inr (9, [.int 0, .ref q1, .int 0, .int 0, .ref q2, .null, .null, .int 0, .null, .null, .null, .null, .null, .int 0, .int 0, .null, .int 0, .int 0, .int 0, .int 0, .null, .null, .null, .null, .int 0, .null, .null, .null, .null, .null, .null, .int 0])) :: [(q1, .inl (X.2.1 0, 3, .inl (fun _ => 0))), (q2, .inl (X.2.1 0, 8, .inl (fun _ => 0))), (q3, .inl (X.2.1 0, 8, .inl (fun _ => 0)))]) rfl ?_
  refine l_putF (C := RX9) (T := TX9) (N := 32) (fs' := [.int 0, .ref q1, .int 0, .int 0, .ref q2, .ref q3, .null, .int 0, .null, .null, .null, .null, .null, .int 0, .int 0, .null, .int 0, .int 0, .int 0, .int 0, .null, .null, .null, .null, .int 0, .null, .null, .null, .null, .null, .null, .int 0]) hF dX9_init_24 hin 5 tw_1171 tw_lay9 tyX9 tyX9_ok nmX9 rfl (by decide) rfl rfl (of_decide_eq_true rfl) rfl rfl rfl ?_
  refine l_aload hF dX9_init_27 rfl ?_
  refine l_bipush (v := 8) hF dX9_init_28 rfl ?_
  refine l_newaI (N' := 8) hF dX9_init_30 (by decide) (by rw [hcl]; exact Nat.le_of_ble_eq_true rfl) (by rw [hsl]; exact Nat.le_of_ble_eq_true rfl) (fun q4 => ?_)
  refine L.eq (ws' := (h0, .inr (9, [.int 0, .ref q1, .int 0, .int 0, .ref q2, .ref q3, .null, .int 0, .null, .null, .null, .null, .null, .int 0, .int 0, .null, .int 0, .int 0, .int 0, .int 0, .null, .null, .null, .null, .int 0, .null, .null, .null, .null, .null, .null, .int 0])) :: [(q1, .inl (X.2.1 0, 3, .inl (fun _ => 0))), (q2, .inl (X.2.1 0, 8, .inl (fun _ => 0))), (q3, .inl (X.2.1 0, 8, .inl (fun _ => 0))), (q4, .inl (X.2.1 0, 8, .inl (fun _ => 0)))]) rfl ?_
  refine l_putF (C := RX9) (T := TX9) (N := 32) (fs' := [.int 0, .ref q1, .int 0, .int 0, .ref q2, .ref q3, .ref q4, .int 0, .null, .null, .null, .null, .null, .int 0, .int 0, .null, .int 0, .int 0, .int 0, .int 0, .null, .null, .null, .null, .int 0, .null, .null, .null, .null, .null, .null, .int 0]) hF dX9_init_32 hin 6 tw_1172 tw_lay9 tyX9 tyX9_ok nmX9 rfl (by decide) rfl rfl (of_decide_eq_true rfl) rfl rfl rfl ?_
  refine l_aload hF dX9_init_35 rfl ?_
  refine l_bipush (v := 8) hF dX9_init_36 rfl ?_
  refine l_newaI (N' := 8) hF dX9_init_38 (by decide) (by rw [hcl]; exact Nat.le_of_ble_eq_true rfl) (by rw [hsl]; exact Nat.le_of_ble_eq_true rfl) (fun q5 => ?_)
  refine L.eq (ws' := (h0, .inr (9, [.int 0, .ref q1, .int 0, .int 0, .ref q2, .ref q3, .ref q4, .int 0, .null, .null, .null, .null, .null, .int 0, .int 0, .null, .int 0, .int 0, .int 0, .int 0, .null, .null, .null, .null, .int 0, .null, .null, .null, .null, .null, .null, .int 0])) :: [(q1, .inl (X.2.1 0, 3, .inl (fun _ => 0))), (q2, .inl (X.2.1 0, 8, .inl (fun _ => 0))), (q3, .inl (X.2.1 0, 8, .inl (fun _ => 0))), (q4, .inl (X.2.1 0, 8, .inl (fun _ => 0))), (q5, .inl (X.2.1 0, 8, .inl (fun _ => 0)))]) rfl ?_
  refine l_putF (C := RX9) (T := TX9) (N := 32) (fs' := [.int 0, .ref q1, .int 0, .int 0, .ref q2, .ref q3, .ref q4, .int 0, .ref q5, .null, .null, .null, .null, .int 0, .int 0, .null, .int 0, .int 0, .int 0, .int 0, .null, .null, .null, .null, .int 0, .null, .null, .null, .null, .null, .null, .int 0]) hF dX9_init_40 hin 8 tw_1174 tw_lay9 tyX9 tyX9_ok nmX9 rfl (by decide) rfl rfl (of_decide_eq_true rfl) rfl rfl rfl ?_
  refine l_aload hF dX9_init_43 rfl ?_
  refine l_bipush (v := 8) hF dX9_init_44 rfl ?_
  refine l_newaI (N' := 8) hF dX9_init_46 (by decide) (by rw [hcl]; exact Nat.le_of_ble_eq_true rfl) (by rw [hsl]; exact Nat.le_of_ble_eq_true rfl) (fun q6 => ?_)
  refine L.eq (ws' := (h0, .inr (9, [.int 0, .ref q1, .int 0, .int 0, .ref q2, .ref q3, .ref q4, .int 0, .ref q5, .null, .null, .null, .null, .int 0, .int 0, .null, .int 0, .int 0, .int 0, .int 0, .null, .null, .null, .null, .int 0, .null, .null, .null, .null, .null, .null, .int 0])) :: [(q1, .inl (X.2.1 0, 3, .inl (fun _ => 0))), (q2, .inl (X.2.1 0, 8, .inl (fun _ => 0))), (q3, .inl (X.2.1 0, 8, .inl (fun _ => 0))), (q4, .inl (X.2.1 0, 8, .inl (fun _ => 0))), (q5, .inl (X.2.1 0, 8, .inl (fun _ => 0))), (q6, .inl (X.2.1 0, 8, .inl (fun _ => 0)))]) rfl ?_
  refine l_putF (C := RX9) (T := TX9) (N := 32) (fs' := [.int 0, .ref q1, .int 0, .int 0, .ref q2, .ref q3, .ref q4, .int 0, .ref q5, .ref q6, .null, .null, .null, .int 0, .int 0, .null, .int 0, .int 0, .int 0, .int 0, .null, .null, .null, .null, .int 0, .null, .null, .null, .null, .null, .null, .int 0]) hF dX9_init_48 hin 9 tw_1175 tw_lay9 tyX9 tyX9_ok nmX9 rfl (by decide) rfl rfl (of_decide_eq_true rfl) rfl rfl rfl ?_
  refine l_aload hF dX9_init_51 rfl ?_
  refine l_bipush (v := 8) hF dX9_init_52 rfl ?_
  refine l_newaI (N' := 8) hF dX9_init_54 (by decide) (by rw [hcl]; exact Nat.le_of_ble_eq_true rfl) (by rw [hsl]; exact Nat.le_of_ble_eq_true rfl) (fun q7 => ?_)
  refine L.eq (ws' := (h0, .inr (9, [.int 0, .ref q1, .int 0, .int 0, .ref q2, .ref q3, .ref q4, .int 0, .ref q5, .ref q6, .null, .null, .null, .int 0, .int 0, .null, .int 0, .int 0, .int 0, .int 0, .null, .null, .null, .null, .int 0, .null, .null, .null, .null, .null, .null, .int 0])) :: [(q1, .inl (X.2.1 0, 3, .inl (fun _ => 0))), (q2, .inl (X.2.1 0, 8, .inl (fun _ => 0))), (q3, .inl (X.2.1 0, 8, .inl (fun _ => 0))), (q4, .inl (X.2.1 0, 8, .inl (fun _ => 0))), (q5, .inl (X.2.1 0, 8, .inl (fun _ => 0))), (q6, .inl (X.2.1 0, 8, .inl (fun _ => 0))), (q7, .inl (X.2.1 0, 8, .inl (fun _ => 0)))]) rfl ?_
  refine l_putF (C := RX9) (T := TX9) (N := 32) (fs' := [.int 0, .ref q1, .int 0, .int 0, .ref q2, .ref q3, .ref q4, .int 0, .ref q5, .ref q6, .ref q7, .null, .null, .int 0, .int 0, .null, .int 0, .int 0, .int 0, .int 0, .null, .null, .null, .null, .int 0, .null, .null, .null, .null, .null, .null, .int 0]) hF dX9_init_56 hin 10 tw_1176 tw_lay9 tyX9 tyX9_ok nmX9 rfl (by decide) rfl rfl (of_decide_eq_true rfl) rfl rfl rfl ?_
  refine l_aload hF dX9_init_59 rfl ?_
  refine l_bipush (v := 8) hF dX9_init_60 rfl ?_
  refine l_newaI (N' := 8) hF dX9_init_62 (by decide) (by rw [hcl]; exact Nat.le_of_ble_eq_true rfl) (by rw [hsl]; exact Nat.le_of_ble_eq_true rfl) (fun q8 => ?_)
  refine L.eq (ws' := (h0, .inr (9, [.int 0, .ref q1, .int 0, .int 0, .ref q2, .ref q3, .ref q4, .int 0, .ref q5, .ref q6, .ref q7, .null, .null, .int 0, .int 0, .null, .int 0, .int 0, .int 0, .int 0, .null, .null, .null, .null, .int 0, .null, .null, .null, .null, .null, .null, .int 0])) :: [(q1, .inl (X.2.1 0, 3, .inl (fun _ => 0))), (q2, .inl (X.2.1 0, 8, .inl (fun _ => 0))), (q3, .inl (X.2.1 0, 8, .inl (fun _ => 0))), (q4, .inl (X.2.1 0, 8, .inl (fun _ => 0))), (q5, .inl (X.2.1 0, 8, .inl (fun _ => 0))), (q6, .inl (X.2.1 0, 8, .inl (fun _ => 0))), (q7, .inl (X.2.1 0, 8, .inl (fun _ => 0))), (q8, .inl (X.2.1 0, 8, .inl (fun _ => 0)))]) rfl ?_
  refine l_putF (C := RX9) (T := TX9) (N := 32) (fs' := [.int 0, .ref q1, .int 0, .int 0, .ref q2, .ref q3, .ref q4, .int 0, .ref q5, .ref q6, .ref q7, .ref q8, .null, .int 0, .int 0, .null, .int 0, .int 0, .int 0, .int 0, .null, .null, .null, .null, .int 0, .null, .null, .null, .null, .null, .null, .int 0]) hF dX9_init_64 hin 11 tw_1177 tw_lay9 tyX9 tyX9_ok nmX9 rfl (by decide) rfl rfl (of_decide_eq_true rfl) rfl rfl rfl ?_
  refine l_aload hF dX9_init_67 rfl ?_
  refine l_bipush (v := 8) hF dX9_init_68 rfl ?_
  refine l_newaI (N' := 8) hF dX9_init_70 (by decide) (by rw [hcl]; exact Nat.le_of_ble_eq_true rfl) (by rw [hsl]; exact Nat.le_of_ble_eq_true rfl) (fun q9 => ?_)
  refine L.eq (ws' := (h0, .inr (9, [.int 0, .ref q1, .int 0, .int 0, .ref q2, .ref q3, .ref q4, .int 0, .ref q5, .ref q6, .ref q7, .ref q8, .null, .int 0, .int 0, .null, .int 0, .int 0, .int 0, .int 0, .null, .null, .null, .null, .int 0, .null, .null, .null, .null, .null, .null, .int 0])) :: [(q1, .inl (X.2.1 0, 3, .inl (fun _ => 0))), (q2, .inl (X.2.1 0, 8, .inl (fun _ => 0))), (q3, .inl (X.2.1 0, 8, .inl (fun _ => 0))), (q4, .inl (X.2.1 0, 8, .inl (fun _ => 0))), (q5, .inl (X.2.1 0, 8, .inl (fun _ => 0))), (q6, .inl (X.2.1 0, 8, .inl (fun _ => 0))), (q7, .inl (X.2.1 0, 8, .inl (fun _ => 0))), (q8, .inl (X.2.1 0, 8, .inl (fun _ => 0))), (q9, .inl (X.2.1 0, 8, .inl (fun _ => 0)))]) rfl ?_
  refine l_putF (C := RX9) (T := TX9) (N := 32) (fs' := [.int 0, .ref q1, .int 0, .int 0, .ref q2, .ref q3, .ref q4, .int 0, .ref q5, .ref q6, .ref q7, .ref q8, .ref q9, .int 0, .int 0, .null, .int 0, .int 0, .int 0, .int 0, .null, .null, .null, .null, .int 0, .null, .null, .null, .null, .null, .null, .int 0]) hF dX9_init_72 hin 12 tw_1178 tw_lay9 tyX9 tyX9_ok nmX9 rfl (by decide) rfl rfl (of_decide_eq_true rfl) rfl rfl rfl ?_
  refine l_aload hF dX9_init_75 rfl ?_
  refine l_sipush (v := 250) hF dX9_init_76 rfl ?_
  refine l_newaI (N' := 250) hF dX9_init_79 (by decide) (by rw [hcl]; exact Nat.le_of_ble_eq_true rfl) (by rw [hsl]; exact Nat.le_of_ble_eq_true rfl) (fun q10 => ?_)
  refine L.eq (ws' := (h0, .inr (9, [.int 0, .ref q1, .int 0, .int 0, .ref q2, .ref q3, .ref q4, .int 0, .ref q5, .ref q6, .ref q7, .ref q8, .ref q9, .int 0, .int 0, .null, .int 0, .int 0, .int 0, .int 0, .null, .null, .null, .null, .int 0, .null, .null, .null, .null, .null, .null, .int 0])) :: [(q1, .inl (X.2.1 0, 3, .inl (fun _ => 0))), (q2, .inl (X.2.1 0, 8, .inl (fun _ => 0))), (q3, .inl (X.2.1 0, 8, .inl (fun _ => 0))), (q4, .inl (X.2.1 0, 8, .inl (fun _ => 0))), (q5, .inl (X.2.1 0, 8, .inl (fun _ => 0))), (q6, .inl (X.2.1 0, 8, .inl (fun _ => 0))), (q7, .inl (X.2.1 0, 8, .inl (fun _ => 0))), (q8, .inl (X.2.1 0, 8, .inl (fun _ => 0))), (q9, .inl (X.2.1 0, 8, .inl (fun _ => 0))), (q10, .inl (X.2.1 0, 250, .inl (fun _ => 0)))]) rfl ?_
  refine l_putF (C := RX9) (T := TX9) (N := 32) (fs' := [.int 0, .ref q1, .int 0, .int 0, .ref q2, .ref q3, .ref q4, .int 0, .ref q5, .ref q6, .ref q7, .ref q8, .ref q9, .int 0, .int 0, .ref q10, .int 0, .int 0, .int 0, .int 0, .null, .null, .null, .null, .int 0, .null, .null, .null, .null, .null, .null, .int 0]) hF dX9_init_81 hin 15 tw_1181 tw_lay9 tyX9 tyX9_ok nmX9 rfl (by decide) rfl rfl (of_decide_eq_true rfl) rfl rfl rfl ?_
  refine l_aload hF dX9_init_84 rfl ?_
  refine l_bipush (v := 8) hF dX9_init_85 rfl ?_
  refine l_newaI (N' := 8) hF dX9_init_87 (by decide) (by rw [hcl]; exact Nat.le_of_ble_eq_true rfl) (by rw [hsl]; exact Nat.le_of_ble_eq_true rfl) (fun q11 => ?_)
  refine L.eq (ws' := (h0, .inr (9, [.int 0, .ref q1, .int 0, .int 0, .ref q2, .ref q3, .ref q4, .int 0, .ref q5, .ref q6, .ref q7, .ref q8, .ref q9, .int 0, .int 0, .ref q10, .int 0, .int 0, .int 0, .int 0, .null, .null, .null, .null, .int 0, .null, .null, .null, .null, .null, .null, .int 0])) :: [(q1, .inl (X.2.1 0, 3, .inl (fun _ => 0))), (q2, .inl (X.2.1 0, 8, .inl (fun _ => 0))), (q3, .inl (X.2.1 0, 8, .inl (fun _ => 0))), (q4, .inl (X.2.1 0, 8, .inl (fun _ => 0))), (q5, .inl (X.2.1 0, 8, .inl (fun _ => 0))), (q6, .inl (X.2.1 0, 8, .inl (fun _ => 0))), (q7, .inl (X.2.1 0, 8, .inl (fun _ => 0))), (q8, .inl (X.2.1 0, 8, .inl (fun _ => 0))), (q9, .inl (X.2.1 0, 8, .inl (fun _ => 0))), (q10, .inl (X.2.1 0, 250, .inl (fun _ => 0))), (q11, .inl (X.2.1 0, 8, .inl (fun _ => 0)))]) rfl ?_
  refine l_putF (C := RX9) (T := TX9) (N := 32) (fs' := [.int 0, .ref q1, .int 0, .int 0, .ref q2, .ref q3, .ref q4, .int 0, .ref q5, .ref q6, .ref q7, .ref q8, .ref q9, .int 0, .int 0, .ref q10, .int 0, .int 0, .int 0, .int 0, .ref q11, .null, .null, .null, .int 0, .null, .null, .null, .null, .null, .null, .int 0]) hF dX9_init_89 hin 20 tw_1186 tw_lay9 tyX9 tyX9_ok nmX9 rfl (by decide) rfl rfl (of_decide_eq_true rfl) rfl rfl rfl ?_
  refine l_aload hF dX9_init_92 rfl ?_
  refine l_bipush (v := 8) hF dX9_init_93 rfl ?_
  refine l_newaI (N' := 8) hF dX9_init_95 (by decide) (by rw [hcl]; exact Nat.le_of_ble_eq_true rfl) (by rw [hsl]; exact Nat.le_of_ble_eq_true rfl) (fun q12 => ?_)
  refine L.eq (ws' := (h0, .inr (9, [.int 0, .ref q1, .int 0, .int 0, .ref q2, .ref q3, .ref q4, .int 0, .ref q5, .ref q6, .ref q7, .ref q8, .ref q9, .int 0, .int 0, .ref q10, .int 0, .int 0, .int 0, .int 0, .ref q11, .null, .null, .null, .int 0, .null, .null, .null, .null, .null, .null, .int 0])) :: [(q1, .inl (X.2.1 0, 3, .inl (fun _ => 0))), (q2, .inl (X.2.1 0, 8, .inl (fun _ => 0))), (q3, .inl (X.2.1 0, 8, .inl (fun _ => 0))), (q4, .inl (X.2.1 0, 8, .inl (fun _ => 0))), (q5, .inl (X.2.1 0, 8, .inl (fun _ => 0))), (q6, .inl (X.2.1 0, 8, .inl (fun _ => 0))), (q7, .inl (X.2.1 0, 8, .inl (fun _ => 0))), (q8, .inl (X.2.1 0, 8, .inl (fun _ => 0))), (q9, .inl (X.2.1 0, 8, .inl (fun _ => 0))), (q10, .inl (X.2.1 0, 250, .inl (fun _ => 0))), (q11, .inl (X.2.1 0, 8, .inl (fun _ => 0))), (q12, .inl (X.2.1 0, 8, .inl (fun _ => 0)))]) rfl ?_
  refine l_putF (C := RX9) (T := TX9) (N := 32) (fs' := [.int 0, .ref q1, .int 0, .int 0, .ref q2, .ref q3, .ref q4, .int 0, .ref q5, .ref q6, .ref q7, .ref q8, .ref q9, .int 0, .int 0, .ref q10, .int 0, .int 0, .int 0, .int 0, .ref q11, .ref q12, .null, .null, .int 0, .null, .null, .null, .null, .null, .null, .int 0]) hF dX9_init_97 hin 21 tw_1187 tw_lay9 tyX9 tyX9_ok nmX9 rfl (by decide) rfl rfl (of_decide_eq_true rfl) rfl rfl rfl ?_
  refine l_aload hF dX9_init_100 rfl ?_
  refine l_sipush (v := 320) hF dX9_init_101 rfl ?_
  refine l_newaJ (N' := 320) hF dX9_init_104 (by decide) (by rw [hcl]; exact Nat.le_of_ble_eq_true rfl) (by rw [hsl]; exact Nat.le_of_ble_eq_true rfl) (fun q13 => ?_)
  refine L.eq (ws' := (h0, .inr (9, [.int 0, .ref q1, .int 0, .int 0, .ref q2, .ref q3, .ref q4, .int 0, .ref q5, .ref q6, .ref q7, .ref q8, .ref q9, .int 0, .int 0, .ref q10, .int 0, .int 0, .int 0, .int 0, .ref q11, .ref q12, .null, .null, .int 0, .null, .null, .null, .null, .null, .null, .int 0])) :: [(q1, .inl (X.2.1 0, 3, .inl (fun _ => 0))), (q2, .inl (X.2.1 0, 8, .inl (fun _ => 0))), (q3, .inl (X.2.1 0, 8, .inl (fun _ => 0))), (q4, .inl (X.2.1 0, 8, .inl (fun _ => 0))), (q5, .inl (X.2.1 0, 8, .inl (fun _ => 0))), (q6, .inl (X.2.1 0, 8, .inl (fun _ => 0))), (q7, .inl (X.2.1 0, 8, .inl (fun _ => 0))), (q8, .inl (X.2.1 0, 8, .inl (fun _ => 0))), (q9, .inl (X.2.1 0, 8, .inl (fun _ => 0))), (q10, .inl (X.2.1 0, 250, .inl (fun _ => 0))), (q11, .inl (X.2.1 0, 8, .inl (fun _ => 0))), (q12, .inl (X.2.1 0, 8, .inl (fun _ => 0))), (q13, .inl (X.2.1 1, 320, .inr (.inl (fun _ => 0))))]) rfl ?_
  refine l_putF (C := RX9) (T := TX9) (N := 32) (fs' := [.int 0, .ref q1, .int 0, .int 0, .ref q2, .ref q3, .ref q4, .int 0, .ref q5, .ref q6, .ref q7, .ref q8, .ref q9, .int 0, .int 0, .ref q10, .int 0, .int 0, .int 0, .int 0, .ref q11, .ref q12, .ref q13, .null, .int 0, .null, .null, .null, .null, .null, .null, .int 0]) hF dX9_init_106 hin 22 tw_1188 tw_lay9 tyX9 tyX9_ok nmX9 rfl (by decide) rfl rfl (of_decide_eq_true rfl) rfl rfl rfl ?_
  refine l_aload hF dX9_init_109 rfl ?_
  refine l_bipush (v := 7) hF dX9_init_110 rfl ?_
  refine l_newaI (N' := 7) hF dX9_init_112 (by decide) (by rw [hcl]; exact Nat.le_of_ble_eq_true rfl) (by rw [hsl]; exact Nat.le_of_ble_eq_true rfl) (fun q14 => ?_)
  refine L.eq (ws' := (h0, .inr (9, [.int 0, .ref q1, .int 0, .int 0, .ref q2, .ref q3, .ref q4, .int 0, .ref q5, .ref q6, .ref q7, .ref q8, .ref q9, .int 0, .int 0, .ref q10, .int 0, .int 0, .int 0, .int 0, .ref q11, .ref q12, .ref q13, .null, .int 0, .null, .null, .null, .null, .null, .null, .int 0])) :: [(q1, .inl (X.2.1 0, 3, .inl (fun _ => 0))), (q2, .inl (X.2.1 0, 8, .inl (fun _ => 0))), (q3, .inl (X.2.1 0, 8, .inl (fun _ => 0))), (q4, .inl (X.2.1 0, 8, .inl (fun _ => 0))), (q5, .inl (X.2.1 0, 8, .inl (fun _ => 0))), (q6, .inl (X.2.1 0, 8, .inl (fun _ => 0))), (q7, .inl (X.2.1 0, 8, .inl (fun _ => 0))), (q8, .inl (X.2.1 0, 8, .inl (fun _ => 0))), (q9, .inl (X.2.1 0, 8, .inl (fun _ => 0))), (q10, .inl (X.2.1 0, 250, .inl (fun _ => 0))), (q11, .inl (X.2.1 0, 8, .inl (fun _ => 0))), (q12, .inl (X.2.1 0, 8, .inl (fun _ => 0))), (q13, .inl (X.2.1 1, 320, .inr (.inl (fun _ => 0)))), (q14, .inl (X.2.1 0, 7, .inl (fun _ => 0)))]) rfl ?_
  refine l_putF (C := RX9) (T := TX9) (N := 32) (fs' := [.int 0, .ref q1, .int 0, .int 0, .ref q2, .ref q3, .ref q4, .int 0, .ref q5, .ref q6, .ref q7, .ref q8, .ref q9, .int 0, .int 0, .ref q10, .int 0, .int 0, .int 0, .int 0, .ref q11, .ref q12, .ref q13, .ref q14, .int 0, .null, .null, .null, .null, .null, .null, .int 0]) hF dX9_init_114 hin 23 tw_1189 tw_lay9 tyX9 tyX9_ok nmX9 rfl (by decide) rfl rfl (of_decide_eq_true rfl) rfl rfl rfl ?_
  refine l_aload hF dX9_init_117 rfl ?_
  refine l_bipush (v := 75) hF dX9_init_118 rfl ?_
  refine l_newaI (N' := 75) hF dX9_init_120 (by decide) (by rw [hcl]; exact Nat.le_of_ble_eq_true rfl) (by rw [hsl]; exact Nat.le_of_ble_eq_true rfl) (fun q15 => ?_)
  refine L.eq (ws' := (h0, .inr (9, [.int 0, .ref q1, .int 0, .int 0, .ref q2, .ref q3, .ref q4, .int 0, .ref q5, .ref q6, .ref q7, .ref q8, .ref q9, .int 0, .int 0, .ref q10, .int 0, .int 0, .int 0, .int 0, .ref q11, .ref q12, .ref q13, .ref q14, .int 0, .null, .null, .null, .null, .null, .null, .int 0])) :: [(q1, .inl (X.2.1 0, 3, .inl (fun _ => 0))), (q2, .inl (X.2.1 0, 8, .inl (fun _ => 0))), (q3, .inl (X.2.1 0, 8, .inl (fun _ => 0))), (q4, .inl (X.2.1 0, 8, .inl (fun _ => 0))), (q5, .inl (X.2.1 0, 8, .inl (fun _ => 0))), (q6, .inl (X.2.1 0, 8, .inl (fun _ => 0))), (q7, .inl (X.2.1 0, 8, .inl (fun _ => 0))), (q8, .inl (X.2.1 0, 8, .inl (fun _ => 0))), (q9, .inl (X.2.1 0, 8, .inl (fun _ => 0))), (q10, .inl (X.2.1 0, 250, .inl (fun _ => 0))), (q11, .inl (X.2.1 0, 8, .inl (fun _ => 0))), (q12, .inl (X.2.1 0, 8, .inl (fun _ => 0))), (q13, .inl (X.2.1 1, 320, .inr (.inl (fun _ => 0)))), (q14, .inl (X.2.1 0, 7, .inl (fun _ => 0))), (q15, .inl (X.2.1 0, 75, .inl (fun _ => 0)))]) rfl ?_
  refine l_putF (C := RX9) (T := TX9) (N := 32) (fs' := [.int 0, .ref q1, .int 0, .int 0, .ref q2, .ref q3, .ref q4, .int 0, .ref q5, .ref q6, .ref q7, .ref q8, .ref q9, .int 0, .int 0, .ref q10, .int 0, .int 0, .int 0, .int 0, .ref q11, .ref q12, .ref q13, .ref q14, .int 0, .ref q15, .null, .null, .null, .null, .null, .int 0]) hF dX9_init_122 hin 25 tw_1191 tw_lay9 tyX9 tyX9_ok nmX9 rfl (by decide) rfl rfl (of_decide_eq_true rfl) rfl rfl rfl ?_
  refine l_aload hF dX9_init_125 rfl ?_
  refine l_bipush (v := 75) hF dX9_init_126 rfl ?_
  refine l_newaI (N' := 75) hF dX9_init_128 (by decide) (by rw [hcl]; exact Nat.le_of_ble_eq_true rfl) (by rw [hsl]; exact Nat.le_of_ble_eq_true rfl) (fun q16 => ?_)
  refine L.eq (ws' := (h0, .inr (9, [.int 0, .ref q1, .int 0, .int 0, .ref q2, .ref q3, .ref q4, .int 0, .ref q5, .ref q6, .ref q7, .ref q8, .ref q9, .int 0, .int 0, .ref q10, .int 0, .int 0, .int 0, .int 0, .ref q11, .ref q12, .ref q13, .ref q14, .int 0, .ref q15, .null, .null, .null, .null, .null, .int 0])) :: [(q1, .inl (X.2.1 0, 3, .inl (fun _ => 0))), (q2, .inl (X.2.1 0, 8, .inl (fun _ => 0))), (q3, .inl (X.2.1 0, 8, .inl (fun _ => 0))), (q4, .inl (X.2.1 0, 8, .inl (fun _ => 0))), (q5, .inl (X.2.1 0, 8, .inl (fun _ => 0))), (q6, .inl (X.2.1 0, 8, .inl (fun _ => 0))), (q7, .inl (X.2.1 0, 8, .inl (fun _ => 0))), (q8, .inl (X.2.1 0, 8, .inl (fun _ => 0))), (q9, .inl (X.2.1 0, 8, .inl (fun _ => 0))), (q10, .inl (X.2.1 0, 250, .inl (fun _ => 0))), (q11, .inl (X.2.1 0, 8, .inl (fun _ => 0))), (q12, .inl (X.2.1 0, 8, .inl (fun _ => 0))), (q13, .inl (X.2.1 1, 320, .inr (.inl (fun _ => 0)))), (q14, .inl (X.2.1 0, 7, .inl (fun _ => 0))), (q15, .inl (X.2.1 0, 75, .inl (fun _ => 0))), (q16, .inl (X.2.1 0, 75, .inl (fun _ => 0)))]) rfl ?_
  refine l_putF (C := RX9) (T := TX9) (N := 32) (fs' := [.int 0, .ref q1, .int 0, .int 0, .ref q2, .ref q3, .ref q4, .int 0, .ref q5, .ref q6, .ref q7, .ref q8, .ref q9, .int 0, .int 0, .ref q10, .int 0, .int 0, .int 0, .int 0, .ref q11, .ref q12, .ref q13, .ref q14, .int 0, .ref q15, .ref q16, .null, .null, .null, .null, .int 0]) hF dX9_init_130 hin 26 tw_1192 tw_lay9 tyX9 tyX9_ok nmX9 rfl (by decide) rfl rfl (of_decide_eq_true rfl) rfl rfl rfl ?_
  refine l_aload hF dX9_init_133 rfl ?_
  refine l_bipush (v := 8) hF dX9_init_134 rfl ?_
  refine l_newaI (N' := 8) hF dX9_init_136 (by decide) (by rw [hcl]; exact Nat.le_of_ble_eq_true rfl) (by rw [hsl]; exact Nat.le_of_ble_eq_true rfl) (fun q17 => ?_)
  refine L.eq (ws' := (h0, .inr (9, [.int 0, .ref q1, .int 0, .int 0, .ref q2, .ref q3, .ref q4, .int 0, .ref q5, .ref q6, .ref q7, .ref q8, .ref q9, .int 0, .int 0, .ref q10, .int 0, .int 0, .int 0, .int 0, .ref q11, .ref q12, .ref q13, .ref q14, .int 0, .ref q15, .ref q16, .null, .null, .null, .null, .int 0])) :: [(q1, .inl (X.2.1 0, 3, .inl (fun _ => 0))), (q2, .inl (X.2.1 0, 8, .inl (fun _ => 0))), (q3, .inl (X.2.1 0, 8, .inl (fun _ => 0))), (q4, .inl (X.2.1 0, 8, .inl (fun _ => 0))), (q5, .inl (X.2.1 0, 8, .inl (fun _ => 0))), (q6, .inl (X.2.1 0, 8, .inl (fun _ => 0))), (q7, .inl (X.2.1 0, 8, .inl (fun _ => 0))), (q8, .inl (X.2.1 0, 8, .inl (fun _ => 0))), (q9, .inl (X.2.1 0, 8, .inl (fun _ => 0))), (q10, .inl (X.2.1 0, 250, .inl (fun _ => 0))), (q11, .inl (X.2.1 0, 8, .inl (fun _ => 0))), (q12, .inl (X.2.1 0, 8, .inl (fun _ => 0))), (q13, .inl (X.2.1 1, 320, .inr (.inl (fun _ => 0)))), (q14, .inl (X.2.1 0, 7, .inl (fun _ => 0))), (q15, .inl (X.2.1 0, 75, .inl (fun _ => 0))), (q16, .inl (X.2.1 0, 75, .inl (fun _ => 0))), (q17, .inl (X.2.1 0, 8, .inl (fun _ => 0)))]) rfl ?_
  refine l_putF (C := RX9) (T := TX9) (N := 32) (fs' := [.int 0, .ref q1, .int 0, .int 0, .ref q2, .ref q3, .ref q4, .int 0, .ref q5, .ref q6, .ref q7, .ref q8, .ref q9, .int 0, .int 0, .ref q10, .int 0, .int 0, .int 0, .int 0, .ref q11, .ref q12, .ref q13, .ref q14, .int 0, .ref q15, .ref q16, .ref q17, .null, .null, .null, .int 0]) hF dX9_init_138 hin 27 tw_1193 tw_lay9 tyX9 tyX9_ok nmX9 rfl (by decide) rfl rfl (of_decide_eq_true rfl) rfl rfl rfl ?_
  refine l_aload hF dX9_init_141 rfl ?_
  refine l_bipush (v := 8) hF dX9_init_142 rfl ?_
  refine l_newaI (N' := 8) hF dX9_init_144 (by decide) (by rw [hcl]; exact Nat.le_of_ble_eq_true rfl) (by rw [hsl]; exact Nat.le_of_ble_eq_true rfl) (fun q18 => ?_)
  refine L.eq (ws' := (h0, .inr (9, [.int 0, .ref q1, .int 0, .int 0, .ref q2, .ref q3, .ref q4, .int 0, .ref q5, .ref q6, .ref q7, .ref q8, .ref q9, .int 0, .int 0, .ref q10, .int 0, .int 0, .int 0, .int 0, .ref q11, .ref q12, .ref q13, .ref q14, .int 0, .ref q15, .ref q16, .ref q17, .null, .null, .null, .int 0])) :: [(q1, .inl (X.2.1 0, 3, .inl (fun _ => 0))), (q2, .inl (X.2.1 0, 8, .inl (fun _ => 0))), (q3, .inl (X.2.1 0, 8, .inl (fun _ => 0))), (q4, .inl (X.2.1 0, 8, .inl (fun _ => 0))), (q5, .inl (X.2.1 0, 8, .inl (fun _ => 0))), (q6, .inl (X.2.1 0, 8, .inl (fun _ => 0))), (q7, .inl (X.2.1 0, 8, .inl (fun _ => 0))), (q8, .inl (X.2.1 0, 8, .inl (fun _ => 0))), (q9, .inl (X.2.1 0, 8, .inl (fun _ => 0))), (q10, .inl (X.2.1 0, 250, .inl (fun _ => 0))), (q11, .inl (X.2.1 0, 8, .inl (fun _ => 0))), (q12, .inl (X.2.1 0, 8, .inl (fun _ => 0))), (q13, .inl (X.2.1 1, 320, .inr (.inl (fun _ => 0)))), (q14, .inl (X.2.1 0, 7, .inl (fun _ => 0))), (q15, .inl (X.2.1 0, 75, .inl (fun _ => 0))), (q16, .inl (X.2.1 0, 75, .inl (fun _ => 0))), (q17, .inl (X.2.1 0, 8, .inl (fun _ => 0))), (q18, .inl (X.2.1 0, 8, .inl (fun _ => 0)))]) rfl ?_
  refine l_putF (C := RX9) (T := TX9) (N := 32) (fs' := [.int 0, .ref q1, .int 0, .int 0, .ref q2, .ref q3, .ref q4, .int 0, .ref q5, .ref q6, .ref q7, .ref q8, .ref q9, .int 0, .int 0, .ref q10, .int 0, .int 0, .int 0, .int 0, .ref q11, .ref q12, .ref q13, .ref q14, .int 0, .ref q15, .ref q16, .ref q17, .ref q18, .null, .null, .int 0]) hF dX9_init_146 hin 28 tw_1194 tw_lay9 tyX9 tyX9_ok nmX9 rfl (by decide) rfl rfl (of_decide_eq_true rfl) rfl rfl rfl ?_
  refine l_aload hF dX9_init_149 rfl ?_
  refine l_bipush (v := 8) hF dX9_init_150 rfl ?_
  refine l_newaI (N' := 8) hF dX9_init_152 (by decide) (by rw [hcl]; exact Nat.le_of_ble_eq_true rfl) (by rw [hsl]; exact Nat.le_of_ble_eq_true rfl) (fun q19 => ?_)
  refine L.eq (ws' := (h0, .inr (9, [.int 0, .ref q1, .int 0, .int 0, .ref q2, .ref q3, .ref q4, .int 0, .ref q5, .ref q6, .ref q7, .ref q8, .ref q9, .int 0, .int 0, .ref q10, .int 0, .int 0, .int 0, .int 0, .ref q11, .ref q12, .ref q13, .ref q14, .int 0, .ref q15, .ref q16, .ref q17, .ref q18, .null, .null, .int 0])) :: [(q1, .inl (X.2.1 0, 3, .inl (fun _ => 0))), (q2, .inl (X.2.1 0, 8, .inl (fun _ => 0))), (q3, .inl (X.2.1 0, 8, .inl (fun _ => 0))), (q4, .inl (X.2.1 0, 8, .inl (fun _ => 0))), (q5, .inl (X.2.1 0, 8, .inl (fun _ => 0))), (q6, .inl (X.2.1 0, 8, .inl (fun _ => 0))), (q7, .inl (X.2.1 0, 8, .inl (fun _ => 0))), (q8, .inl (X.2.1 0, 8, .inl (fun _ => 0))), (q9, .inl (X.2.1 0, 8, .inl (fun _ => 0))), (q10, .inl (X.2.1 0, 250, .inl (fun _ => 0))), (q11, .inl (X.2.1 0, 8, .inl (fun _ => 0))), (q12, .inl (X.2.1 0, 8, .inl (fun _ => 0))), (q13, .inl (X.2.1 1, 320, .inr (.inl (fun _ => 0)))), (q14, .inl (X.2.1 0, 7, .inl (fun _ => 0))), (q15, .inl (X.2.1 0, 75, .inl (fun _ => 0))), (q16, .inl (X.2.1 0, 75, .inl (fun _ => 0))), (q17, .inl (X.2.1 0, 8, .inl (fun _ => 0))), (q18, .inl (X.2.1 0, 8, .inl (fun _ => 0))), (q19, .inl (X.2.1 0, 8, .inl (fun _ => 0)))]) rfl ?_
  refine l_putF (C := RX9) (T := TX9) (N := 32) (fs' := [.int 0, .ref q1, .int 0, .int 0, .ref q2, .ref q3, .ref q4, .int 0, .ref q5, .ref q6, .ref q7, .ref q8, .ref q9, .int 0, .int 0, .ref q10, .int 0, .int 0, .int 0, .int 0, .ref q11, .ref q12, .ref q13, .ref q14, .int 0, .ref q15, .ref q16, .ref q17, .ref q18, .ref q19, .null, .int 0]) hF dX9_init_154 hin 29 tw_1195 tw_lay9 tyX9 tyX9_ok nmX9 rfl (by decide) rfl rfl (of_decide_eq_true rfl) rfl rfl rfl ?_
  refine l_aload hF dX9_init_157 rfl ?_
  refine l_bipush (v := 8) hF dX9_init_158 rfl ?_
  refine l_newaI (N' := 8) hF dX9_init_160 (by decide) (by rw [hcl]; exact Nat.le_of_ble_eq_true rfl) (by rw [hsl]; exact Nat.le_of_ble_eq_true rfl) (fun q20 => ?_)
  refine L.eq (ws' := (h0, .inr (9, [.int 0, .ref q1, .int 0, .int 0, .ref q2, .ref q3, .ref q4, .int 0, .ref q5, .ref q6, .ref q7, .ref q8, .ref q9, .int 0, .int 0, .ref q10, .int 0, .int 0, .int 0, .int 0, .ref q11, .ref q12, .ref q13, .ref q14, .int 0, .ref q15, .ref q16, .ref q17, .ref q18, .ref q19, .null, .int 0])) :: [(q1, .inl (X.2.1 0, 3, .inl (fun _ => 0))), (q2, .inl (X.2.1 0, 8, .inl (fun _ => 0))), (q3, .inl (X.2.1 0, 8, .inl (fun _ => 0))), (q4, .inl (X.2.1 0, 8, .inl (fun _ => 0))), (q5, .inl (X.2.1 0, 8, .inl (fun _ => 0))), (q6, .inl (X.2.1 0, 8, .inl (fun _ => 0))), (q7, .inl (X.2.1 0, 8, .inl (fun _ => 0))), (q8, .inl (X.2.1 0, 8, .inl (fun _ => 0))), (q9, .inl (X.2.1 0, 8, .inl (fun _ => 0))), (q10, .inl (X.2.1 0, 250, .inl (fun _ => 0))), (q11, .inl (X.2.1 0, 8, .inl (fun _ => 0))), (q12, .inl (X.2.1 0, 8, .inl (fun _ => 0))), (q13, .inl (X.2.1 1, 320, .inr (.inl (fun _ => 0)))), (q14, .inl (X.2.1 0, 7, .inl (fun _ => 0))), (q15, .inl (X.2.1 0, 75, .inl (fun _ => 0))), (q16, .inl (X.2.1 0, 75, .inl (fun _ => 0))), (q17, .inl (X.2.1 0, 8, .inl (fun _ => 0))), (q18, .inl (X.2.1 0, 8, .inl (fun _ => 0))), (q19, .inl (X.2.1 0, 8, .inl (fun _ => 0))), (q20, .inl (X.2.1 0, 8, .inl (fun _ => 0)))]) rfl ?_
  refine l_putF (C := RX9) (T := TX9) (N := 32) (fs' := [.int 0, .ref q1, .int 0, .int 0, .ref q2, .ref q3, .ref q4, .int 0, .ref q5, .ref q6, .ref q7, .ref q8, .ref q9, .int 0, .int 0, .ref q10, .int 0, .int 0, .int 0, .int 0, .ref q11, .ref q12, .ref q13, .ref q14, .int 0, .ref q15, .ref q16, .ref q17, .ref q18, .ref q19, .ref q20, .int 0]) hF dX9_init_162 hin 30 tw_1196 tw_lay9 tyX9 tyX9_ok nmX9 rfl (by decide) rfl rfl (of_decide_eq_true rfl) rfl rfl rfl ?_
  refine l_aload hF dX9_init_165 rfl ?_
  refine l_bipush (v := 12) hF dX9_init_166 rfl ?_
  refine l_put (C := RX9) (T := TX9) (N := 32) (fs' := [.int 12, .ref q1, .int 0, .int 0, .ref q2, .ref q3, .ref q4, .int 0, .ref q5, .ref q6, .ref q7, .ref q8, .ref q9, .int 0, .int 0, .ref q10, .int 0, .int 0, .int 0, .int 0, .ref q11, .ref q12, .ref q13, .ref q14, .int 0, .ref q15, .ref q16, .ref q17, .ref q18, .ref q19, .ref q20, .int 0]) hF dX9_init_168 0 tw_1166 tw_lay9 tyX9 tyX9_ok nmX9 rfl (by decide) rfl (of_decide_eq_true rfl) rfl rfl rfl ?_
  refine l_aload hF dX9_init_171 rfl ?_
  refine l_get (C := RX9) (T := TX9) (N := 32) hF dX9_init_172 1 tw_1167 tw_lay9 rfl (by decide) rfl ?_
  refine l_iconst (v := 0) hF dX9_init_175 rfl ?_
  refine l_iconst (v := 5) hF dX9_init_176 rfl ?_
  refine l_iast (q0 := 1) (n := 3) (j := 0) (ws' := (h0, .inr (9, [.int 12, .ref q1, .int 0, .int 0, .ref q2, .ref q3, .ref q4, .int 0, .ref q5, .ref q6, .ref q7, .ref q8, .ref q9, .int 0, .int 0, .ref q10, .int 0, .int 0, .int 0, .int 0, .ref q11, .ref q12, .ref q13, .ref q14, .int 0, .ref q15, .ref q16, .ref q17, .ref q18, .ref q19, .ref q20, .int 0])) :: [(q1, .inl (X.2.1 0, 3, .inl (upd (fun _ => 0) 0 5))), (q2, .inl (X.2.1 0, 8, .inl (fun _ => 0))), (q3, .inl (X.2.1 0, 8, .inl (fun _ => 0))), (q4, .inl (X.2.1 0, 8, .inl (fun _ => 0))), (q5, .inl (X.2.1 0, 8, .inl (fun _ => 0))), (q6, .inl (X.2.1 0, 8, .inl (fun _ => 0))), (q7, .inl (X.2.1 0, 8, .inl (fun _ => 0))), (q8, .inl (X.2.1 0, 8, .inl (fun _ => 0))), (q9, .inl (X.2.1 0, 8, .inl (fun _ => 0))), (q10, .inl (X.2.1 0, 250, .inl (fun _ => 0))), (q11, .inl (X.2.1 0, 8, .inl (fun _ => 0))), (q12, .inl (X.2.1 0, 8, .inl (fun _ => 0))), (q13, .inl (X.2.1 1, 320, .inr (.inl (fun _ => 0)))), (q14, .inl (X.2.1 0, 7, .inl (fun _ => 0))), (q15, .inl (X.2.1 0, 75, .inl (fun _ => 0))), (q16, .inl (X.2.1 0, 75, .inl (fun _ => 0))), (q17, .inl (X.2.1 0, 8, .inl (fun _ => 0))), (q18, .inl (X.2.1 0, 8, .inl (fun _ => 0))), (q19, .inl (X.2.1 0, 8, .inl (fun _ => 0))), (q20, .inl (X.2.1 0, 8, .inl (fun _ => 0)))]) hF dX9_init_177 rfl (ix_lit (by decide)) rfl ?_
  refine l_aload hF dX9_init_178 rfl ?_
  refine l_get (C := RX9) (T := TX9) (N := 32) hF dX9_init_179 1 tw_1167 tw_lay9 rfl (by decide) rfl ?_
  refine l_iconst (v := 2) hF dX9_init_182 rfl ?_
  refine l_bipush (v := 40) hF dX9_init_183 rfl ?_
  refine l_iast (q0 := 1) (n := 3) (j := 2) (ws' := (h0, .inr (9, [.int 12, .ref q1, .int 0, .int 0, .ref q2, .ref q3, .ref q4, .int 0, .ref q5, .ref q6, .ref q7, .ref q8, .ref q9, .int 0, .int 0, .ref q10, .int 0, .int 0, .int 0, .int 0, .ref q11, .ref q12, .ref q13, .ref q14, .int 0, .ref q15, .ref q16, .ref q17, .ref q18, .ref q19, .ref q20, .int 0])) :: [(q1, .inl (X.2.1 0, 3, .inl (upd (upd (fun _ => 0) 0 5) 2 40))), (q2, .inl (X.2.1 0, 8, .inl (fun _ => 0))), (q3, .inl (X.2.1 0, 8, .inl (fun _ => 0))), (q4, .inl (X.2.1 0, 8, .inl (fun _ => 0))), (q5, .inl (X.2.1 0, 8, .inl (fun _ => 0))), (q6, .inl (X.2.1 0, 8, .inl (fun _ => 0))), (q7, .inl (X.2.1 0, 8, .inl (fun _ => 0))), (q8, .inl (X.2.1 0, 8, .inl (fun _ => 0))), (q9, .inl (X.2.1 0, 8, .inl (fun _ => 0))), (q10, .inl (X.2.1 0, 250, .inl (fun _ => 0))), (q11, .inl (X.2.1 0, 8, .inl (fun _ => 0))), (q12, .inl (X.2.1 0, 8, .inl (fun _ => 0))), (q13, .inl (X.2.1 1, 320, .inr (.inl (fun _ => 0)))), (q14, .inl (X.2.1 0, 7, .inl (fun _ => 0))), (q15, .inl (X.2.1 0, 75, .inl (fun _ => 0))), (q16, .inl (X.2.1 0, 75, .inl (fun _ => 0))), (q17, .inl (X.2.1 0, 8, .inl (fun _ => 0))), (q18, .inl (X.2.1 0, 8, .inl (fun _ => 0))), (q19, .inl (X.2.1 0, 8, .inl (fun _ => 0))), (q20, .inl (X.2.1 0, 8, .inl (fun _ => 0)))]) hF dX9_init_185 rfl (ix_lit (by decide)) rfl ?_
  refine l_aload hF dX9_init_186 rfl ?_
  refine l_iconst (v := 1) hF dX9_init_187 rfl ?_
  refine l_put (C := RX9) (T := TX9) (N := 32) (fs' := [.int 12, .ref q1, .int 0, .int 0, .ref q2, .ref q3, .ref q4, .int 0, .ref q5, .ref q6, .ref q7, .ref q8, .ref q9, .int 1, .int 0, .ref q10, .int 0, .int 0, .int 0, .int 0, .ref q11, .ref q12, .ref q13, .ref q14, .int 0, .ref q15, .ref q16, .ref q17, .ref q18, .ref q19, .ref q20, .int 0]) hF dX9_init_188 13 tw_1179 tw_lay9 tyX9 tyX9_ok nmX9 rfl (by decide) rfl (of_decide_eq_true rfl) rfl rfl rfl ?_
  refine l_iconst (v := nI 0) hF dX9_init_191 rfl ?_
  refine l_istore hF dX9_init_192 rfl rfl ?_
  have key : ∀ n j : Nat, n + j = 8 → L G X ((h0, .inr (9, [.int 12, .ref q1, .int 0, .int 0, .ref q2, .ref q3, .ref q4, .int 0, .ref q5, .ref q6, .ref q7, .ref q8, .ref q9, .int 1, .int 0, .ref q10, .int 0, .int 0, .int 0, .int 0, .ref q11, .ref q12, .ref q13, .ref q14, .int 0, .ref q15, .ref q16, .ref q17, .ref q18, .ref q19, .ref q20, .int 0])) :: [(q1, .inl (X.2.1 0, 3, .inl (upd (upd (fun _ => 0) 0 5) 2 40))), (q2, .inl (X.2.1 0, 8, .inl (fun _ => 0))), (q3, .inl (X.2.1 0, 8, .inl (fun _ => 0))), (q4, .inl (X.2.1 0, 8, .inl (fun _ => 0))), (q5, .inl (X.2.1 0, 8, .inl (fun _ => 0))), (q6, .inl (X.2.1 0, 8, .inl (fun _ => 0))), (q7, .inl (X.2.1 0, 8, .inl (fun _ => 0))), (q8, .inl (X.2.1 0, 8, .inl (fun _ => 0))), (q9, .inl (X.2.1 0, 8, .inl (fun _ => 0))), (q10, .inl (X.2.1 0, 250, .inl (fun _ => 0))), (q11, .inl (X.2.1 0, 8, .inl (hh j))), (q12, .inl (X.2.1 0, 8, .inl (fun _ => 0))), (q13, .inl (X.2.1 1, 320, .inr (.inl (fun _ => 0)))), (q14, .inl (X.2.1 0, 7, .inl (fun _ => 0))), (q15, .inl (X.2.1 0, 75, .inl (fun _ => 0))), (q16, .inl (X.2.1 0, 75, .inl (fun _ => 0))), (q17, .inl (X.2.1 0, 8, .inl (fun _ => 0))), (q18, .inl (X.2.1 0, 8, .inl (fun _ => 0))), (q19, .inl (X.2.1 0, 8, .inl (fun _ => 0))), (q20, .inl (X.2.1 0, 8, .inl (fun _ => 0)))]) (0 + 1 + 1 + 1 + 1 + 1 + 1 + 1 + 1 + 1 + 1 + 1 + 1 + 1 + 1 + 1 + 1 + 1 + 1 + 1 + 1) (0 + 3 + 8 + 8 + 8 + 8 + 8 + 8 + 8 + 8 + 250 + 8 + 8 + 320 + 7 + 75 + 75 + 8 + 8 + 8 + 8) 193 [some (.ref h0), some (.int (nI j))] [] := by
    intro n
    induction n with
    | zero =>
      intro j hj
      have hj8 : j = 8 := by omega
      subst hj8
      refine l_iload hF dX9_init_193 rfl ?_
      refine l_bipush (v := nI 8) hF dX9_init_194 rfl ?_
      refine l_icmp_ge (tgt := 212) hF dX9_init_196 (by decide) (fun _ => ?_) (fun h => absurd ((le_nI (by decide) (by decide)).mpr (Nat.le_refl 8)) h)
      exact fin _ _ _ _ _ (fun i => [q1, q2, q3, q4, q5, q6, q7, q8, q9, q10, q11, q12, q13, q14, q15, q16, q17, q18, q19, q20].getD i 0) dX9_init_212 (Nat.le_of_ble_eq_true rfl) (Nat.le_of_ble_eq_true rfl) rfl
    | succ n ih =>
      intro j hj
      have hj8 : j < 8 := by omega
      refine l_iload hF dX9_init_193 rfl ?_
      refine l_bipush (v := nI 8) hF dX9_init_194 rfl ?_
      refine l_icmp_ge (tgt := 212) hF dX9_init_196 (by decide) (fun h => absurd ((le_nI (by decide) (by omega)).mp h) (by omega)) (fun _ => ?_)
      refine l_aload hF dX9_init_199 rfl ?_
      refine l_get (C := RX9) (T := TX9) (N := 32) hF dX9_init_200 20 tw_1186 tw_lay9 rfl (by decide) rfl ?_
      refine l_iload hF dX9_init_203 rfl ?_
      refine l_iconst (v := -1) hF dX9_init_204 rfl ?_
      refine l_iast (q0 := 11) (n := 8) (j := j) (ws' := (h0, .inr (9, [.int 12, .ref q1, .int 0, .int 0, .ref q2, .ref q3, .ref q4, .int 0, .ref q5, .ref q6, .ref q7, .ref q8, .ref q9, .int 1, .int 0, .ref q10, .int 0, .int 0, .int 0, .int 0, .ref q11, .ref q12, .ref q13, .ref q14, .int 0, .ref q15, .ref q16, .ref q17, .ref q18, .ref q19, .ref q20, .int 0])) :: [(q1, .inl (X.2.1 0, 3, .inl (upd (upd (fun _ => 0) 0 5) 2 40))), (q2, .inl (X.2.1 0, 8, .inl (fun _ => 0))), (q3, .inl (X.2.1 0, 8, .inl (fun _ => 0))), (q4, .inl (X.2.1 0, 8, .inl (fun _ => 0))), (q5, .inl (X.2.1 0, 8, .inl (fun _ => 0))), (q6, .inl (X.2.1 0, 8, .inl (fun _ => 0))), (q7, .inl (X.2.1 0, 8, .inl (fun _ => 0))), (q8, .inl (X.2.1 0, 8, .inl (fun _ => 0))), (q9, .inl (X.2.1 0, 8, .inl (fun _ => 0))), (q10, .inl (X.2.1 0, 250, .inl (fun _ => 0))), (q11, .inl (X.2.1 0, 8, .inl (upd (hh j) j (-1)))), (q12, .inl (X.2.1 0, 8, .inl (fun _ => 0))), (q13, .inl (X.2.1 1, 320, .inr (.inl (fun _ => 0)))), (q14, .inl (X.2.1 0, 7, .inl (fun _ => 0))), (q15, .inl (X.2.1 0, 75, .inl (fun _ => 0))), (q16, .inl (X.2.1 0, 75, .inl (fun _ => 0))), (q17, .inl (X.2.1 0, 8, .inl (fun _ => 0))), (q18, .inl (X.2.1 0, 8, .inl (fun _ => 0))), (q19, .inl (X.2.1 0, 8, .inl (fun _ => 0))), (q20, .inl (X.2.1 0, 8, .inl (fun _ => 0)))]) hF dX9_init_205 rfl (ix_nI hj8 (by decide)) rfl ?_
      refine l_iinc (v := nI (j + 1)) hF dX9_init_206 rfl (by rw [nI_succ]; rfl) rfl rfl ?_
      refine l_goto (tgt := 193) hF dX9_init_209 (by decide) ?_
      rw [hh_up]
      exact ih (j + 1) (by omega)
  exact L.eq (by rw [hh_0]) (key 8 0 rfl)
end Made
