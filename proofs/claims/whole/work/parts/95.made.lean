/-! ===== the methods that make the objects ===== -/
section Made
def Wf7 (_ : Nat → ClassId) (q : Nat) (_ : Unit) : va_W := [(q, .inr (7, [.int 0, .int 0, .int 0]))]
def Wf2 (_ : Nat → ClassId) (q : Nat) (_ : Unit) : va_W := [(q, .inr (2, [.int 0, .int 0, .int 0, .int (-1), .int (-1)]))]
def Wf3 (cn : Nat → ClassId) (q : Nat) (e : Nat) : va_W := (q, .inr (3, [.ref e, .int 0, .int 0])) :: [(e, .inl (cn 1, 40, .inr (.inl (fun _ => 0))))]
def Wf4 (cn : Nat → ClassId) (q : Nat) (u : Nat × Nat) : va_W := (q, .inr (4, [.ref u.1, .int 0, .int (-1)])) :: Wf3 cn u.1 u.2
abbrev S5 : Type := Nat × Nat × (Nat → Nat) × (Nat → Nat)
def Wf5 (cn : Nat → ClassId) (q : Nat) (u : S5) : va_W := (q, .inr (5, [.ref u.1, .ref u.2.1, .int 0, .int 0, .int 12, .int 5, .int 0, .int 40, .int 0, .int 1])) :: (u.2.1, .inl (cn 3, 8, .inr (.inr (.inr (.inr (rr 8 u.2.2.2)))))) :: ((mkW 8 (fun i => Wf7 cn (u.2.2.1 i) ()) ++ [(u.1, .inl (cn 2, 8, .inr (.inr (.inr (.inr (rr 8 u.2.2.1))))))]) ++ mkW 8 (fun i => Wf2 cn (u.2.2.2 i) ()))
abbrev S0 : Type := Nat × S5 × Nat
def Wf0 (cn : Nat → ClassId) (q : Nat) (u : S0) : va_W := (q, .inr (0, [.ref u.1, .ref u.2.2, .int 0, .int 0, .int 0, .int 0, .int 0])) :: (Wf5 cn u.1 u.2.1 ++ [(u.2.2, .inl (cn 0, 8, .inl (fun _ => 0)))])
abbrev S1 : Type := Nat × S5 × Nat × Nat × (Nat → Nat) × Nat
def Wf1 (cn : Nat → ClassId) (q : Nat) (u : S1) : va_W := (q, .inr (1, [.ref u.1, .ref u.2.2.1, .ref u.2.2.2.1, .ref u.2.2.2.2.2])) :: ((((Wf5 cn u.1 u.2.1 ++ [(u.2.2.1, .inl (cn 0, 8, .inl (fun _ => 0)))]) ++ [(u.2.2.2.1, .inl (cn 5, 9, .inr (.inr (.inr (.inr (rr 9 u.2.2.2.2.1))))))]) ++ (List.range 9).map (fun i => (u.2.2.2.2.1 i, .inl (cn 0, 256, .inl (fun _ => 0))))) ++ [(u.2.2.2.2.2, .inl (cn 0, 8, .inl (fun _ => 0)))])
abbrev S6 : Type := Nat × Nat × S5 × Nat
def Wf6 (cn : Nat → ClassId) (q : Nat) (u : S6) : va_W := (q, .inr (6, [.ref u.1, .int 0, .ref u.2.1, .ref u.2.2.2, .int 0, .int 0, .int 0])) :: (([(u.1, .inl (cn 0, 250, .inl (fun _ => 0)))] ++ Wf5 cn u.2.1 u.2.2.1) ++ [(u.2.2.2, .inl (cn 0, 3, .inl (fun _ => 0)))])
abbrev S8 : Type := (Nat × S5) × (Nat × S5) × (Nat × S0) × (Nat × S1) × (Nat × S6) × Nat × Nat × (Nat → Nat) × (Nat → Nat × Nat)
def Wf8 (cn : Nat → ClassId) (q : Nat) (u : S8) : va_W := (q, .inr (8, [.ref u.1.1, .ref u.2.1.1, .ref u.2.2.1.1, .ref u.2.2.2.1.1, .ref u.2.2.2.2.1.1, .ref u.2.2.2.2.2.1, .ref u.2.2.2.2.2.2.1, .int 0])) :: (u.2.2.2.2.2.1, .inl (cn 4, 8, .inr (.inr (.inr (.inr (rr 8 u.2.2.2.2.2.2.2.1)))))) :: ((((((Wf5 cn u.1.1 u.1.2 ++ Wf5 cn u.2.1.1 u.2.1.2) ++ Wf0 cn u.2.2.1.1 u.2.2.1.2) ++ Wf1 cn u.2.2.2.1.1 u.2.2.2.1.2) ++ Wf6 cn u.2.2.2.2.1.1 u.2.2.2.2.1.2) ++ [(u.2.2.2.2.2.2.1, .inl (cn 0, 7, .inl (fun _ => 0)))]) ++ mkW 8 (fun i => Wf4 cn (u.2.2.2.2.2.2.2.1 i) (u.2.2.2.2.2.2.2.2 i)))
def wy : Nat → Int32 := upd (upd (fun _ => 0) 0 5) 2 40
def hh (j : Nat) : Nat → Int32 := fun i => if i < j then -1 else 0
theorem hh_0 : hh 0 = fun _ => 0 := funext fun i => if_neg (Nat.not_lt_zero i)
theorem hh_up (j : Nat) : upd (hh j) j (-1) = hh (j + 1) := by
  funext i
  unfold upd hh
  by_cases h : i = j
  · rw [if_pos h, if_pos (by omega)]
  · by_cases h2 : i < j
    · rw [if_neg h, if_pos h2, if_pos (by omega)]
    · rw [if_neg h, if_neg h2, if_neg (by omega)]
def Wf9 (cn : Nat → ClassId) (q : Nat) (a : Nat → Nat) : va_W := (q, .inr (9, [.int 12, .ref (a 0), .int 0, .int 0, .ref (a 1), .ref (a 2), .ref (a 3), .int 0, .ref (a 4), .ref (a 5), .ref (a 6), .ref (a 7), .ref (a 8), .int 1, .int 0, .ref (a 9), .int 0, .int 0, .int 0, .int 0, .ref (a 10), .ref (a 11), .ref (a 12), .ref (a 13), .int 0, .ref (a 14), .ref (a 15), .ref (a 16), .ref (a 17), .ref (a 18), .ref (a 19), .int 0])) :: [(a 0, .inl (cn 0, 3, .inl wy)), (a 1, .inl (cn 0, 8, .inl (fun _ => 0))), (a 2, .inl (cn 0, 8, .inl (fun _ => 0))), (a 3, .inl (cn 0, 8, .inl (fun _ => 0))), (a 4, .inl (cn 0, 8, .inl (fun _ => 0))), (a 5, .inl (cn 0, 8, .inl (fun _ => 0))), (a 6, .inl (cn 0, 8, .inl (fun _ => 0))), (a 7, .inl (cn 0, 8, .inl (fun _ => 0))), (a 8, .inl (cn 0, 8, .inl (fun _ => 0))), (a 9, .inl (cn 0, 250, .inl (fun _ => 0))), (a 10, .inl (cn 0, 8, .inl (hh 8))), (a 11, .inl (cn 0, 8, .inl (fun _ => 0))), (a 12, .inl (cn 1, 320, .inr (.inl (fun _ => 0)))), (a 13, .inl (cn 0, 7, .inl (fun _ => 0))), (a 14, .inl (cn 0, 75, .inl (fun _ => 0))), (a 15, .inl (cn 0, 75, .inl (fun _ => 0))), (a 16, .inl (cn 0, 8, .inl (fun _ => 0))), (a 17, .inl (cn 0, 8, .inl (fun _ => 0))), (a 18, .inl (cn 0, 8, .inl (fun _ => 0))), (a 19, .inl (cn 0, 8, .inl (fun _ => 0)))]
set_option maxHeartbeats 4000000 in
theorem c_X7_init : CI (S := Unit) 1 yX7_init cX7_init 1 0 0 7 [.int 0, .int 0, .int 0] Wf7 := by
  refine CI.of [] (Or.inl rfl) (by decide) (by decide +kernel) rfl (fun G X h0 hF hN hin hcl hsl fin => ?_)
  refine l_aload hF dX7_init_0 rfl ?_
  refine l_obj hF dX7_init_1 tw_112 (by decide) ?_
  exact fin _ _ _ _ _ () dX7_init_4 (Nat.le_of_ble_eq_true rfl) (Nat.le_of_ble_eq_true rfl) rfl
set_option maxHeartbeats 4000000 in
theorem c_X2_init : CI (S := Unit) 1 yX2_init cX2_init 1 0 0 2 [.int 0, .int 0, .int 0, .int 0, .int 0] Wf2 := by
  refine CI.of [] (Or.inl rfl) (by decide) (by decide +kernel) rfl (fun G X h0 hF hN hin hcl hsl fin => ?_)
  refine l_aload hF dX2_init_0 rfl ?_
  refine l_obj hF dX2_init_1 tw_133 (by decide) ?_
  refine l_aload hF dX2_init_4 rfl ?_
  refine l_iconst (v := (-1)) hF dX2_init_5 rfl ?_
  refine l_put (C := RX2) (T := TX2) (N := 5) (fs' := [.int 0, .int 0, .int 0, .int (-1), .int 0]) hF dX2_init_6 3 tw_145 tw_lay2 tyX2 tyX2_ok nmX2 rfl (by decide) rfl (of_decide_eq_true rfl) rfl rfl rfl ?_
  refine l_aload hF dX2_init_9 rfl ?_
  refine l_iconst (v := (-1)) hF dX2_init_10 rfl ?_
  refine l_put (C := RX2) (T := TX2) (N := 5) (fs' := [.int 0, .int 0, .int 0, .int (-1), .int (-1)]) hF dX2_init_11 4 tw_148 tw_lay2 tyX2 tyX2_ok nmX2 rfl (by decide) rfl (of_decide_eq_true rfl) rfl rfl rfl ?_
  exact fin _ _ _ _ _ () dX2_init_14 (Nat.le_of_ble_eq_true rfl) (Nat.le_of_ble_eq_true rfl) rfl
set_option maxHeartbeats 4000000 in
theorem c_X3_init : CI (S := Nat) 1 yX3_init cX3_init 1 1 40 3 [.null, .int 0, .int 0] Wf3 := by
  refine CI.of [] (Or.inl rfl) (by decide) (by decide +kernel) rfl (fun G X h0 hF hN hin hcl hsl fin => ?_)
  refine l_aload hF dX3_init_0 rfl ?_
  refine l_obj hF dX3_init_1 tw_322 (by decide) ?_
  refine l_aload hF dX3_init_4 rfl ?_
  refine l_bipush (v := 40) hF dX3_init_5 rfl ?_
  refine l_newaJ (N' := 40) hF dX3_init_7 (by decide) (by rw [hcl]; exact Nat.le_of_ble_eq_true rfl) (by rw [hsl]; exact Nat.le_of_ble_eq_true rfl) (fun q1 => ?_)
  refine L.eq (ws' := (h0, .inr (3, [.null, .int 0, .int 0])) :: [(q1, .inl (X.2.1 1, 40, .inr (.inl (fun _ => 0))))]) rfl ?_
  refine l_putF (C := RX3) (T := TX3) (N := 3) (fs' := [.ref q1, .int 0, .int 0]) hF dX3_init_9 hin 0 tw_323 tw_lay3 tyX3 tyX3_ok nmX3 rfl (by decide) rfl rfl (of_decide_eq_true rfl) rfl rfl rfl ?_
  exact fin _ _ _ _ _ q1 dX3_init_12 (Nat.le_of_ble_eq_true rfl) (Nat.le_of_ble_eq_true rfl) rfl
set_option maxHeartbeats 4000000 in
theorem c_X4_init : CI (S := Nat × Nat) 2 yX4_init cX4_init 1 2 43 4 [.null, .int 0, .int 0] Wf4 := by
  refine CI.of [] (Or.inl rfl) (by decide) (by decide +kernel) rfl (fun G X h0 hF hN hin hcl hsl fin => ?_)
  refine l_aload hF dX4_init_0 rfl ?_
  refine l_obj hF dX4_init_1 tw_316 (by decide) ?_
  refine l_aload hF dX4_init_4 rfl ?_
  refine l_make (C := RX3) (T := TX3) (N := 3) hF dX4_init_5 dX4_init_8 dX4_init_9 (c_X3_init) (Or.inr (List.mem_of_getElem? (i := 6) rfl)) tw_317 tw_318 tw_81 tw_320 tw_321 tw_lay3 tyX3 tyX3_ok rfl (fun j hj => by rcases (show j = 0 ∨ j = 1 ∨ j = 2 by omega) with rfl | rfl | rfl <;> rfl) ⟨rfl, rfl, by decide, by decide, rfl⟩ (by decide) (by decide) (by rw [hcl]; exact Nat.le_of_ble_eq_true rfl) (by rw [hsl]; exact Nat.le_of_ble_eq_true rfl) (Nat.le_of_ble_eq_true rfl) (fun q1 u1 => ?_)
  refine L.eq (ws' := (h0, .inr (4, [.null, .int 0, .int 0])) :: Wf3 X.2.1 q1 u1) rfl ?_
  refine l_putF (C := RX4) (T := TX4) (N := 3) (fs' := [.ref q1, .int 0, .int 0]) hF dX4_init_12 hin 0 tw_342 tw_lay4 tyX4 tyX4_ok nmX4 rfl (by decide) rfl rfl (of_decide_eq_true rfl) rfl rfl rfl ?_
  refine l_aload hF dX4_init_15 rfl ?_
  refine l_iconst (v := (-1)) hF dX4_init_16 rfl ?_
  refine l_put (C := RX4) (T := TX4) (N := 3) (fs' := [.ref q1, .int 0, .int (-1)]) hF dX4_init_17 2 tw_346 tw_lay4 tyX4 tyX4_ok nmX4 rfl (by decide) rfl (of_decide_eq_true rfl) rfl rfl rfl ?_
  exact fin _ _ _ _ _ (q1, u1) dX4_init_20 (Nat.le_of_ble_eq_true rfl) (Nat.le_of_ble_eq_true rfl) rfl
set_option maxHeartbeats 200000 in
theorem c_X5_init : CI (S := S5) 2 yX5_init cX5_init 2 18 80 5 [.null, .null, .int 0, .int 0, .int 0, .int 0, .int 0, .int 0, .int 0, .int 0] Wf5 := by
  refine CI.of [none] (Or.inr rfl) (by decide) (by decide +kernel) rfl (fun G X h0 hF hN hin hcl hsl fin => ?_)
  refine l_aload hF dX5_init_0 rfl ?_
  refine l_obj hF dX5_init_1 tw_103 (by decide) ?_
  refine l_aload hF dX5_init_4 rfl ?_
  refine l_bipush (v := 8) hF dX5_init_5 rfl ?_
  refine l_newq (C := RX7) (t := 2) (N' := 8) hF dX5_init_7 tw_104 hF.2.2.2.2.2.1.2.2.1 rfl (by decide) (by rw [hcl]; exact Nat.le_of_ble_eq_true rfl) (by rw [hsl]; exact Nat.le_of_ble_eq_true rfl) (fun q1 => ?_)
  refine L.eq (ws' := (h0, .inr (5, [.null, .null, .int 0, .int 0, .int 0, .int 0, .int 0, .int 0, .int 0, .int 0])) :: [(q1, .inl (X.2.1 2, 8, .inr (.inr (.inr (.inr (fun _ => none))))))]) rfl ?_
  refine l_putF (C := RX5) (T := TX5) (N := 10) (fs' := [.ref q1, .null, .int 0, .int 0, .int 0, .int 0, .int 0, .int 0, .int 0, .int 0]) hF dX5_init_10 hin 0 tw_162 tw_lay5 tyX5 tyX5_ok nmX5 rfl (by decide) rfl rfl (of_decide_eq_true rfl) rfl rfl rfl ?_
  refine l_aload hF dX5_init_13 rfl ?_
  refine l_bipush (v := 8) hF dX5_init_14 rfl ?_
  refine l_newq (C := RX2) (t := 3) (N' := 8) hF dX5_init_16 tw_106 hF.2.2.2.2.2.1.2.2.2.1 rfl (by decide) (by rw [hcl]; exact Nat.le_of_ble_eq_true rfl) (by rw [hsl]; exact Nat.le_of_ble_eq_true rfl) (fun q2 => ?_)
  refine L.eq (ws' := (h0, .inr (5, [.ref q1, .null, .int 0, .int 0, .int 0, .int 0, .int 0, .int 0, .int 0, .int 0])) :: [(q1, .inl (X.2.1 2, 8, .inr (.inr (.inr (.inr (fun _ => none)))))), (q2, .inl (X.2.1 3, 8, .inr (.inr (.inr (.inr (fun _ => none))))))]) rfl ?_
  refine l_putF (C := RX5) (T := TX5) (N := 10) (fs' := [.ref q1, .ref q2, .int 0, .int 0, .int 0, .int 0, .int 0, .int 0, .int 0, .int 0]) hF dX5_init_19 hin 1 tw_164 tw_lay5 tyX5 tyX5_ok nmX5 rfl (by decide) rfl rfl (of_decide_eq_true rfl) rfl rfl rfl ?_
  refine l_aload hF dX5_init_22 rfl ?_
  refine l_bipush (v := 12) hF dX5_init_23 rfl ?_
  refine l_put (C := RX5) (T := TX5) (N := 10) (fs' := [.ref q1, .ref q2, .int 0, .int 0, .int 12, .int 0, .int 0, .int 0, .int 0, .int 0]) hF dX5_init_25 4 tw_177 tw_lay5 tyX5 tyX5_ok nmX5 rfl (by decide) rfl (of_decide_eq_true rfl) rfl rfl rfl ?_
  refine l_aload hF dX5_init_28 rfl ?_
  refine l_iconst (v := 5) hF dX5_init_29 rfl ?_
  refine l_put (C := RX5) (T := TX5) (N := 10) (fs' := [.ref q1, .ref q2, .int 0, .int 0, .int 12, .int 5, .int 0, .int 0, .int 0, .int 0]) hF dX5_init_30 5 tw_181 tw_lay5 tyX5 tyX5_ok nmX5 rfl (by decide) rfl (of_decide_eq_true rfl) rfl rfl rfl ?_
  refine l_aload hF dX5_init_33 rfl ?_
  refine l_bipush (v := 40) hF dX5_init_34 rfl ?_
  refine l_put (C := RX5) (T := TX5) (N := 10) (fs' := [.ref q1, .ref q2, .int 0, .int 0, .int 12, .int 5, .int 0, .int 40, .int 0, .int 0]) hF dX5_init_36 7 tw_188 tw_lay5 tyX5 tyX5_ok nmX5 rfl (by decide) rfl (of_decide_eq_true rfl) rfl rfl rfl ?_
  refine l_aload hF dX5_init_39 rfl ?_
  refine l_iconst (v := 1) hF dX5_init_40 rfl ?_
  refine l_put (C := RX5) (T := TX5) (N := 10) (fs' := [.ref q1, .ref q2, .int 0, .int 0, .int 12, .int 5, .int 0, .int 40, .int 0, .int 1]) hF dX5_init_41 9 tw_193 tw_lay5 tyX5 tyX5_ok nmX5 rfl (by decide) rfl (of_decide_eq_true rfl) rfl rfl rfl ?_
  refine l_iconst (v := nI 0) hF dX5_init_44 rfl ?_
  refine l_istore hF dX5_init_45 rfl rfl ?_
  refine l_fill (C := RX7) (T := TX7) (N := 3) (CO := RX5) (TO := TX5) (NO := 10) (t := 2) (b := 46) (e := 71) () hF dX5_init_46 dX5_init_47 dX5_init_49 (by decide) dX5_init_52 dX5_init_53 dX5_init_56 dX5_init_57 dX5_init_60 dX5_init_61 dX5_init_64 dX5_init_65 dX5_init_68 (by decide) c_X7_init (Or.inr (List.mem_of_getElem? (i := 0) rfl)) tw_104 tw_108 tw_75 tw_110 tw_111 tw_lay7 tyX7 tyX7_ok rfl (fun j hj => by rcases (show j = 0 ∨ j = 1 ∨ j = 2 by omega) with rfl | rfl | rfl <;> rfl) ⟨rfl, rfl, by decide, by decide, rfl⟩ (by decide) (by decide) 0 tw_162 tw_lay5 rfl (by decide) rfl rfl (fun q u => ⟨_, rfl⟩) (by rw [hcl]; exact Nat.le_of_ble_eq_true rfl) (by rw [hsl]; exact Nat.le_of_ble_eq_true rfl) (fun r1 a1 => ?_)
  refine l_iconst (v := nI 0) hF dX5_init_71 rfl ?_
  refine l_istore hF dX5_init_72 rfl rfl ?_
  refine L.eq (ws' := ([(h0, .inr (5, [.ref q1, .ref q2, .int 0, .int 0, .int 12, .int 5, .int 0, .int 40, .int 0, .int 1]))] ++ [(q1, .inl (X.2.1 2, 8, .inr (.inr (.inr (.inr (rr 8 r1))))))]) ++ ((q2, .inl (X.2.1 3, 8, .inr (.inr (.inr (.inr (fun _ => none)))))) :: mkW 8 (fun i => Wf7 X.2.1 (r1 i) (a1 i)))) rfl ?_
  refine L.swap ?_
  refine L.eq (ws' := (h0, .inr (5, [.ref q1, .ref q2, .int 0, .int 0, .int 12, .int 5, .int 0, .int 40, .int 0, .int 1])) :: (q2, .inl (X.2.1 3, 8, .inr (.inr (.inr (.inr (fun _ => none)))))) :: (mkW 8 (fun i => Wf7 X.2.1 (r1 i) (a1 i)) ++ [(q1, .inl (X.2.1 2, 8, .inr (.inr (.inr (.inr (rr 8 r1))))))])) rfl ?_
  refine l_fill (C := RX2) (T := TX2) (N := 5) (CO := RX5) (TO := TX5) (NO := 10) (t := 3) (b := 73) (e := 98) () hF dX5_init_73 dX5_init_74 dX5_init_76 (by decide) dX5_init_79 dX5_init_80 dX5_init_83 dX5_init_84 dX5_init_87 dX5_init_88 dX5_init_91 dX5_init_92 dX5_init_95 (by decide) c_X2_init (Or.inr (List.mem_of_getElem? (i := 1) rfl)) tw_106 tw_129 tw_76 tw_131 tw_132 tw_lay2 tyX2 tyX2_ok rfl (fun j hj => by rcases (show j = 0 ∨ j = 1 ∨ j = 2 ∨ j = 3 ∨ j = 4 by omega) with rfl | rfl | rfl | rfl | rfl <;> rfl) ⟨rfl, rfl, by decide, by decide, rfl⟩ (by decide) (by decide) 1 tw_164 tw_lay5 rfl (by decide) rfl rfl (fun q u => ⟨_, rfl⟩) (by rw [hcl]; exact Nat.le_of_ble_eq_true rfl) (by rw [hsl]; exact Nat.le_of_ble_eq_true rfl) (fun r2 a2 => ?_)
  exact fin _ _ _ _ _ (q1, q2, r1, r2) dX5_init_98 (Nat.le_of_ble_eq_true rfl) (Nat.le_of_ble_eq_true rfl) rfl
end Made
