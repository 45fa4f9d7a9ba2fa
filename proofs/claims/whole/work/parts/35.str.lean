/-! ===== String constants: rows, and the platform's methods that the tape calls ===== -/
section Strs
variable {G : GT} {K : KT} {M : MT} {own : String} {cc : ByteArray} {d pc : Nat} {ls : List (Option Value)} {st : List Value}
theorem js_value {i index : Nat} (hi : i < 7) (hG : GF G K own cc d) (hd : decode cc pc = .ok (.getfield index, 3)) (w1 : Cond.fieldLink own index "java/lang/String" "value" "[B" ∈ TW) (kk : J G K M (pc + 3) ls (.ref (K.2.2.2 i) :: st)) : J G K M pc ls (rf K (210 + i) :: st) :=
  fun hn H locs lc hP hS hl => vk_getf hG.1 hG.2.1 (hG.2.2.2.2.2.2.2.1.2.2.2.1.1 i hi).2.2.1 hS hG.2.2.2.1 (hG.2.2.2.2.1 _ w1) va_hsame hd (kk hn H locs lc hP hS hl)
theorem js_coder {i index : Nat} (hi : i < 7) (hG : GF G K own cc d) (hd : decode cc pc = .ok (.getfield index, 3)) (w1 : Cond.fieldLink own index "java/lang/String" "coder" "B" ∈ TW) (kk : J G K M (pc + 3) ls (.int 0 :: st)) : J G K M pc ls (rf K (210 + i) :: st) :=
  fun hn H locs lc hP hS hl => vk_getf hG.1 hG.2.1 (hG.2.2.2.2.2.2.2.1.2.2.2.1.1 i hi).2.1 hS hG.2.2.2.1 (hG.2.2.2.2.1 _ w1) va_hsame hd (kk hn H locs lc hP hS hl)
theorem kTx_len : ∀ i, i < 7 → (kText.map (fun q => q.2.length)).getD i 0 = (kTx i).length := by decide
theorem kTx_byt : ∀ i, i < 7 → (kText.map (·.2)).getD i [] = kTx i := by decide
theorem js_len {i : Nat} (hi : i < 7) (hG : GF G K own cc d) (hd : decode cc pc = .ok (.arraylength, 1)) (kk : J G K M (pc + 1) ls (.int (nI (kTx i).length) :: st)) : J G K M pc ls (.ref (K.2.2.2 i) :: st) :=
  fun hn H locs lc hP hS hl => va_tlen hG.1 hG.2.1 (hG.2.2.2.2.2.2.2.1.2.2.2.1.1 i hi).2.2.2 hS (v := nI (kTx i).length) (by rw [kTx_len i hi]; rfl) hd (kk hn H locs lc hP hS hl)
theorem js_bal {i j : Nat} {x : Int32} (hi : i < 7) (hG : GF G K own cc d) (hd : decode cc pc = .ok (.baload, 1)) (hx : ix x (kTx i).length j) (kk : J G K M (pc + 1) ls (.int ((kTx i).getD j 0) :: st)) : J G K M pc ls (.int x :: .ref (K.2.2.2 i) :: st) :=
  fun hn H locs lc hP hS hl => va_tb hG.1 hG.2.1 (hG.2.2.2.2.2.2.2.1.2.2.2.1.1 i hi).2.2.2 hS (by rw [kTx_len i hi]; exact hx.1) (v := .int ((kTx i).getD j 0)) (by rw [hx.2.1, kTx_byt i hi]) hd (kk hn H locs lc hP hS hl)
theorem js_compact {index : Nat} (hG : GF G K own cc d) (hd : decode cc pc = .ok (.getstatic index, 3)) (w1 : Cond.fieldLink own index RJ0 "COMPACT_STRINGS" "Z" ∈ TW) (kk : J G K M (pc + 3) ls (.int 1 :: st)) : J G K M pc ls st :=
  fun hn H locs lc hP hS hl => va_gets hG.1 hG.2.1 hG.2.2.2.2.2.2.2.1.2.2.2.2.1 hS hG.2.2.2.1 (hG.2.2.2.2.1 _ w1) va_hsame hd (kk hn H locs lc hP hS hl)
theorem js_fmt {index : Nat} (hG : GF G K own cc d) (hd : decode cc pc = .ok (.getstatic index, 3)) (w1 : Cond.fieldLink own index RJ3 "SIOOBE_FORMATTER" "Ljava/util/function/BiFunction;" ∈ TW) (k0 : J G K M (pc + 3) ls (.null :: st)) (kk : ∀ t, J G K M (pc + 3) ls (.ref t :: st)) : J G K M pc ls st :=
  fun hn H locs lc hP hS hl => hG.2.2.2.2.2.2.2.1.2.2.2.2.2.elim
    (fun z => va_gets hG.1 hG.2.1 z hS hG.2.2.2.1 (hG.2.2.2.2.1 _ w1) va_hsame hd (k0 hn H locs lc hP hS hl))
    (fun z => z.elim fun t z => va_gets hG.1 hG.2.1 z hS hG.2.2.2.1 (hG.2.2.2.2.1 _ w1) va_hsame hd (kk t hn H locs lc hP hS hl))
theorem J_callVS {y : MethodName} {cy : ByteArray} {nY : Nat} {ret : Option FieldType} {r : Option Value} {M' : MT} {d' i index : Nat} {As : List Value} (hi : i < 7) (hG : GF G K own cc d) (hd : decode cc pc = .ok (.invokevirtual index, 3)) (hM : CM K d' y cy nY ret (rf K (210 + i) :: As) M r M') (hdd : d' + 1 ≤ d) (hnY : nY ≤ 20) (w1 : Cond.methodLink own index y ∈ TW) (w2 : Cond.instanceMethod y ∈ TW) (w3 : Cond.selects RJ0 y y ∈ TW) (w4 : Cond.initialized RJ0 ∈ TW) (w5 : Cond.code y cy nY ret ∈ TW)
    (hy : y.cls = RJ0 ∧ y.cls ≠ "java/lang/invoke/MethodHandle" ∧ y.cls ≠ "java/lang/invoke/VarHandle" ∧ (parseMethodDescriptor y.desc).map (fun d => d.parameters.length) = some As.length) (hw : (st.map fun v => v.category).sum ≤ 8) (k : J G K M' (pc + 3) ls (r.toList ++ st)) : J G K M pc ls (As.reverse ++ rf K (210 + i) :: st) := by
  intro hn H locs lc hP hS hl
  have hT : GoodIn TW (wsV own index RJ0 y (Cond.code y cy nY ret :: TW)) := by
    intro w hw
    simp only [wsV, List.mem_append, List.mem_cons, List.not_mem_nil, or_false] at hw
    rcases hw with (rfl | rfl | rfl | rfl) | (rfl | hw)
    · exact TWg w1
    · exact TWg w2
    · exact TWg w3
    · exact TWg w4
    · exact TWg w5
    · exact TWg hw
  refine J_ran (av := rf K (210 + i) :: As) hn hS hl (va_runV (y := y) (bytes := cy) (maxL := nY) (ret := ret) (As := As) (rest := st) ⟨hG.1, hG.2.1, hG.2.2.1, hG.2.2.2.1, hG.2.2.2.2.1⟩ (hM (gL G)) (cwV As.length hG.2.2.2.2.1 hT rfl rfl rfl hy (J_rooms hG hdd hnY)) ⟨pcs_blind, vk_recv (adK := fun i => ad K (210 + i)) (i := i) hG.2.2.2.2.2.2.2.1.2.2.2.1 hi hS, J_pre (av := rf K (210 + i) :: As) hG hP hS⟩ rfl rfl hl.1 rfl (lv_room hw) hd ⟨hG.2.2.2.2.2.2.2.2.2.1, hG.2.2.2.2.2.2.2.2.2.2⟩) k
end Strs
theorem CM.ofT {K : KT} {d : Nat} {y : MethodName} {cc : ByteArray} {nL : Nat} {av : List Value} {M : MT} {v : Int32} {M' : MT} {ty : FieldType} (hnar : narrow ty (.int v) = .int v) (hy : plainName y.cls = true) (ls : List (Option Value)) (hent : asc 0 ls = lv_args 0 av) (hav : (lg_sl av).length ≤ nL) (hls : ls.length ≤ nL)
    (body : ∀ G : GT, GF G K y.cls cc d → gN G = nL → (∀ (pc : Nat) (ls : List (Option Value)) (w : Int32) (M₁ : MT), decode cc pc = .ok (.ireturn, 1) → w = v → M₁ = M' → J G K M₁ pc ls [.int w]) → J G K M 0 ls []) : CM K d y cc nL (some ty) av M (some (.int v)) M' := by
  refine CM.of0 hy ls hent hav hls (fun G hG hN hr hlk h0 h1 hQ => body G hG hN (fun pc ls' w M₁ hd hw hM => ?_))
  subst hw hM
  intro hn H locs lc hP hS hl
  rw [hQ, h0, h1]
  exact W.zret hG.1 hG.2.1 hr hnar (fun t ht hW => ⟨⟨rfl, by rw [ht]; exact hP⟩, hS.F ht⟩) hS.2.2 hd hlk
theorem c_J0_coder {K : KT} {M : MT} {i : Nat} (hi : i < 7) : CM K 1 yJ0_coder_7d493 cJ0_coder_7d493 1 (some .byte) [rf K (210 + i)] M (some (.int 0)) M := by
  refine CM.ofT (by decide) (by decide) [some (rf K (210 + i))] rfl (Nat.le_of_ble_eq_true rfl) (Nat.le_of_ble_eq_true rfl) (fun G hG _ hret => ?_)
  refine js_compact (pc := 0) hG dJ0_coder_7d493_0 tw_575 ?_
  refine r_if_eq (pc := 3) (tgt := 13) hG dJ0_coder_7d493_3 (by decide) (fun c => absurd c (by decide)) (fun c => ?_)
  refine r_aload_n (pc := 6) hG dJ0_coder_7d493_6 rfl ?_
  refine js_coder (pc := 7) hi hG dJ0_coder_7d493_7 tw_1713 ?_
  refine r_goto (pc := 10) (tgt := 14) hG dJ0_coder_7d493_10 (by decide) ?_
  exact hret _ _ _ _ dJ0_coder_7d493_14 rfl rfl
theorem kTx_shr : ∀ i, i < 7 → nI (kTx i).length >>> ((0 : Int32) &&& 31) = nI (kTx i).length := by decide +kernel
theorem hy_J0_coder : yJ0_coder_7d493.cls = RJ0 ∧ yJ0_coder_7d493.cls ≠ "java/lang/invoke/MethodHandle" ∧ yJ0_coder_7d493.cls ≠ "java/lang/invoke/VarHandle" ∧ (parseMethodDescriptor yJ0_coder_7d493.desc).map (fun d => d.parameters.length) = some 0 := by decide +kernel
theorem hy_J0_length : yJ0_length_8abf5.cls = RJ0 ∧ yJ0_length_8abf5.cls ≠ "java/lang/invoke/MethodHandle" ∧ yJ0_length_8abf5.cls ≠ "java/lang/invoke/VarHandle" ∧ (parseMethodDescriptor yJ0_length_8abf5.desc).map (fun d => d.parameters.length) = some 0 := by decide +kernel
theorem hy_J0_isLatin1 : yJ0_isLatin1_aae02.cls = RJ0 ∧ yJ0_isLatin1_aae02.cls ≠ "java/lang/invoke/MethodHandle" ∧ yJ0_isLatin1_aae02.cls ≠ "java/lang/invoke/VarHandle" ∧ (parseMethodDescriptor yJ0_isLatin1_aae02.desc).map (fun d => d.parameters.length) = some 0 := by decide +kernel
theorem hy_J0_charAt : yJ0_charAt_5068e.cls = RJ0 ∧ yJ0_charAt_5068e.cls ≠ "java/lang/invoke/MethodHandle" ∧ yJ0_charAt_5068e.cls ≠ "java/lang/invoke/VarHandle" ∧ (parseMethodDescriptor yJ0_charAt_5068e.desc).map (fun d => d.parameters.length) = some 1 := by decide +kernel
theorem c_J0_length {K : KT} {M : MT} {i : Nat} (hi : i < 7) : CM K 2 yJ0_length_8abf5 cJ0_length_8abf5 1 (some .int) [rf K (210 + i)] M (some (.int (nI (kTx i).length))) M := by
  refine CM.ofI (by decide) [some (rf K (210 + i))] rfl (Nat.le_of_ble_eq_true rfl) (Nat.le_of_ble_eq_true rfl) (fun G hG _ hret => ?_)
  refine r_aload_n (pc := 0) hG dJ0_length_8abf5_0 rfl ?_
  refine js_value (pc := 1) hi hG dJ0_length_8abf5_1 tw_1712 ?_
  refine js_len (pc := 4) hi hG dJ0_length_8abf5_4 ?_
  refine r_aload_n (pc := 5) hG dJ0_length_8abf5_5 rfl ?_
  refine J_callVS (As := []) (pc := 6) hi hG dJ0_length_8abf5_6 (c_J0_coder hi) (by decide) (by decide) tw_571 tw_572 tw_573 tw_84 tw_574 hy_J0_coder (Nat.le_of_ble_eq_true rfl) ?_
  refine r_ishr (x := nI (kTx i).length) (y := 0) (pc := 9) hG dJ0_length_8abf5_9 ?_
  exact hret _ _ _ _ dJ0_length_8abf5_10 (kTx_shr i hi) rfl
theorem c_J0_isLatin1 {K : KT} {M : MT} {i : Nat} (hi : i < 7) : CM K 1 yJ0_isLatin1_aae02 cJ0_isLatin1_aae02 1 (some .boolean) [rf K (210 + i)] M (some (.int 1)) M := by
  refine CM.ofT (by decide) (by decide) [some (rf K (210 + i))] rfl (Nat.le_of_ble_eq_true rfl) (Nat.le_of_ble_eq_true rfl) (fun G hG _ hret => ?_)
  refine js_compact (pc := 0) hG dJ0_isLatin1_aae02_0 tw_575 ?_
  refine r_if_eq (pc := 3) (tgt := 17) hG dJ0_isLatin1_aae02_3 (by decide) (fun c => absurd c (by decide)) (fun c => ?_)
  refine r_aload_n (pc := 6) hG dJ0_isLatin1_aae02_6 rfl ?_
  refine js_coder (pc := 7) hi hG dJ0_isLatin1_aae02_7 tw_1713 ?_
  refine r_if_ne (pc := 10) (tgt := 17) hG dJ0_isLatin1_aae02_10 (by decide) (fun c => absurd rfl c) (fun c => ?_)
  refine r_iconst (pc := 13) hG dJ0_isLatin1_aae02_13 ic_1 ?_
  refine r_goto (pc := 14) (tgt := 18) hG dJ0_isLatin1_aae02_14 (by decide) ?_
  exact hret _ _ _ _ dJ0_isLatin1_aae02_18 rfl rfl
theorem c_J3_null {K : KT} {M : MT} {a n : Int32} (h0 : ¬ a < 0) (h1 : a < n) : CM K 1 yJ3_checkIndex_8e157 cJ3_checkIndex_8e157 3 (some .int) [.int a, .int n, .null] M (some (.int a)) M := by
  refine CM.ofI (by decide) [some (.int a), some (.int n), some .null] rfl (Nat.le_of_ble_eq_true rfl) (Nat.le_of_ble_eq_true rfl) (fun G hG _ hret => ?_)
  refine r_iload_n (pc := 0) hG dJ3_checkIndex_8e157_0 rfl ?_
  refine r_if_lt (pc := 1) (tgt := 9) hG dJ3_checkIndex_8e157_1 (by decide) (fun c => absurd c h0) (fun c => ?_)
  refine r_iload_n (pc := 4) hG dJ3_checkIndex_8e157_4 rfl ?_
  refine r_iload_n (pc := 5) hG dJ3_checkIndex_8e157_5 rfl ?_
  refine r_icmp_lt (pc := 6) (tgt := 16) hG dJ3_checkIndex_8e157_6 (by decide) (fun c => ?_) (fun c => absurd h1 c)
  refine r_iload_n (pc := 16) hG dJ3_checkIndex_8e157_16 rfl ?_
  exact hret _ _ _ _ dJ3_checkIndex_8e157_17 rfl rfl
theorem c_J3_ref {K : KT} {M : MT} {a n : Int32} {t : Nat} (h0 : ¬ a < 0) (h1 : a < n) : CM K 1 yJ3_checkIndex_8e157 cJ3_checkIndex_8e157 3 (some .int) [.int a, .int n, .ref t] M (some (.int a)) M := by
  refine CM.ofI (by decide) [some (.int a), some (.int n), some (.ref t)] rfl (Nat.le_of_ble_eq_true rfl) (Nat.le_of_ble_eq_true rfl) (fun G hG _ hret => ?_)
  refine r_iload_n (pc := 0) hG dJ3_checkIndex_8e157_0 rfl ?_
  refine r_if_lt (pc := 1) (tgt := 9) hG dJ3_checkIndex_8e157_1 (by decide) (fun c => absurd c h0) (fun c => ?_)
  refine r_iload_n (pc := 4) hG dJ3_checkIndex_8e157_4 rfl ?_
  refine r_iload_n (pc := 5) hG dJ3_checkIndex_8e157_5 rfl ?_
  refine r_icmp_lt (pc := 6) (tgt := 16) hG dJ3_checkIndex_8e157_6 (by decide) (fun c => ?_) (fun c => absurd h1 c)
  refine r_iload_n (pc := 16) hG dJ3_checkIndex_8e157_16 rfl ?_
  exact hret _ _ _ _ dJ3_checkIndex_8e157_17 rfl rfl
theorem hy_J3_ci : yJ3_checkIndex_8e157.cls ≠ "java/lang/invoke/MethodHandle" ∧ yJ3_checkIndex_8e157.cls ≠ "java/lang/invoke/VarHandle" ∧ (parseMethodDescriptor yJ3_checkIndex_8e157.desc).map (fun d => d.parameters.length) = some 3 := by decide +kernel
theorem hy_J0_ci : yJ0_checkIndex_df160.cls ≠ "java/lang/invoke/MethodHandle" ∧ yJ0_checkIndex_df160.cls ≠ "java/lang/invoke/VarHandle" ∧ (parseMethodDescriptor yJ0_checkIndex_df160.desc).map (fun d => d.parameters.length) = some 2 := by decide +kernel
theorem hy_J1_ca : yJ1_charAt_3b067.cls ≠ "java/lang/invoke/MethodHandle" ∧ yJ1_charAt_3b067.cls ≠ "java/lang/invoke/VarHandle" ∧ (parseMethodDescriptor yJ1_charAt_3b067.desc).map (fun d => d.parameters.length) = some 2 := by decide +kernel
theorem c_J0_checkIndex {K : KT} {M : MT} {a n : Int32} (h0 : ¬ a < 0) (h1 : a < n) : CM K 2 yJ0_checkIndex_df160 cJ0_checkIndex_df160 2 none [.int a, .int n] M none M := by
  refine CM.ofV (by decide) [some (.int a), some (.int n)] rfl (Nat.le_of_ble_eq_true rfl) (Nat.le_of_ble_eq_true rfl) (fun G hG _ hret => ?_)
  refine r_iload_n (pc := 0) hG dJ0_checkIndex_df160_0 rfl ?_
  refine r_iload_n (pc := 1) hG dJ0_checkIndex_df160_1 rfl ?_
  have fin : J G K M 8 [some (.int a), some (.int n)] [.int a] := r_pop (pc := 8) hG dJ0_checkIndex_df160_8 rfl (hret _ _ _ dJ0_checkIndex_df160_9 rfl)
  refine js_fmt (pc := 2) hG dJ0_checkIndex_df160_2 tw_591 ?_ (fun t => ?_)
  · exact J_callS (As := [.int a, .int n, .null]) (st := []) (pc := 5) hG dJ0_checkIndex_df160_5 (c_J3_null h0 h1) (by decide) (by decide) tw_593 tw_594 tw_86 tw_595 hy_J3_ci (Nat.le_of_ble_eq_true rfl) fin
  · exact J_callS (As := [.int a, .int n, .ref t]) (st := []) (pc := 5) hG dJ0_checkIndex_df160_5 (c_J3_ref h0 h1) (by decide) (by decide) tw_593 tw_594 tw_86 tw_595 hy_J3_ci (Nat.le_of_ble_eq_true rfl) fin
theorem kTx_chr : ∀ i, i < 7 → ∀ j, j < (kTx i).length → ((((kTx i).getD j 0) &&& 255).toUInt32 % 65536).toInt32 = (kTx i).getD j 0 ∧ narrow .char (.int ((kTx i).getD j 0)) = .int ((kTx i).getD j 0) := by decide +kernel
theorem kTx_small : ∀ i, i < 7 → (kTx i).length < 7 := by decide
theorem c_J1_charAt {K : KT} {M : MT} {i j : Nat} (hi : i < 7) (hj : j < (kTx i).length) : CM K 3 yJ1_charAt_3b067 cJ1_charAt_3b067 2 (some .char) [.ref (K.2.2.2 i), .int (nI j)] M (some (.int ((kTx i).getD j 0))) M := by
  have hs := kTx_small i hi
  refine CM.ofT (kTx_chr i hi j hj).2 (by decide) [some (.ref (K.2.2.2 i)), some (.int (nI j))] rfl (Nat.le_of_ble_eq_true rfl) (Nat.le_of_ble_eq_true rfl) (fun G hG _ hret => ?_)
  refine r_iload_n (pc := 0) hG dJ1_charAt_3b067_0 rfl ?_
  refine r_aloadR (pc := 1) hG dJ1_charAt_3b067_1 rfl ?_
  refine js_len (pc := 2) hi hG dJ1_charAt_3b067_2 ?_
  refine J_callS (As := [.int (nI j), .int (nI (kTx i).length)]) (st := []) (pc := 3) hG dJ1_charAt_3b067_3 (c_J0_checkIndex (nI_pos (by omega)) (by rw [nI_ltI (by omega) (by omega)]; exact hj)) (by decide) (by decide) tw_588 tw_589 tw_84 tw_590 hy_J0_ci (Nat.le_of_ble_eq_true rfl) ?_
  refine r_aloadR (pc := 6) hG dJ1_charAt_3b067_6 rfl ?_
  refine r_iload_n (pc := 7) hG dJ1_charAt_3b067_7 rfl ?_
  refine js_bal (j := j) (pc := 8) hi hG dJ1_charAt_3b067_8 (ix_nI hj (by omega)) ?_
  refine r_sipush (pc := 9) (v := 255) hG dJ1_charAt_3b067_9 (by decide) ?_
  refine r_iand (pc := 12) hG dJ1_charAt_3b067_12 ?_
  refine r_i2c (pc := 13) hG dJ1_charAt_3b067_13 (kTx_chr i hi j hj).1 ?_
  exact hret _ _ _ _ dJ1_charAt_3b067_14 rfl rfl
theorem c_J0_charAt {K : KT} {M : MT} {i j : Nat} (hi : i < 7) (hj : j < (kTx i).length) : CM K 4 yJ0_charAt_5068e cJ0_charAt_5068e 2 (some .char) [rf K (210 + i), .int (nI j)] M (some (.int ((kTx i).getD j 0))) M := by
  refine CM.ofT (kTx_chr i hi j hj).2 (by decide) [some (rf K (210 + i)), some (.int (nI j))] rfl (Nat.le_of_ble_eq_true rfl) (Nat.le_of_ble_eq_true rfl) (fun G hG _ hret => ?_)
  refine r_aload_n (pc := 0) hG dJ0_charAt_5068e_0 rfl ?_
  refine J_callVS (As := []) (st := []) (pc := 1) hi hG dJ0_charAt_5068e_1 (c_J0_isLatin1 hi) (by decide) (by decide) tw_581 tw_582 tw_583 tw_84 tw_584 hy_J0_isLatin1 (Nat.le_of_ble_eq_true rfl) ?_
  refine r_if_eq (x := 1) (pc := 4) (tgt := 16) hG dJ0_charAt_5068e_4 (by decide) (fun c => absurd c (by decide)) (fun c => ?_)
  refine r_aload_n (pc := 7) hG dJ0_charAt_5068e_7 rfl ?_
  refine js_value (pc := 8) hi hG dJ0_charAt_5068e_8 tw_1712 ?_
  refine r_iload_n (pc := 11) hG dJ0_charAt_5068e_11 rfl ?_
  refine J_callS (As := [.ref (K.2.2.2 i), .int (nI j)]) (st := []) (pc := 12) hG dJ0_charAt_5068e_12 (c_J1_charAt hi hj) (by decide) (by decide) tw_585 tw_586 tw_85 tw_587 hy_J1_ca (Nat.le_of_ble_eq_true rfl) ?_
  exact hret _ _ _ _ dJ0_charAt_5068e_15 rfl rfl
