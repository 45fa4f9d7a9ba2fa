/-! ===== the reference's tape ===== -/
/-- the memory with the reading's places set -/
def rpM (M : MT) (tk fr to vl : Int32) : MT := (M.1, fun a b => if a = 30 then (if b = 1 then fr else if b = 2 then to else if b = 3 then tk else if b = 4 then vl else M.2.1 a b) else M.2.1 a b, M.2.2)
theorem rp_self {M : MT} : M = rpM M (M.2.1 30 3) (M.2.1 30 1) (M.2.1 30 2) (M.2.1 30 4) := by
  show ((M.1, M.2.1, M.2.2) : MT) = _
  refine tp_ext (M := M) (fun a b => ?_)
  split
  · rename_i h
    subst h
    split
    · rename_i h; rw [h]
    · split
      · rename_i h; rw [h]
      · split
        · rename_i h; rw [h]
        · split
          · rename_i h; rw [h]
          · rfl
  · rfl
theorem rp_1 {M : MT} {t f e v x : Int32} : u2 (rpM M t f e v) 30 1 x = rpM M t x e v := by
  refine tp_ext (M := M) (fun a b => ?_)
  show (if a = 30 ∧ b = 1 then x else if a = 30 then _ else _) = _
  by_cases ha : a = 30 <;> by_cases h1 : b = 1 <;> simp_all
theorem rp_2 {M : MT} {t f e v x : Int32} : u2 (rpM M t f e v) 30 2 x = rpM M t f x v := by
  refine tp_ext (M := M) (fun a b => ?_)
  show (if a = 30 ∧ b = 2 then x else if a = 30 then _ else _) = _
  by_cases ha : a = 30 <;> by_cases h1 : b = 1 <;> by_cases h2 : b = 2 <;> simp_all
theorem rp_3 {M : MT} {t f e v x : Int32} : u2 (rpM M t f e v) 30 3 x = rpM M x f e v := by
  refine tp_ext (M := M) (fun a b => ?_)
  show (if a = 30 ∧ b = 3 then x else if a = 30 then _ else _) = _
  by_cases ha : a = 30 <;> by_cases h1 : b = 1 <;> by_cases h2 : b = 2 <;> by_cases h3 : b = 3 <;> simp_all
theorem rp_4 {M : MT} {t f e v x : Int32} : u2 (rpM M t f e v) 30 4 x = rpM M t f e x := by
  refine tp_ext (M := M) (fun a b => ?_)
  show (if a = 30 ∧ b = 4 then x else if a = 30 then _ else _) = _
  by_cases ha : a = 30 <;> by_cases h1 : b = 1 <;> by_cases h2 : b = 2 <;> by_cases h3 : b = 3 <;> by_cases h4 : b = 4 <;> simp_all
def nx1 (M : MT) : Nat := lscan (fun e => M.2.1 31 e = 32) (tn (M.2.1 30 0) - tn (M.2.1 30 2)) (tn (M.2.1 30 2))
def nxW (M : MT) (e : Nat) : Nat := lscan (fun e => sp_X9_isLetter (M.2.1 31 e) = true) (tn (M.2.1 30 0) - e) e
def nxD (M : MT) (f : Nat) : Nat → Nat → Int32 → Nat × Int32
  | 0, e, v => (e, v)
  | n + 1, e, v => if sp_X9_isDigit (M.2.1 31 e) = true then nxD M f n (e + 1) (if 3 ≤ nI e - nI f then v else 10 * v + M.2.1 31 e - 48) else (e, v)
def sp_X9_next (M : MT) : MT :=
  if tn (M.2.1 30 0) ≤ nx1 M then rpM M 101 (nI (nx1 M)) (nI (nx1 M)) (M.2.1 30 4)
  else if sp_X9_isLetter (M.2.1 31 (nx1 M)) = true then rpM M 119 (nI (nx1 M)) (nI (nxW M (nx1 M + 1))) (M.2.1 30 4)
  else if sp_X9_isDigit (M.2.1 31 (nx1 M)) = true then rpM M (if nI (nxD M (nx1 M) (tn (M.2.1 30 0) - (nx1 M + 1)) (nx1 M + 1) (M.2.1 31 (nx1 M) - 48)).1 - nI (nx1 M) ≤ 3 then 48 else 120) (nI (nx1 M)) (nI (nxD M (nx1 M) (tn (M.2.1 30 0) - (nx1 M + 1)) (nx1 M + 1) (M.2.1 31 (nx1 M) - 48)).1) (nxD M (nx1 M) (tn (M.2.1 30 0) - (nx1 M + 1)) (nx1 M + 1) (M.2.1 31 (nx1 M) - 48)).2
  else rpM M (if M.2.1 31 (nx1 M) = 59 then 59 else 120) (nI (nx1 M)) (nI (nx1 M + 1)) (M.2.1 30 4)

theorem lp9_8 {G : GT} {K : KT} {M : MT} {t o v : Int32} {d : Nat} (hG : GF G K RX9 cX9_next d) (hsz : bd (M.2.1 30 0) 251) : ∀ n e, e + n = tn (M.2.1 30 0) → J G K (rpM M t (nI (lscan (fun e => M.2.1 31 e = 32) n e)) o v) 46 [some (rf K 140), none] [] → J G K (rpM M t (nI e) o v) 8 [some (rf K 140), none] [] := by
  have hszl := bd_lt hsz
  intro n
  induction n with
  | zero =>
    intro e he hk
    refine r_aload_n (pc := 8) hG dX9_next_8 rfl ?_
    refine gf_X9_from (pc := 9)  hG dX9_next_9 tw_1182 ?_
    refine r_aload_n (pc := 12) hG dX9_next_12 rfl ?_
    refine gf_X9_taped (pc := 13)  hG dX9_next_13 tw_1180 ?_
    refine r_icmp_ge (x := nI e) (y := M.2.1 30 0) (pc := 16) (tgt := 46) hG dX9_next_16 (by decide) (fun c => hk) (fun c => ?_)
    exact absurd ((bd_le hsz (by omega)).mpr (by omega)) c
  | succ n ih =>
    intro e he hk
    refine r_aload_n (pc := 8) hG dX9_next_8 rfl ?_
    refine gf_X9_from (pc := 9)  hG dX9_next_9 tw_1182 ?_
    refine r_aload_n (pc := 12) hG dX9_next_12 rfl ?_
    refine gf_X9_taped (pc := 13)  hG dX9_next_13 tw_1180 ?_
    refine r_icmp_ge (x := nI e) (y := M.2.1 30 0) (pc := 16) (tgt := 46) hG dX9_next_16 (by decide) (fun c => ?_) (fun c => ?_)
    · have := (bd_le hsz (by omega)).mp c
      exfalso; omega
    · have hel : e < 250 := by omega
      refine r_aload_n (pc := 19) hG dX9_next_19 rfl ?_
      refine gf_X9_tape (pc := 20)  hG dX9_next_20 tw_1181 ?_
      refine r_aload_n (pc := 23) hG dX9_next_23 rfl ?_
      refine gf_X9_from (pc := 24)  hG dX9_next_24 tw_1182 ?_
      refine al_Mtape (pc := 27)  hG dX9_next_27 (ix_nI (by omega) (Nat.le_of_ble_eq_true rfl)) ?_
      refine r_bipush (pc := 28) hG dX9_next_28 bc_32 ?_
      refine r_icmp_ne (x := M.2.1 31 e) (y := 32) (pc := 30) (tgt := 46) hG dX9_next_30 (by decide) (fun q => ?_) (fun q => ?_)
      · rw [lscan_n q] at hk
        exact hk
      · rw [lscan_p q] at hk
        refine r_aload_n (pc := 33) hG dX9_next_33 rfl ?_
        refine r_dup (pc := 34) hG dX9_next_34 rfl ?_
        refine gf_X9_from (pc := 35)  hG dX9_next_35 tw_1182 ?_
        refine r_iconst (pc := 38) hG dX9_next_38 ic_1 ?_
        refine r_iadd (pc := 39) hG dX9_next_39 ?_
        refine pf_X9_from (pc := 40)  hG dX9_next_40 tw_1182 ?_
        show J G K (u2 (rpM M t (nI e) o v) 30 1 ((nI e) + 1)) _ _ _
        rw [rp_1, nI_1]
        refine r_goto (pc := 43) (tgt := 8) hG dX9_next_43 (by decide) ?_
        exact ih (e + 1) (by omega) hk

theorem lp9_96 {G : GT} {K : KT} {M : MT} {t f v ch : Int32} {d : Nat} (hd : 3 ≤ d) (hG : GF G K RX9 cX9_next d) (hsz : bd (M.2.1 30 0) 251) : ∀ n e, e + n = tn (M.2.1 30 0) → J G K (rpM M t f (nI (lscan (fun e => sp_X9_isLetter (M.2.1 31 e) = true) n e)) v) 135 [some (rf K 140), some (.int ch)] [] → J G K (rpM M t f (nI e) v) 96 [some (rf K 140), some (.int ch)] [] := by
  have hszl := bd_lt hsz
  intro n
  induction n with
  | zero =>
    intro e he hk
    refine r_aload_n (pc := 96) hG dX9_next_96 rfl ?_
    refine gf_X9_to (pc := 97)  hG dX9_next_97 tw_1183 ?_
    refine r_aload_n (pc := 100) hG dX9_next_100 rfl ?_
    refine gf_X9_taped (pc := 101)  hG dX9_next_101 tw_1180 ?_
    refine r_icmp_ge (x := nI e) (y := M.2.1 30 0) (pc := 104) (tgt := 135) hG dX9_next_104 (by decide) (fun c => hk) (fun c => ?_)
    exact absurd ((bd_le hsz (by omega)).mpr (by omega)) c
  | succ n ih =>
    intro e he hk
    refine r_aload_n (pc := 96) hG dX9_next_96 rfl ?_
    refine gf_X9_to (pc := 97)  hG dX9_next_97 tw_1183 ?_
    refine r_aload_n (pc := 100) hG dX9_next_100 rfl ?_
    refine gf_X9_taped (pc := 101)  hG dX9_next_101 tw_1180 ?_
    refine r_icmp_ge (x := nI e) (y := M.2.1 30 0) (pc := 104) (tgt := 135) hG dX9_next_104 (by decide) (fun c => ?_) (fun c => ?_)
    · have := (bd_le hsz (by omega)).mp c
      exfalso; omega
    · have hel : e < 250 := by omega
      refine r_aload_n (pc := 107) hG dX9_next_107 rfl ?_
      refine gf_X9_tape (pc := 108)  hG dX9_next_108 tw_1181 ?_
      refine r_aload_n (pc := 111) hG dX9_next_111 rfl ?_
      refine gf_X9_to (pc := 112)  hG dX9_next_112 tw_1183 ?_
      refine al_Mtape (pc := 115)  hG dX9_next_115 (ix_nI (by omega) (Nat.le_of_ble_eq_true rfl)) ?_
      refine cs_X9_isLetter (pc := 116)  hG dX9_next_116 tw_1375 (c_X9_isLetter) (by omega) (Nat.le_of_ble_eq_true rfl) ?_
      refine r_ifz_eq (b := sp_X9_isLetter (M.2.1 31 e)) (pc := 119) (tgt := 135) hG dX9_next_119 (by decide) (fun q => ?_) (fun q => ?_)
      · rw [lscan_n q] at hk
        exact hk
      · rw [lscan_p q] at hk
        refine r_aload_n (pc := 122) hG dX9_next_122 rfl ?_
        refine r_dup (pc := 123) hG dX9_next_123 rfl ?_
        refine gf_X9_to (pc := 124)  hG dX9_next_124 tw_1183 ?_
        refine r_iconst (pc := 127) hG dX9_next_127 ic_1 ?_
        refine r_iadd (pc := 128) hG dX9_next_128 ?_
        refine pf_X9_to (pc := 129)  hG dX9_next_129 tw_1183 ?_
        show J G K (u2 (rpM M t f (nI e) v) 30 2 ((nI e) + 1)) _ _ _
        rw [rp_2, nI_1]
        refine r_goto (pc := 132) (tgt := 96) hG dX9_next_132 (by decide) ?_
        exact ih (e + 1) (by omega) hk

theorem lp9_159 {G : GT} {K : KT} {M : MT} {t ch : Int32} {f : Nat} {d : Nat} (hd : 3 ≤ d) (hG : GF G K RX9 cX9_next d) (hsz : bd (M.2.1 30 0) 251) : ∀ n e v, e + n = tn (M.2.1 30 0) → J G K (rpM M t (nI f) (nI (nxD M f n e v).1) (nxD M f n e v).2) 235 [some (rf K 140), some (.int ch)] [] → J G K (rpM M t (nI f) (nI e) v) 159 [some (rf K 140), some (.int ch)] [] := by
  have hszl := bd_lt hsz
  intro n
  induction n with
  | zero =>
    intro e v he hk
    refine r_aload_n (pc := 159) hG dX9_next_159 rfl ?_
    refine gf_X9_to (pc := 160)  hG dX9_next_160 tw_1183 ?_
    refine r_aload_n (pc := 163) hG dX9_next_163 rfl ?_
    refine gf_X9_taped (pc := 164)  hG dX9_next_164 tw_1180 ?_
    refine r_icmp_ge (x := nI e) (y := M.2.1 30 0) (pc := 167) (tgt := 235) hG dX9_next_167 (by decide) (fun c => hk) (fun c => ?_)
    exact absurd ((bd_le hsz (by omega)).mpr (by omega)) c
  | succ n ih =>
    intro e v he hk
    refine r_aload_n (pc := 159) hG dX9_next_159 rfl ?_
    refine gf_X9_to (pc := 160)  hG dX9_next_160 tw_1183 ?_
    refine r_aload_n (pc := 163) hG dX9_next_163 rfl ?_
    refine gf_X9_taped (pc := 164)  hG dX9_next_164 tw_1180 ?_
    refine r_icmp_ge (x := nI e) (y := M.2.1 30 0) (pc := 167) (tgt := 235) hG dX9_next_167 (by decide) (fun c => ?_) (fun c => ?_)
    · have := (bd_le hsz (by omega)).mp c
      exfalso; omega
    · have hel : e < 250 := by omega
      refine r_aload_n (pc := 170) hG dX9_next_170 rfl ?_
      refine gf_X9_tape (pc := 171)  hG dX9_next_171 tw_1181 ?_
      refine r_aload_n (pc := 174) hG dX9_next_174 rfl ?_
      refine gf_X9_to (pc := 175)  hG dX9_next_175 tw_1183 ?_
      refine al_Mtape (pc := 178)  hG dX9_next_178 (ix_nI (by omega) (Nat.le_of_ble_eq_true rfl)) ?_
      refine cs_X9_isDigit (pc := 179)  hG dX9_next_179 tw_1378 (c_X9_isDigit) (by omega) (Nat.le_of_ble_eq_true rfl) ?_
      refine r_ifz_eq (b := sp_X9_isDigit (M.2.1 31 e)) (pc := 182) (tgt := 235) hG dX9_next_182 (by decide) (fun q => ?_) (fun q => ?_)
      · have z : nxD M f (n + 1) e v = (e, v) := if_neg q
        rw [z] at hk
        exact hk
      · have z : nxD M f (n + 1) e v = nxD M f n (e + 1) (if 3 ≤ nI e - nI f then v else 10 * v + M.2.1 31 e - 48) := if_pos q
        rw [z] at hk
        refine r_aload_n (pc := 185) hG dX9_next_185 rfl ?_
        refine gf_X9_to (pc := 186)  hG dX9_next_186 tw_1183 ?_
        refine r_aload_n (pc := 189) hG dX9_next_189 rfl ?_
        refine gf_X9_from (pc := 190)  hG dX9_next_190 tw_1182 ?_
        refine r_isub (pc := 193) hG dX9_next_193 ?_
        refine r_iconst (pc := 194) hG dX9_next_194 ic_3 ?_
        refine r_icmp_ge (x := nI e - nI f) (y := 3) (pc := 195) (tgt := 222) hG dX9_next_195 (by decide) (fun w => ?_) (fun w => ?_)
        · rw [if_pos w] at hk
          refine r_aload_n (pc := 222) hG dX9_next_222 rfl ?_
          refine r_dup (pc := 223) hG dX9_next_223 rfl ?_
          refine gf_X9_to (pc := 224)  hG dX9_next_224 tw_1183 ?_
          refine r_iconst (pc := 227) hG dX9_next_227 ic_1 ?_
          refine r_iadd (pc := 228) hG dX9_next_228 ?_
          refine pf_X9_to (pc := 229)  hG dX9_next_229 tw_1183 ?_
          show J G K (u2 (rpM M t (nI f) (nI e) v) 30 2 ((nI e) + 1)) _ _ _
          rw [rp_2, nI_1]
          refine r_goto (pc := 232) (tgt := 159) hG dX9_next_232 (by decide) ?_
          exact ih (e + 1) v (by omega) hk
        · rw [if_neg w] at hk
          refine r_aload_n (pc := 198) hG dX9_next_198 rfl ?_
          refine r_bipush (pc := 199) hG dX9_next_199 bc_10 ?_
          refine r_aload_n (pc := 201) hG dX9_next_201 rfl ?_
          refine gf_X9_value (pc := 202)  hG dX9_next_202 tw_1185 ?_
          refine r_imul (pc := 205) hG dX9_next_205 ?_
          refine r_aload_n (pc := 206) hG dX9_next_206 rfl ?_
          refine gf_X9_tape (pc := 207)  hG dX9_next_207 tw_1181 ?_
          refine r_aload_n (pc := 210) hG dX9_next_210 rfl ?_
          refine gf_X9_to (pc := 211)  hG dX9_next_211 tw_1183 ?_
          refine al_Mtape (pc := 214)  hG dX9_next_214 (ix_nI (by omega) (Nat.le_of_ble_eq_true rfl)) ?_
          refine r_iadd (pc := 215) hG dX9_next_215 ?_
          refine r_bipush (pc := 216) hG dX9_next_216 bc_48 ?_
          refine r_isub (pc := 218) hG dX9_next_218 ?_
          refine pf_X9_value (pc := 219)  hG dX9_next_219 tw_1185 ?_
          show J G K (u2 (rpM M t (nI f) (nI e) v) 30 4 (((10 * v) + (M.2.1 31 e)) - 48)) _ _ _
          rw [rp_4]
          refine r_aload_n (pc := 222) hG dX9_next_222 rfl ?_
          refine r_dup (pc := 223) hG dX9_next_223 rfl ?_
          refine gf_X9_to (pc := 224)  hG dX9_next_224 tw_1183 ?_
          refine r_iconst (pc := 227) hG dX9_next_227 ic_1 ?_
          refine r_iadd (pc := 228) hG dX9_next_228 ?_
          refine pf_X9_to (pc := 229)  hG dX9_next_229 tw_1183 ?_
          show J G K (u2 (rpM M t (nI f) (nI e) (10 * v + M.2.1 31 e - 48)) 30 2 ((nI e) + 1)) _ _ _
          rw [rp_2, nI_1]
          refine r_goto (pc := 232) (tgt := 159) hG dX9_next_232 (by decide) ?_
          exact ih (e + 1) _ (by omega) hk

theorem nx1_le {M : MT} (h : tn (M.2.1 30 2) ≤ tn (M.2.1 30 0)) : tn (M.2.1 30 2) ≤ nx1 M ∧ nx1 M ≤ tn (M.2.1 30 0) := by
  have := lscan_le (P := fun e => M.2.1 31 e = 32) (tn (M.2.1 30 0) - tn (M.2.1 30 2)) (tn (M.2.1 30 2))
  unfold nx1
  omega
theorem nxW_le {M : MT} {e : Nat} (h : e ≤ tn (M.2.1 30 0)) : e ≤ nxW M e ∧ nxW M e ≤ tn (M.2.1 30 0) := by
  have := lscan_le (P := fun e => sp_X9_isLetter (M.2.1 31 e) = true) (tn (M.2.1 30 0) - e) e
  unfold nxW
  omega
theorem nxD_le {M : MT} {f : Nat} : ∀ (n e : Nat) (v : Int32), e ≤ (nxD M f n e v).1 ∧ (nxD M f n e v).1 ≤ e + n
  | 0, e, v => ⟨Nat.le_refl _, Nat.le_refl _⟩
  | n + 1, e, v => by
    unfold nxD
    split
    · have := nxD_le (M := M) (f := f) n (e + 1) (if 3 ≤ nI e - nI f then v else 10 * v + M.2.1 31 e - 48)
      omega
    · exact ⟨Nat.le_refl _, Nat.le_add_right _ _⟩
theorem c_X9_next {K : KT} {M : MT} (hsz : bd (M.2.1 30 0) 251) (hto : bd (M.2.1 30 2) 251) (hle : tn (M.2.1 30 2) ≤ tn (M.2.1 30 0)) : CM K 3 yX9_next cX9_next 2 none [rf K 140] M none (sp_X9_next M) := by
  refine CM.ofV (by decide) [some (rf K 140), none] rfl (Nat.le_of_ble_eq_true rfl) (Nat.le_of_ble_eq_true rfl) (fun G hG _ hret => ?_)
  have hszl := bd_lt hsz
  have h1 := nx1_le hle
  refine J.castM (M' := rpM M (M.2.1 30 3) (M.2.1 30 1) (nI (tn (M.2.1 30 2))) (M.2.1 30 4)) ?_ (rp_self.trans (by rw [← bd_eq hto]))
  refine r_aload_n (pc := 0) hG dX9_next_0 rfl ?_
  refine r_aload_n (pc := 1) hG dX9_next_1 rfl ?_
  refine gf_X9_to (pc := 2)  hG dX9_next_2 tw_1183 ?_
  refine pf_X9_from (pc := 5)  hG dX9_next_5 tw_1182 ?_
  show J G K (u2 (rpM M (M.2.1 30 3) (M.2.1 30 1) (nI (tn (M.2.1 30 2))) (M.2.1 30 4)) 30 1 (nI (tn (M.2.1 30 2)))) _ _ _
  rw [rp_1]
  refine lp9_8 hG hsz (tn (M.2.1 30 0) - tn (M.2.1 30 2)) (tn (M.2.1 30 2)) (by omega) ?_
  show J G K (rpM M (M.2.1 30 3) (nI (nx1 M)) (nI (tn (M.2.1 30 2))) (M.2.1 30 4)) 46 [some (rf K 140), none] []
  have hspec := sp_X9_next.eq_1 M
  generalize hs : nx1 M = s at h1 hspec ⊢
  refine r_aload_n (pc := 46) hG dX9_next_46 rfl ?_
  refine r_aload_n (pc := 47) hG dX9_next_47 rfl ?_
  refine gf_X9_from (pc := 48)  hG dX9_next_48 tw_1182 ?_
  refine pf_X9_to (pc := 51)  hG dX9_next_51 tw_1183 ?_
  show J G K (u2 (rpM M (M.2.1 30 3) (nI s) (nI (tn (M.2.1 30 2))) (M.2.1 30 4)) 30 2 (nI s)) _ _ _
  rw [rp_2]
  refine r_aload_n (pc := 54) hG dX9_next_54 rfl ?_
  refine gf_X9_from (pc := 55)  hG dX9_next_55 tw_1182 ?_
  refine r_aload_n (pc := 58) hG dX9_next_58 rfl ?_
  refine gf_X9_taped (pc := 59)  hG dX9_next_59 tw_1180 ?_
  refine r_icmp_ne (x := nI s) (y := M.2.1 30 0) (pc := 62) (tgt := 72) hG dX9_next_62 (by decide) (fun c => ?_) (fun c => ?_)
  · have hlt : s < tn (M.2.1 30 0) := by
      rcases Nat.lt_or_ge s (tn (M.2.1 30 0)) with z | z
      · exact z
      · exact absurd (by rw [bd_eq hsz]; congr 1; omega) c
    rw [if_neg (by omega)] at hspec
    refine r_aload_n (pc := 72) hG dX9_next_72 rfl ?_
    refine gf_X9_tape (pc := 73)  hG dX9_next_73 tw_1181 ?_
    refine r_aload_n (pc := 76) hG dX9_next_76 rfl ?_
    refine r_dup (pc := 77) hG dX9_next_77 rfl ?_
    refine gf_X9_to (pc := 78)  hG dX9_next_78 tw_1183 ?_
    refine r_dup_x1 (pc := 81) hG dX9_next_81 rfl rfl ?_
    refine r_iconst (pc := 82) hG dX9_next_82 ic_1 ?_
    refine r_iadd (pc := 83) hG dX9_next_83 ?_
    refine pf_X9_to (pc := 84)  hG dX9_next_84 tw_1183 ?_
    show J G K (u2 (rpM M (M.2.1 30 3) (nI s) (nI s) (M.2.1 30 4)) 30 2 ((nI s) + 1)) _ _ _
    rw [rp_2, nI_1]
    refine al_Mtape (pc := 87)  hG dX9_next_87 (ix_nI (by omega) (Nat.le_of_ble_eq_true rfl)) ?_
    refine r_istore_n (pc := 88) (ls' := [_, _]) hG dX9_next_88 rfl rfl ?_
    refine r_iload_n (pc := 89) hG dX9_next_89 rfl ?_
    refine cs_X9_isLetter (pc := 90)  hG dX9_next_90 tw_1375 (c_X9_isLetter) (by decide) (Nat.le_of_ble_eq_true rfl) ?_
    refine r_ifz_eq (b := sp_X9_isLetter (M.2.1 31 s)) (pc := 93) (tgt := 144) hG dX9_next_93 (by decide) (fun q => ?_) (fun q => ?_)
    · rw [if_neg q] at hspec
      refine r_iload_n (pc := 144) hG dX9_next_144 rfl ?_
      refine cs_X9_isDigit (pc := 145)  hG dX9_next_145 tw_1378 (c_X9_isDigit) (by decide) (Nat.le_of_ble_eq_true rfl) ?_
      refine r_ifz_eq (b := sp_X9_isDigit (M.2.1 31 s)) (pc := 148) (tgt := 262) hG dX9_next_148 (by decide) (fun w => ?_) (fun w => ?_)
      · rw [if_neg w] at hspec
        refine r_aload_n (pc := 262) hG dX9_next_262 rfl ?_
        refine r_iload_n (pc := 263) hG dX9_next_263 rfl ?_
        refine r_bipush (pc := 264) hG dX9_next_264 bc_59 ?_
        refine r_icmp_ne (x := M.2.1 31 s) (y := 59) (pc := 266) (tgt := 274) hG dX9_next_266 (by decide) (fun y => ?_) (fun y => ?_)
        · rw [if_neg y] at hspec
          refine r_bipush (pc := 274) hG dX9_next_274 bc_120 ?_
          refine pf_X9_token (pc := 276)  hG dX9_next_276 tw_1184 ?_
          show J G K (u2 (rpM M (M.2.1 30 3) (nI s) (nI (s + 1)) (M.2.1 30 4)) 30 3 120) _ _ _
          rw [rp_3]
          exact hret _ _ _ dX9_next_279 hspec.symm
        · rw [if_pos y] at hspec
          refine r_bipush (pc := 269) hG dX9_next_269 bc_59 ?_
          refine r_goto (pc := 271) (tgt := 276) hG dX9_next_271 (by decide) ?_
          refine pf_X9_token (pc := 276)  hG dX9_next_276 tw_1184 ?_
          show J G K (u2 (rpM M (M.2.1 30 3) (nI s) (nI (s + 1)) (M.2.1 30 4)) 30 3 59) _ _ _
          rw [rp_3]
          exact hret _ _ _ dX9_next_279 hspec.symm
      · rw [if_pos w] at hspec
        refine r_aload_n (pc := 151) hG dX9_next_151 rfl ?_
        refine r_iload_n (pc := 152) hG dX9_next_152 rfl ?_
        refine r_bipush (pc := 153) hG dX9_next_153 bc_48 ?_
        refine r_isub (pc := 155) hG dX9_next_155 ?_
        refine pf_X9_value (pc := 156)  hG dX9_next_156 tw_1185 ?_
        show J G K (u2 (rpM M (M.2.1 30 3) (nI s) (nI (s + 1)) (M.2.1 30 4)) 30 4 ((M.2.1 31 s) - 48)) _ _ _
        rw [rp_4]
        refine lp9_159 (by decide) hG hsz (tn (M.2.1 30 0) - (s + 1)) (s + 1) _ (by omega) ?_
        generalize nxD M s (tn (M.2.1 30 0) - (s + 1)) (s + 1) (M.2.1 31 s - 48) = z at hspec ⊢
        obtain ⟨e2, v2⟩ := z
        show J G K (rpM M (M.2.1 30 3) (nI s) (nI e2) v2) 235 _ []
        replace hspec : sp_X9_next M = rpM M (if nI e2 - nI s ≤ 3 then 48 else 120) (nI s) (nI e2) v2 := hspec
        refine r_aload_n (pc := 235) hG dX9_next_235 rfl ?_
        refine r_aload_n (pc := 236) hG dX9_next_236 rfl ?_
        refine gf_X9_to (pc := 237)  hG dX9_next_237 tw_1183 ?_
        refine r_aload_n (pc := 240) hG dX9_next_240 rfl ?_
        refine gf_X9_from (pc := 241)  hG dX9_next_241 tw_1182 ?_
        refine r_isub (pc := 244) hG dX9_next_244 ?_
        refine r_iconst (pc := 245) hG dX9_next_245 ic_3 ?_
        refine r_icmp_le (x := nI e2 - nI s) (y := 3) (pc := 246) (tgt := 254) hG dX9_next_246 (by decide) (fun y => ?_) (fun y => ?_)
        · rw [if_pos y] at hspec
          refine r_bipush (pc := 254) hG dX9_next_254 bc_48 ?_
          refine pf_X9_token (pc := 256)  hG dX9_next_256 tw_1184 ?_
          show J G K (u2 (rpM M (M.2.1 30 3) (nI s) (nI e2) v2) 30 3 48) _ _ _
          rw [rp_3]
          refine r_goto (pc := 259) (tgt := 279) hG dX9_next_259 (by decide) ?_
          exact hret _ _ _ dX9_next_279 hspec.symm
        · rw [if_neg y] at hspec
          refine r_bipush (pc := 249) hG dX9_next_249 bc_120 ?_
          refine r_goto (pc := 251) (tgt := 256) hG dX9_next_251 (by decide) ?_
          refine pf_X9_token (pc := 256)  hG dX9_next_256 tw_1184 ?_
          show J G K (u2 (rpM M (M.2.1 30 3) (nI s) (nI e2) v2) 30 3 120) _ _ _
          rw [rp_3]
          refine r_goto (pc := 259) (tgt := 279) hG dX9_next_259 (by decide) ?_
          exact hret _ _ _ dX9_next_279 hspec.symm
    · rw [if_pos q] at hspec
      refine lp9_96 (by decide) hG hsz (tn (M.2.1 30 0) - (s + 1)) (s + 1) (by omega) ?_
      show J G K (rpM M (M.2.1 30 3) (nI s) (nI (nxW M (s + 1))) (M.2.1 30 4)) 135 _ []
      generalize nxW M (s + 1) = w at hspec ⊢
      refine r_aload_n (pc := 135) hG dX9_next_135 rfl ?_
      refine r_bipush (pc := 136) hG dX9_next_136 bc_119 ?_
      refine pf_X9_token (pc := 138)  hG dX9_next_138 tw_1184 ?_
      show J G K (u2 (rpM M (M.2.1 30 3) (nI s) (nI w) (M.2.1 30 4)) 30 3 119) _ _ _
      rw [rp_3]
      refine r_goto (pc := 141) (tgt := 279) hG dX9_next_141 (by decide) ?_
      exact hret _ _ _ dX9_next_279 hspec.symm
  · have hge : tn (M.2.1 30 0) ≤ s := by
      have := congrArg tn c
      rw [tn_nI (by omega)] at this
      omega
    rw [if_pos hge] at hspec
    refine r_aload_n (pc := 65) hG dX9_next_65 rfl ?_
    refine r_bipush (pc := 66) hG dX9_next_66 bc_101 ?_
    refine pf_X9_token (pc := 68)  hG dX9_next_68 tw_1184 ?_
    show J G K (u2 (rpM M (M.2.1 30 3) (nI s) (nI s) (M.2.1 30 4)) 30 3 101) _ _ _
    rw [rp_3]
    exact hret _ _ _ dX9_next_71 hspec.symm
