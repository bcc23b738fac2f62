theorem i_16 : (16 : Int32).toInt = 16 := by decide
theorem L_m5 : ∀ L, L < 2561 → (nI L - 5).toInt = (L : Int) - 5 := by decide +kernel
theorem lg_same (x : Int64) : lg_cmp x x = 0 := by simp [lg_cmp]
section SCR
variable {G : bpG} {κ : bpK} {cc : ByteArray} {nL : Nat} {own : String} {rt : Option FieldType} {R : Room} {pc : Nat} {lv : List (Option Value)} {st : List Value} {C : bpC} {M : bpM} {hl : Int64}
theorem r_sld (j : Nat) {x : Int32} {sb L : Nat} {xs : Nat → Int32} (X : Cx G κ cc nL own rt R) (hV : va_X sb L xs (ks κ) (ks κ).heap) (hbl : sb < (ks κ).heap.size) (hbA : ¬ bpA G sb) (hL2 : L ≤ 2560) (hx : x = nI j) (hj : j < L) (d : decode cc pc = .ok (.iaload, 1)) (k : Rn G κ (pc + 1) lv (.int (xs j) :: st) C M hl) : Rn G κ pc lv (.int x :: .ref sb :: st) C M hl := by
  subst hx
  intro H locs ls hP hS hLv
  refine va_sld X.1 X.2.1 hV hbl hbA hS (vp_in_nI hj (by omega)) d ?_
  rw [nIc (by omega)]
  exact k H locs ls hP hS hLv
theorem r_slen {sb L : Nat} {xs : Nat → Int32} (X : Cx G κ cc nL own rt R) (hV : va_X sb L xs (ks κ) (ks κ).heap) (hbl : sb < (ks κ).heap.size) (hbA : ¬ bpA G sb) (d : decode cc pc = .ok (.arraylength, 1)) (k : Rn G κ (pc + 1) lv (.int (nI L) :: st) C M hl) : Rn G κ pc lv (.ref sb :: st) C M hl := by
  intro H locs ls hP hS hLv
  exact va_slen X.1 X.2.1 hV hbl hbA hS d (k H locs ls hP hS hLv)
end SCR
set_option maxRecDepth 100000 in
set_option maxHeartbeats 4000000 in
theorem law_loop {G : bpG} {κ : bpK} {sb L : Nat} {xs : Nat → Int32} (X : Cx G κ cL_law 4 RL ret room_1) (hro : kn κ ≤ room_1.cells ∧ kS κ ≤ room_1.slots) (hV : va_X sb L xs (ks κ) (ks κ).heap) (hbl : sb < (ks κ).heap.size) (hbA : ¬ bpA G sb) (hL2 : L ≤ 2560) (hend : ∀ (C : bpC) (M : bpM) (hl : Int64) (lv : List (Option Value)), Rn G κ 607 lv [.int 1] C M hl) :
    ∀ (n i k : Nat) (C : bpC) (M : bpM) (hl : Int64), L < i + 5 * n → k ≤ i → i ≤ 2560 → RA C M 9 → Inv M k → Rn G κ 18 [some (.ref sb), some (.ref (G.1 0 0)), some (.ref (G.1 11 0)), some (.int (nI i))] [] C M hl := by
  have hm5 := L_m5 L (by omega)
  intro n
  induction n with
  | zero =>
    intro i k C M hl hn hk hi hR hI
    refine r_iload_n X dL_law_18 rfl ?_
    refine r_aload_n X dL_law_19 rfl ?_
    refine r_slen X hV hbl hbA dL_law_20 ?_
    refine r_iconst (5) X dL_law_21 (by decide) ?_
    refine r_isub X dL_law_22 ?_
    refine r_icmpgt 606 X dL_law_23 (by decide) (fun c23 => ?_) (fun c23 => absurd (by rw [i_lt, hm5, i_n (by omega)]; omega) c23)
    show Rn G κ 606 _ _ _ _ _
    refine r_iconst (1) X dL_law_606 (by decide) ?_
    exact hend _ _ _ _
  | succ n ih =>
    intro i k C M hl hn hk hi hR hI
    refine r_iload_n X dL_law_18 rfl ?_
    refine r_aload_n X dL_law_19 rfl ?_
    refine r_slen X hV hbl hbA dL_law_20 ?_
    refine r_iconst (5) X dL_law_21 (by decide) ?_
    refine r_isub X dL_law_22 ?_
    refine r_icmpgt 606 X dL_law_23 (by decide) (fun c23 => ?_) (fun c23 => ?_)
    · show Rn G κ 606 _ _ _ _ _
      refine r_iconst (1) X dL_law_606 (by decide) ?_
      exact hend _ _ _ _
    · have hi5 : i + 5 ≤ L := by rw [i_lt, hm5, i_n (by omega)] at c23; omega
      show Rn G κ 26 _ _ _ _ _
      refine r_aload_n X dL_law_26 rfl ?_
      refine r_iload_n X dL_law_27 rfl ?_
      refine r_sld i X hV hbl hbA hL2 rfl (by omega) dL_law_28 ?_
      refine r_bipush (31) X dL_law_29 (by decide) ?_
      refine r_iand X dL_law_31 ?_
      generalize xs i &&& 31 = v
      by_cases hw : 0 ≤ v ∧ v ≤ 16
      · obtain ⟨w, hw2, rfl⟩ := rng_of (n := 16) (by decide) hw.1 hw.2
        rcases (show w = 0 ∨ w = 1 ∨ w = 2 ∨ w = 3 ∨ w = 4 ∨ w = 5 ∨ w = 6 ∨ w = 7 ∨ w = 8 ∨ w = 9 ∨ w = 10 ∨ w = 11 ∨ w = 12 ∨ w = 13 ∨ w = 14 ∨ w = 15 ∨ w = 16 by omega) with rfl | rfl | rfl | rfl | rfl | rfl | rfl | rfl | rfl | rfl | rfl | rfl | rfl | rfl | rfl | rfl | rfl
        · refine r_tblIn (off := 84) 116 X dL_law_32 (by decide) (by decide) (by decide) (by decide) ?_
          refine r_aload_n X dL_law_116 rfl ?_
          refine r_aload_n X dL_law_117 rfl ?_
          refine r_iload_n X dL_law_118 rfl ?_
          refine r_iconst (1) X dL_law_119 (by decide) ?_
          refine r_iadd X dL_law_120 ?_
          refine r_sld (i + 1) X hV hbl hbA hL2 (show nI i + (1 : Int32) = nI (i + 1) from nI_add i 1) (by omega) dL_law_121 ?_
          refine r_cv1_Ci X mdX4_letter wml_L_13 dL_law_122 ⟨rfl, rfl, Nat.le_of_ble_eq_true rfl, Nat.le_of_ble_eq_true rfl⟩ (by decide) rfl rfl (Nat.le_of_ble_eq_true rfl) rfl hro (c_letter hR hI) (fun C2 r2 e2 => ?_)
          obtain ⟨hR2, rfl⟩ := e2
          show Rn G κ 125 _ _ _ _ _
          show Rn G κ 125 _ _ _ _ _
          refine r_aload_n X dL_law_125 rfl ?_
          refine r_aload_n X dL_law_126 rfl ?_
          refine r_iload_n X dL_law_127 rfl ?_
          refine r_iconst (1) X dL_law_128 (by decide) ?_
          refine r_iadd X dL_law_129 ?_
          refine r_sld (i + 1) X hV hbl hbA hL2 (show nI i + (1 : Int32) = nI (i + 1) from nI_add i 1) (by omega) dL_law_130 ?_
          refine r_cv1_Mi X mdX5_letter wml_L_17 dL_law_131 ⟨rfl, rfl, Nat.le_of_ble_eq_true rfl, Nat.le_of_ble_eq_true rfl⟩ (by decide) rfl rfl (Nat.le_of_ble_eq_true rfl) rfl hro (m_letter hI) (fun M2 r3 e3 => ?_)
          obtain ⟨rfl, rfl⟩ := e3
          show Rn G κ 134 _ _ _ _ _
          refine r_icmpeq 600 X dL_law_134 (by decide) (fun c134 => ?_) (fun c134 => absurd rfl c134)
          show Rn G κ 600 _ _ _ _ _
          show Rn G κ 600 _ _ _ _ _
          refine r_iinc_3 (nI (i + 5)) X dL_law_600 (nI_add i 5) rfl ?_
          refine r_goto 18 X dL_law_603 (by decide) ?_
          exact ih (i + 5) k _ _ _ (by omega) (by omega) (by omega) hR2 (Inv_letter _ hI)
        · refine r_tblIn (off := 107) 139 X dL_law_32 (by decide) (by decide) (by decide) (by decide) ?_
          refine r_aload_n X dL_law_139 rfl ?_
          refine r_cv0_Ci X mdX4_blank wml_L_18 dL_law_140 ⟨rfl, rfl, Nat.le_of_ble_eq_true rfl, Nat.le_of_ble_eq_true rfl⟩ (by decide) rfl rfl (Nat.le_of_ble_eq_true rfl) rfl hro (c_blank hR) (fun C2 r2 e2 => ?_)
          obtain ⟨hR2, rfl⟩ := e2
          show Rn G κ 143 _ _ _ _ _
          refine r_aload_n X dL_law_143 rfl ?_
          refine r_cv0_Mi X mdX5_blank wml_L_22 dL_law_144 ⟨rfl, rfl, Nat.le_of_ble_eq_true rfl, Nat.le_of_ble_eq_true rfl⟩ (by decide) rfl rfl (Nat.le_of_ble_eq_true rfl) rfl hro (m_blank) (fun M2 r3 e3 => ?_)
          obtain ⟨rfl, rfl⟩ := e3
          show Rn G κ 147 _ _ _ _ _
          refine r_icmpeq 600 X dL_law_147 (by decide) (fun c147 => ?_) (fun c147 => absurd rfl c147)
          show Rn G κ 600 _ _ _ _ _
          refine r_iinc_3 (nI (i + 5)) X dL_law_600 (nI_add i 5) rfl ?_
          refine r_goto 18 X dL_law_603 (by decide) ?_
          exact ih (i + 5) k _ _ _ (by omega) (by omega) (by omega) hR2 (Inv_blank hI)
        · refine r_tblIn (off := 120) 152 X dL_law_32 (by decide) (by decide) (by decide) (by decide) ?_
          refine r_aload_n X dL_law_152 rfl ?_
          refine r_cv0_I X mdX4_fault wml_L_23 dL_law_153 ⟨rfl, rfl, Nat.le_of_ble_eq_true rfl, Nat.le_of_ble_eq_true rfl⟩ (by decide) rfl rfl (Nat.le_of_ble_eq_true rfl) rfl hro (c_fault hR hI) ?_
          show Rn G κ 156 _ _ _ _ _
          refine r_aload_n X dL_law_156 rfl ?_
          refine r_cv0_I X mdX5_fault wml_L_26 dL_law_157 ⟨rfl, rfl, Nat.le_of_ble_eq_true rfl, Nat.le_of_ble_eq_true rfl⟩ (by decide) rfl rfl (Nat.le_of_ble_eq_true rfl) rfl hro (m_fault hI.2.2.2.2) ?_
          show Rn G κ 160 _ _ _ _ _
          refine r_icmpeq 600 X dL_law_160 (by decide) (fun c160 => ?_) (fun c160 => absurd rfl c160)
          show Rn G κ 600 _ _ _ _ _
          refine r_iinc_3 (nI (i + 5)) X dL_law_600 (nI_add i 5) rfl ?_
          refine r_goto 18 X dL_law_603 (by decide) ?_
          exact ih (i + 5) k _ _ _ (by omega) (by omega) (by omega) hR hI
        · refine r_tblIn (off := 133) 165 X dL_law_32 (by decide) (by decide) (by decide) (by decide) ?_
          refine r_aload_n X dL_law_165 rfl ?_
          refine r_cv0_Ci X mdX4_board wml_L_27 dL_law_166 ⟨rfl, rfl, Nat.le_of_ble_eq_true rfl, Nat.le_of_ble_eq_true rfl⟩ (by decide) rfl rfl (Nat.le_of_ble_eq_true rfl) rfl hro (c_board hR hI) (fun C2 r2 e2 => ?_)
          obtain ⟨hR2, rfl⟩ := e2
          show Rn G κ 169 _ _ _ _ _
          refine r_aload_n X dL_law_169 rfl ?_
          refine r_cv0_Mi X mdX5_board wml_L_30 dL_law_170 ⟨rfl, rfl, Nat.le_of_ble_eq_true rfl, Nat.le_of_ble_eq_true rfl⟩ (by decide) rfl rfl (Nat.le_of_ble_eq_true rfl) rfl hro (m_board hI) (fun M2 r3 e3 => ?_)
          obtain ⟨rfl, rfl⟩ := e3
          show Rn G κ 173 _ _ _ _ _
          refine r_icmpeq 600 X dL_law_173 (by decide) (fun c173 => ?_) (fun c173 => absurd rfl c173)
          show Rn G κ 600 _ _ _ _ _
          refine r_iinc_3 (nI (i + 5)) X dL_law_600 (nI_add i 5) rfl ?_
          refine r_goto 18 X dL_law_603 (by decide) ?_
          exact ih (i + 5) k _ _ _ (by omega) (by omega) (by omega) hR2 (Inv_board hI)
        · refine r_tblIn (off := 146) 178 X dL_law_32 (by decide) (by decide) (by decide) (by decide) ?_
          refine r_aload_n X dL_law_178 rfl ?_
          refine r_aload_n X dL_law_179 rfl ?_
          refine r_iload_n X dL_law_180 rfl ?_
          refine r_iconst (1) X dL_law_181 (by decide) ?_
          refine r_iadd X dL_law_182 ?_
          refine r_sld (i + 1) X hV hbl hbA hL2 (show nI i + (1 : Int32) = nI (i + 1) from nI_add i 1) (by omega) dL_law_183 ?_
          refine r_aload_n X dL_law_184 rfl ?_
          show Rn G κ 185 _ _ _ _ _
          refine r_iload_n X dL_law_185 rfl ?_
          refine r_iconst (2) X dL_law_186 (by decide) ?_
          refine r_iadd X dL_law_187 ?_
          refine r_sld (i + 2) X hV hbl hbA hL2 (show nI i + (2 : Int32) = nI (i + 2) from nI_add i 2) (by omega) dL_law_188 ?_
          refine r_cv2_Ci X mdX4_set wml_L_31 dL_law_189 ⟨rfl, rfl, Nat.le_of_ble_eq_true rfl, Nat.le_of_ble_eq_true rfl⟩ (by decide) rfl rfl (Nat.le_of_ble_eq_true rfl) rfl hro (c_set hR hI) (fun C2 r2 e2 => ?_)
          obtain ⟨hR2, rfl⟩ := e2
          show Rn G κ 192 _ _ _ _ _
          refine r_aload_n X dL_law_192 rfl ?_
          refine r_aload_n X dL_law_193 rfl ?_
          refine r_iload_n X dL_law_194 rfl ?_
          show Rn G κ 195 _ _ _ _ _
          refine r_iconst (1) X dL_law_195 (by decide) ?_
          refine r_iadd X dL_law_196 ?_
          refine r_sld (i + 1) X hV hbl hbA hL2 (show nI i + (1 : Int32) = nI (i + 1) from nI_add i 1) (by omega) dL_law_197 ?_
          refine r_aload_n X dL_law_198 rfl ?_
          refine r_iload_n X dL_law_199 rfl ?_
          refine r_iconst (2) X dL_law_200 (by decide) ?_
          refine r_iadd X dL_law_201 ?_
          refine r_sld (i + 2) X hV hbl hbA hL2 (show nI i + (2 : Int32) = nI (i + 2) from nI_add i 2) (by omega) dL_law_202 ?_
          show Rn G κ 203 _ _ _ _ _
          refine r_cv2_Mi X mdX5_set wml_L_35 dL_law_203 ⟨rfl, rfl, Nat.le_of_ble_eq_true rfl, Nat.le_of_ble_eq_true rfl⟩ (by decide) rfl rfl (Nat.le_of_ble_eq_true rfl) rfl hro (m_set hI) (fun M2 r3 e3 => ?_)
          obtain ⟨rfl, rfl⟩ := e3
          show Rn G κ 206 _ _ _ _ _
          refine r_icmpeq 600 X dL_law_206 (by decide) (fun c206 => ?_) (fun c206 => absurd rfl c206)
          show Rn G κ 600 _ _ _ _ _
          refine r_iinc_3 (nI (i + 5)) X dL_law_600 (nI_add i 5) rfl ?_
          refine r_goto 18 X dL_law_603 (by decide) ?_
          exact ih (i + 5) k _ _ _ (by omega) (by omega) (by omega) hR2 (Inv_set _ _ hI)
        · refine r_tblIn (off := 179) 211 X dL_law_32 (by decide) (by decide) (by decide) (by decide) ?_
          refine r_aload_n X dL_law_211 rfl ?_
          refine r_aload_n X dL_law_212 rfl ?_
          refine r_iload_n X dL_law_213 rfl ?_
          refine r_iconst (1) X dL_law_214 (by decide) ?_
          refine r_iadd X dL_law_215 ?_
          refine r_sld (i + 1) X hV hbl hbA hL2 (show nI i + (1 : Int32) = nI (i + 1) from nI_add i 1) (by omega) dL_law_216 ?_
          refine r_aload_n X dL_law_217 rfl ?_
          show Rn G κ 218 _ _ _ _ _
          refine r_iload_n X dL_law_218 rfl ?_
          refine r_iconst (2) X dL_law_219 (by decide) ?_
          refine r_iadd X dL_law_220 ?_
          refine r_sld (i + 2) X hV hbl hbA hL2 (show nI i + (2 : Int32) = nI (i + 2) from nI_add i 2) (by omega) dL_law_221 ?_
          refine r_cv2_Ci X mdX4_rank wml_L_36 dL_law_222 ⟨rfl, rfl, Nat.le_of_ble_eq_true rfl, Nat.le_of_ble_eq_true rfl⟩ (by decide) rfl rfl (Nat.le_of_ble_eq_true rfl) rfl hro (c_rank hR hI) (fun C2 r2 e2 => ?_)
          obtain ⟨hR2, rfl⟩ := e2
          show Rn G κ 225 _ _ _ _ _
          refine r_aload_n X dL_law_225 rfl ?_
          refine r_aload_n X dL_law_226 rfl ?_
          refine r_iload_n X dL_law_227 rfl ?_
          show Rn G κ 228 _ _ _ _ _
          refine r_iconst (1) X dL_law_228 (by decide) ?_
          refine r_iadd X dL_law_229 ?_
          refine r_sld (i + 1) X hV hbl hbA hL2 (show nI i + (1 : Int32) = nI (i + 1) from nI_add i 1) (by omega) dL_law_230 ?_
          refine r_aload_n X dL_law_231 rfl ?_
          refine r_iload_n X dL_law_232 rfl ?_
          refine r_iconst (2) X dL_law_233 (by decide) ?_
          refine r_iadd X dL_law_234 ?_
          refine r_sld (i + 2) X hV hbl hbA hL2 (show nI i + (2 : Int32) = nI (i + 2) from nI_add i 2) (by omega) dL_law_235 ?_
          show Rn G κ 236 _ _ _ _ _
          refine r_cv2_Mi X mdX5_rank wml_L_39 dL_law_236 ⟨rfl, rfl, Nat.le_of_ble_eq_true rfl, Nat.le_of_ble_eq_true rfl⟩ (by decide) rfl rfl (Nat.le_of_ble_eq_true rfl) rfl hro (m_rank hI) (fun M2 r3 e3 => ?_)
          obtain ⟨rfl, rfl⟩ := e3
          show Rn G κ 239 _ _ _ _ _
          refine r_icmpeq 600 X dL_law_239 (by decide) (fun c239 => ?_) (fun c239 => absurd rfl c239)
          show Rn G κ 600 _ _ _ _ _
          refine r_iinc_3 (nI (i + 5)) X dL_law_600 (nI_add i 5) rfl ?_
          refine r_goto 18 X dL_law_603 (by decide) ?_
          exact ih (i + 5) k _ _ _ (by omega) (by omega) (by omega) hR2 (Inv_rank _ _ hI)
        · refine r_tblIn (off := 212) 244 X dL_law_32 (by decide) (by decide) (by decide) (by decide) ?_
          refine r_aload_n X dL_law_244 rfl ?_
          refine r_aload_n X dL_law_245 rfl ?_
          refine r_iload_n X dL_law_246 rfl ?_
          refine r_iconst (1) X dL_law_247 (by decide) ?_
          refine r_iadd X dL_law_248 ?_
          refine r_sld (i + 1) X hV hbl hbA hL2 (show nI i + (1 : Int32) = nI (i + 1) from nI_add i 1) (by omega) dL_law_249 ?_
          refine r_aload_n X dL_law_250 rfl ?_
          show Rn G κ 251 _ _ _ _ _
          refine r_iload_n X dL_law_251 rfl ?_
          refine r_iconst (2) X dL_law_252 (by decide) ?_
          refine r_iadd X dL_law_253 ?_
          refine r_sld (i + 2) X hV hbl hbA hL2 (show nI i + (2 : Int32) = nI (i + 2) from nI_add i 2) (by omega) dL_law_254 ?_
          refine r_ifeq 262 X dL_law_255 (by decide) (fun c255 => ?_) (fun c255 => ?_)
          · show Rn G κ 262 _ _ _ _ _
            refine r_iconst (0) X dL_law_262 (by decide) ?_
            refine r_cv2_Ci X mdX4_up wml_L_40 dL_law_263 ⟨rfl, rfl, Nat.le_of_ble_eq_true rfl, Nat.le_of_ble_eq_true rfl⟩ (by decide) rfl rfl (Nat.le_of_ble_eq_true rfl) rfl hro (c_up (by decide) hR hI) (fun C2 r2 e2 => ?_)
            obtain ⟨hR2, rfl⟩ := e2
            show Rn G κ 266 _ _ _ _ _
            refine r_aload_n X dL_law_266 rfl ?_
            refine r_aload_n X dL_law_267 rfl ?_
            refine r_iload_n X dL_law_268 rfl ?_
            refine r_iconst (1) X dL_law_269 (by decide) ?_
            refine r_iadd X dL_law_270 ?_
            show Rn G κ 271 _ _ _ _ _
            refine r_sld (i + 1) X hV hbl hbA hL2 (show nI i + (1 : Int32) = nI (i + 1) from nI_add i 1) (by omega) dL_law_271 ?_
            refine r_aload_n X dL_law_272 rfl ?_
            refine r_iload_n X dL_law_273 rfl ?_
            refine r_iconst (2) X dL_law_274 (by decide) ?_
            refine r_iadd X dL_law_275 ?_
            refine r_sld (i + 2) X hV hbl hbA hL2 (show nI i + (2 : Int32) = nI (i + 2) from nI_add i 2) (by omega) dL_law_276 ?_
            refine r_ifeq 284 X dL_law_277 (by decide) (fun c277 => ?_) (fun c277 => absurd c255 c277)
            show Rn G κ 284 _ _ _ _ _
            refine r_iconst (0) X dL_law_284 (by decide) ?_
            show Rn G κ 285 _ _ _ _ _
            refine r_cv2_Mi X mdX5_up wml_L_44 dL_law_285 ⟨rfl, rfl, Nat.le_of_ble_eq_true rfl, Nat.le_of_ble_eq_true rfl⟩ (by decide) rfl rfl (Nat.le_of_ble_eq_true rfl) rfl hro (m_up (by decide) hI) (fun M2 r3 e3 => ?_)
            obtain ⟨⟨z, rfl⟩, rfl⟩ := e3
            show Rn G κ 288 _ _ _ _ _
            refine r_icmpeq 600 X dL_law_288 (by decide) (fun c288 => ?_) (fun c288 => absurd rfl c288)
            show Rn G κ 600 _ _ _ _ _
            refine r_iinc_3 (nI (i + 5)) X dL_law_600 (nI_add i 5) rfl ?_
            refine r_goto 18 X dL_law_603 (by decide) ?_
            exact ih (i + 5) k _ _ _ (by omega) (by omega) (by omega) (s28_RA hR2) (s28_Inv (Inv_up _ _ (by decide) hI))
          · show Rn G κ 258 _ _ _ _ _
            refine r_iconst (1) X dL_law_258 (by decide) ?_
            refine r_goto 263 X dL_law_259 (by decide) ?_
            refine r_cv2_Ci X mdX4_up wml_L_40 dL_law_263 ⟨rfl, rfl, Nat.le_of_ble_eq_true rfl, Nat.le_of_ble_eq_true rfl⟩ (by decide) rfl rfl (Nat.le_of_ble_eq_true rfl) rfl hro (c_up (by decide) hR hI) (fun C2 r2 e2 => ?_)
            obtain ⟨hR2, rfl⟩ := e2
            show Rn G κ 266 _ _ _ _ _
            refine r_aload_n X dL_law_266 rfl ?_
            refine r_aload_n X dL_law_267 rfl ?_
            refine r_iload_n X dL_law_268 rfl ?_
            refine r_iconst (1) X dL_law_269 (by decide) ?_
            show Rn G κ 270 _ _ _ _ _
            refine r_iadd X dL_law_270 ?_
            refine r_sld (i + 1) X hV hbl hbA hL2 (show nI i + (1 : Int32) = nI (i + 1) from nI_add i 1) (by omega) dL_law_271 ?_
            refine r_aload_n X dL_law_272 rfl ?_
            refine r_iload_n X dL_law_273 rfl ?_
            refine r_iconst (2) X dL_law_274 (by decide) ?_
            refine r_iadd X dL_law_275 ?_
            refine r_sld (i + 2) X hV hbl hbA hL2 (show nI i + (2 : Int32) = nI (i + 2) from nI_add i 2) (by omega) dL_law_276 ?_
            refine r_ifeq 284 X dL_law_277 (by decide) (fun c277 => absurd c277 c255) (fun c277 => ?_)
            show Rn G κ 280 _ _ _ _ _
            show Rn G κ 280 _ _ _ _ _
            refine r_iconst (1) X dL_law_280 (by decide) ?_
            refine r_goto 285 X dL_law_281 (by decide) ?_
            refine r_cv2_Mi X mdX5_up wml_L_44 dL_law_285 ⟨rfl, rfl, Nat.le_of_ble_eq_true rfl, Nat.le_of_ble_eq_true rfl⟩ (by decide) rfl rfl (Nat.le_of_ble_eq_true rfl) rfl hro (m_up (by decide) hI) (fun M2 r3 e3 => ?_)
            obtain ⟨⟨z, rfl⟩, rfl⟩ := e3
            show Rn G κ 288 _ _ _ _ _
            refine r_icmpeq 600 X dL_law_288 (by decide) (fun c288 => ?_) (fun c288 => absurd rfl c288)
            show Rn G κ 600 _ _ _ _ _
            refine r_iinc_3 (nI (i + 5)) X dL_law_600 (nI_add i 5) rfl ?_
            refine r_goto 18 X dL_law_603 (by decide) ?_
            exact ih (i + 5) k _ _ _ (by omega) (by omega) (by omega) (s28_RA hR2) (s28_Inv (Inv_up _ _ (by decide) hI))
        · refine r_tblIn (off := 261) 293 X dL_law_32 (by decide) (by decide) (by decide) (by decide) ?_
          refine r_aload_n X dL_law_293 rfl ?_
          refine r_aload_n X dL_law_294 rfl ?_
          refine r_iload_n X dL_law_295 rfl ?_
          refine r_iconst (1) X dL_law_296 (by decide) ?_
          refine r_iadd X dL_law_297 ?_
          refine r_sld (i + 1) X hV hbl hbA hL2 (show nI i + (1 : Int32) = nI (i + 1) from nI_add i 1) (by omega) dL_law_298 ?_
          refine r_aload_n X dL_law_299 rfl ?_
          show Rn G κ 300 _ _ _ _ _
          refine r_iload_n X dL_law_300 rfl ?_
          refine r_iconst (2) X dL_law_301 (by decide) ?_
          refine r_iadd X dL_law_302 ?_
          refine r_sld (i + 2) X hV hbl hbA hL2 (show nI i + (2 : Int32) = nI (i + 2) from nI_add i 2) (by omega) dL_law_303 ?_
          refine r_aload_n X dL_law_304 rfl ?_
          refine r_iload_n X dL_law_305 rfl ?_
          refine r_iconst (3) X dL_law_306 (by decide) ?_
          refine r_iadd X dL_law_307 ?_
          show Rn G κ 308 _ _ _ _ _
          refine r_sld (i + 3) X hV hbl hbA hL2 (show nI i + (3 : Int32) = nI (i + 3) from nI_add i 3) (by omega) dL_law_308 ?_
          refine r_aload_n X dL_law_309 rfl ?_
          refine r_iload_n X dL_law_310 rfl ?_
          refine r_iconst (4) X dL_law_311 (by decide) ?_
          refine r_iadd X dL_law_312 ?_
          refine r_sld (i + 4) X hV hbl hbA hL2 (show nI i + (4 : Int32) = nI (i + 4) from nI_add i 4) (by omega) dL_law_313 ?_
          refine r_ifeq 321 X dL_law_314 (by decide) (fun c314 => ?_) (fun c314 => ?_)
          · show Rn G κ 321 _ _ _ _ _
            refine r_iconst (0) X dL_law_321 (by decide) ?_
            refine r_cv4_Ci X mdX4_hear wml_L_45 dL_law_322 ⟨rfl, rfl, Nat.le_of_ble_eq_true rfl, Nat.le_of_ble_eq_true rfl⟩ (by decide) rfl rfl (Nat.le_of_ble_eq_true rfl) rfl hro (c_hear (by decide) hR hI) (fun C2 r2 e2 => ?_)
            obtain ⟨hR2, rfl⟩ := e2
            show Rn G κ 325 _ _ _ _ _
            refine r_aload_n X dL_law_325 rfl ?_
            refine r_aload_n X dL_law_326 rfl ?_
            refine r_iload_n X dL_law_327 rfl ?_
            refine r_iconst (1) X dL_law_328 (by decide) ?_
            refine r_iadd X dL_law_329 ?_
            show Rn G κ 330 _ _ _ _ _
            refine r_sld (i + 1) X hV hbl hbA hL2 (show nI i + (1 : Int32) = nI (i + 1) from nI_add i 1) (by omega) dL_law_330 ?_
            refine r_aload_n X dL_law_331 rfl ?_
            refine r_iload_n X dL_law_332 rfl ?_
            refine r_iconst (2) X dL_law_333 (by decide) ?_
            refine r_iadd X dL_law_334 ?_
            refine r_sld (i + 2) X hV hbl hbA hL2 (show nI i + (2 : Int32) = nI (i + 2) from nI_add i 2) (by omega) dL_law_335 ?_
            refine r_aload_n X dL_law_336 rfl ?_
            refine r_iload_n X dL_law_337 rfl ?_
            show Rn G κ 338 _ _ _ _ _
            refine r_iconst (3) X dL_law_338 (by decide) ?_
            refine r_iadd X dL_law_339 ?_
            refine r_sld (i + 3) X hV hbl hbA hL2 (show nI i + (3 : Int32) = nI (i + 3) from nI_add i 3) (by omega) dL_law_340 ?_
            refine r_aload_n X dL_law_341 rfl ?_
            refine r_iload_n X dL_law_342 rfl ?_
            refine r_iconst (4) X dL_law_343 (by decide) ?_
            refine r_iadd X dL_law_344 ?_
            refine r_sld (i + 4) X hV hbl hbA hL2 (show nI i + (4 : Int32) = nI (i + 4) from nI_add i 4) (by omega) dL_law_345 ?_
            show Rn G κ 346 _ _ _ _ _
            refine r_ifeq 353 X dL_law_346 (by decide) (fun c346 => ?_) (fun c346 => absurd c314 c346)
            show Rn G κ 353 _ _ _ _ _
            refine r_iconst (0) X dL_law_353 (by decide) ?_
            refine r_cv4_Mi X mdX5_hear wml_L_49 dL_law_354 ⟨rfl, rfl, Nat.le_of_ble_eq_true rfl, Nat.le_of_ble_eq_true rfl⟩ (by decide) rfl rfl (Nat.le_of_ble_eq_true rfl) rfl hro (m_hear (by decide) hI) (fun M2 r3 e3 => ?_)
            obtain ⟨rfl, rfl⟩ := e3
            show Rn G κ 357 _ _ _ _ _
            refine r_icmpeq 600 X dL_law_357 (by decide) (fun c357 => ?_) (fun c357 => absurd rfl c357)
            show Rn G κ 600 _ _ _ _ _
            refine r_iinc_3 (nI (i + 5)) X dL_law_600 (nI_add i 5) rfl ?_
            refine r_goto 18 X dL_law_603 (by decide) ?_
            exact ih (i + 5) k _ _ _ (by omega) (by omega) (by omega) hR2 (Inv_hear _ _ _ _ (by decide) hI)
          · show Rn G κ 317 _ _ _ _ _
            refine r_iconst (1) X dL_law_317 (by decide) ?_
            refine r_goto 322 X dL_law_318 (by decide) ?_
            refine r_cv4_Ci X mdX4_hear wml_L_45 dL_law_322 ⟨rfl, rfl, Nat.le_of_ble_eq_true rfl, Nat.le_of_ble_eq_true rfl⟩ (by decide) rfl rfl (Nat.le_of_ble_eq_true rfl) rfl hro (c_hear (by decide) hR hI) (fun C2 r2 e2 => ?_)
            obtain ⟨hR2, rfl⟩ := e2
            show Rn G κ 325 _ _ _ _ _
            refine r_aload_n X dL_law_325 rfl ?_
            refine r_aload_n X dL_law_326 rfl ?_
            refine r_iload_n X dL_law_327 rfl ?_
            refine r_iconst (1) X dL_law_328 (by decide) ?_
            show Rn G κ 329 _ _ _ _ _
            refine r_iadd X dL_law_329 ?_
            refine r_sld (i + 1) X hV hbl hbA hL2 (show nI i + (1 : Int32) = nI (i + 1) from nI_add i 1) (by omega) dL_law_330 ?_
            refine r_aload_n X dL_law_331 rfl ?_
            refine r_iload_n X dL_law_332 rfl ?_
            refine r_iconst (2) X dL_law_333 (by decide) ?_
            refine r_iadd X dL_law_334 ?_
            refine r_sld (i + 2) X hV hbl hbA hL2 (show nI i + (2 : Int32) = nI (i + 2) from nI_add i 2) (by omega) dL_law_335 ?_
            refine r_aload_n X dL_law_336 rfl ?_
            show Rn G κ 337 _ _ _ _ _
            refine r_iload_n X dL_law_337 rfl ?_
            refine r_iconst (3) X dL_law_338 (by decide) ?_
            refine r_iadd X dL_law_339 ?_
            refine r_sld (i + 3) X hV hbl hbA hL2 (show nI i + (3 : Int32) = nI (i + 3) from nI_add i 3) (by omega) dL_law_340 ?_
            refine r_aload_n X dL_law_341 rfl ?_
            refine r_iload_n X dL_law_342 rfl ?_
            refine r_iconst (4) X dL_law_343 (by decide) ?_
            refine r_iadd X dL_law_344 ?_
            show Rn G κ 345 _ _ _ _ _
            refine r_sld (i + 4) X hV hbl hbA hL2 (show nI i + (4 : Int32) = nI (i + 4) from nI_add i 4) (by omega) dL_law_345 ?_
            refine r_ifeq 353 X dL_law_346 (by decide) (fun c346 => absurd c346 c314) (fun c346 => ?_)
            show Rn G κ 349 _ _ _ _ _
            refine r_iconst (1) X dL_law_349 (by decide) ?_
            refine r_goto 354 X dL_law_350 (by decide) ?_
            refine r_cv4_Mi X mdX5_hear wml_L_49 dL_law_354 ⟨rfl, rfl, Nat.le_of_ble_eq_true rfl, Nat.le_of_ble_eq_true rfl⟩ (by decide) rfl rfl (Nat.le_of_ble_eq_true rfl) rfl hro (m_hear (by decide) hI) (fun M2 r3 e3 => ?_)
            obtain ⟨rfl, rfl⟩ := e3
            show Rn G κ 357 _ _ _ _ _
            refine r_icmpeq 600 X dL_law_357 (by decide) (fun c357 => ?_) (fun c357 => absurd rfl c357)
            show Rn G κ 600 _ _ _ _ _
            refine r_iinc_3 (nI (i + 5)) X dL_law_600 (nI_add i 5) rfl ?_
            refine r_goto 18 X dL_law_603 (by decide) ?_
            exact ih (i + 5) k _ _ _ (by omega) (by omega) (by omega) hR2 (Inv_hear _ _ _ _ (by decide) hI)
        · refine r_tblIn (off := 330) 362 X dL_law_32 (by decide) (by decide) (by decide) (by decide) ?_
          refine r_aload_n X dL_law_362 rfl ?_
          refine r_aload_n X dL_law_363 rfl ?_
          refine r_iload_n X dL_law_364 rfl ?_
          refine r_iconst (1) X dL_law_365 (by decide) ?_
          refine r_iadd X dL_law_366 ?_
          refine r_sld (i + 1) X hV hbl hbA hL2 (show nI i + (1 : Int32) = nI (i + 1) from nI_add i 1) (by omega) dL_law_367 ?_
          refine r_aload_n X dL_law_368 rfl ?_
          show Rn G κ 369 _ _ _ _ _
          refine r_iload_n X dL_law_369 rfl ?_
          refine r_iconst (2) X dL_law_370 (by decide) ?_
          refine r_iadd X dL_law_371 ?_
          refine r_sld (i + 2) X hV hbl hbA hL2 (show nI i + (2 : Int32) = nI (i + 2) from nI_add i 2) (by omega) dL_law_372 ?_
          refine r_cv2_I X mdX4_of wml_L_50 dL_law_373 ⟨rfl, rfl, Nat.le_of_ble_eq_true rfl, Nat.le_of_ble_eq_true rfl⟩ (by decide) rfl rfl (Nat.le_of_ble_eq_true rfl) rfl hro (c_of hR hI) ?_
          show Rn G κ 376 _ _ _ _ _
          refine r_aload_n X dL_law_376 rfl ?_
          refine r_aload_n X dL_law_377 rfl ?_
          refine r_iload_n X dL_law_378 rfl ?_
          show Rn G κ 379 _ _ _ _ _
          refine r_iconst (1) X dL_law_379 (by decide) ?_
          refine r_iadd X dL_law_380 ?_
          refine r_sld (i + 1) X hV hbl hbA hL2 (show nI i + (1 : Int32) = nI (i + 1) from nI_add i 1) (by omega) dL_law_381 ?_
          refine r_aload_n X dL_law_382 rfl ?_
          refine r_iload_n X dL_law_383 rfl ?_
          refine r_iconst (2) X dL_law_384 (by decide) ?_
          refine r_iadd X dL_law_385 ?_
          refine r_sld (i + 2) X hV hbl hbA hL2 (show nI i + (2 : Int32) = nI (i + 2) from nI_add i 2) (by omega) dL_law_386 ?_
          show Rn G κ 387 _ _ _ _ _
          refine r_cv2_I X mdX5_of wml_L_53 dL_law_387 ⟨rfl, rfl, Nat.le_of_ble_eq_true rfl, Nat.le_of_ble_eq_true rfl⟩ (by decide) rfl rfl (Nat.le_of_ble_eq_true rfl) rfl hro (m_of hI) ?_
          show Rn G κ 390 _ _ _ _ _
          refine r_icmpeq 600 X dL_law_390 (by decide) (fun c390 => ?_) (fun c390 => absurd rfl c390)
          show Rn G κ 600 _ _ _ _ _
          refine r_iinc_3 (nI (i + 5)) X dL_law_600 (nI_add i 5) rfl ?_
          refine r_goto 18 X dL_law_603 (by decide) ?_
          exact ih (i + 5) k _ _ _ (by omega) (by omega) (by omega) hR hI
        · refine r_tblIn (off := 363) 395 X dL_law_32 (by decide) (by decide) (by decide) (by decide) ?_
          refine r_aload_n X dL_law_395 rfl ?_
          refine r_aload_n X dL_law_396 rfl ?_
          refine r_iload_n X dL_law_397 rfl ?_
          refine r_iconst (1) X dL_law_398 (by decide) ?_
          refine r_iadd X dL_law_399 ?_
          refine r_sld (i + 1) X hV hbl hbA hL2 (show nI i + (1 : Int32) = nI (i + 1) from nI_add i 1) (by omega) dL_law_400 ?_
          refine r_aload_n X dL_law_401 rfl ?_
          show Rn G κ 402 _ _ _ _ _
          refine r_iload_n X dL_law_402 rfl ?_
          refine r_iconst (2) X dL_law_403 (by decide) ?_
          refine r_iadd X dL_law_404 ?_
          refine r_sld (i + 2) X hV hbl hbA hL2 (show nI i + (2 : Int32) = nI (i + 2) from nI_add i 2) (by omega) dL_law_405 ?_
          refine r_cv2_I X mdX4_queue wml_L_54 dL_law_406 ⟨rfl, rfl, Nat.le_of_ble_eq_true rfl, Nat.le_of_ble_eq_true rfl⟩ (by decide) rfl rfl (Nat.le_of_ble_eq_true rfl) rfl hro (c_queue hR hI) ?_
          show Rn G κ 409 _ _ _ _ _
          refine r_aload_n X dL_law_409 rfl ?_
          refine r_aload_n X dL_law_410 rfl ?_
          refine r_iload_n X dL_law_411 rfl ?_
          show Rn G κ 412 _ _ _ _ _
          refine r_iconst (1) X dL_law_412 (by decide) ?_
          refine r_iadd X dL_law_413 ?_
          refine r_sld (i + 1) X hV hbl hbA hL2 (show nI i + (1 : Int32) = nI (i + 1) from nI_add i 1) (by omega) dL_law_414 ?_
          refine r_aload_n X dL_law_415 rfl ?_
          refine r_iload_n X dL_law_416 rfl ?_
          refine r_iconst (2) X dL_law_417 (by decide) ?_
          refine r_iadd X dL_law_418 ?_
          refine r_sld (i + 2) X hV hbl hbA hL2 (show nI i + (2 : Int32) = nI (i + 2) from nI_add i 2) (by omega) dL_law_419 ?_
          show Rn G κ 420 _ _ _ _ _
          refine r_cv2_I X mdX5_queue wml_L_57 dL_law_420 ⟨rfl, rfl, Nat.le_of_ble_eq_true rfl, Nat.le_of_ble_eq_true rfl⟩ (by decide) rfl rfl (Nat.le_of_ble_eq_true rfl) rfl hro (m_queue hI) ?_
          show Rn G κ 423 _ _ _ _ _
          refine r_icmpeq 600 X dL_law_423 (by decide) (fun c423 => ?_) (fun c423 => absurd rfl c423)
          show Rn G κ 600 _ _ _ _ _
          refine r_iinc_3 (nI (i + 5)) X dL_law_600 (nI_add i 5) rfl ?_
          refine r_goto 18 X dL_law_603 (by decide) ?_
          exact ih (i + 5) k _ _ _ (by omega) (by omega) (by omega) hR hI
        · refine r_tblIn (off := 396) 428 X dL_law_32 (by decide) (by decide) (by decide) (by decide) ?_
          refine r_aload_n X dL_law_428 rfl ?_
          refine r_aload_n X dL_law_429 rfl ?_
          refine r_iload_n X dL_law_430 rfl ?_
          refine r_iconst (1) X dL_law_431 (by decide) ?_
          refine r_iadd X dL_law_432 ?_
          refine r_sld (i + 1) X hV hbl hbA hL2 (show nI i + (1 : Int32) = nI (i + 1) from nI_add i 1) (by omega) dL_law_433 ?_
          refine r_aload_n X dL_law_434 rfl ?_
          show Rn G κ 435 _ _ _ _ _
          refine r_iload_n X dL_law_435 rfl ?_
          refine r_iconst (2) X dL_law_436 (by decide) ?_
          refine r_iadd X dL_law_437 ?_
          refine r_sld (i + 2) X hV hbl hbA hL2 (show nI i + (2 : Int32) = nI (i + 2) from nI_add i 2) (by omega) dL_law_438 ?_
          refine r_cv2_I X mdX4_key wml_L_58 dL_law_439 ⟨rfl, rfl, Nat.le_of_ble_eq_true rfl, Nat.le_of_ble_eq_true rfl⟩ (by decide) rfl rfl (Nat.le_of_ble_eq_true rfl) rfl hro (c_key hR hI) ?_
          show Rn G κ 442 _ _ _ _ _
          refine r_aload_n X dL_law_442 rfl ?_
          refine r_aload_n X dL_law_443 rfl ?_
          refine r_iload_n X dL_law_444 rfl ?_
          show Rn G κ 445 _ _ _ _ _
          refine r_iconst (1) X dL_law_445 (by decide) ?_
          refine r_iadd X dL_law_446 ?_
          refine r_sld (i + 1) X hV hbl hbA hL2 (show nI i + (1 : Int32) = nI (i + 1) from nI_add i 1) (by omega) dL_law_447 ?_
          refine r_aload_n X dL_law_448 rfl ?_
          refine r_iload_n X dL_law_449 rfl ?_
          refine r_iconst (2) X dL_law_450 (by decide) ?_
          refine r_iadd X dL_law_451 ?_
          refine r_sld (i + 2) X hV hbl hbA hL2 (show nI i + (2 : Int32) = nI (i + 2) from nI_add i 2) (by omega) dL_law_452 ?_
          show Rn G κ 453 _ _ _ _ _
          refine r_cv2_I X mdX5_key wml_L_61 dL_law_453 ⟨rfl, rfl, Nat.le_of_ble_eq_true rfl, Nat.le_of_ble_eq_true rfl⟩ (by decide) rfl rfl (Nat.le_of_ble_eq_true rfl) rfl hro (m_key hI) ?_
          show Rn G κ 456 _ _ _ _ _
          refine r_icmpeq 600 X dL_law_456 (by decide) (fun c456 => ?_) (fun c456 => absurd rfl c456)
          show Rn G κ 600 _ _ _ _ _
          refine r_iinc_3 (nI (i + 5)) X dL_law_600 (nI_add i 5) rfl ?_
          refine r_goto 18 X dL_law_603 (by decide) ?_
          exact ih (i + 5) k _ _ _ (by omega) (by omega) (by omega) hR hI
        · refine r_tblIn (off := 429) 461 X dL_law_32 (by decide) (by decide) (by decide) (by decide) ?_
          refine r_aload_n X dL_law_461 rfl ?_
          refine r_aload_n X dL_law_462 rfl ?_
          refine r_iload_n X dL_law_463 rfl ?_
          refine r_iconst (1) X dL_law_464 (by decide) ?_
          refine r_iadd X dL_law_465 ?_
          refine r_sld (i + 1) X hV hbl hbA hL2 (show nI i + (1 : Int32) = nI (i + 1) from nI_add i 1) (by omega) dL_law_466 ?_
          refine r_cv1_I X mdX4_way wml_L_62 dL_law_467 ⟨rfl, rfl, Nat.le_of_ble_eq_true rfl, Nat.le_of_ble_eq_true rfl⟩ (by decide) rfl rfl (Nat.le_of_ble_eq_true rfl) rfl hro (c_way hR hI) ?_
          show Rn G κ 470 _ _ _ _ _
          show Rn G κ 470 _ _ _ _ _
          refine r_aload_n X dL_law_470 rfl ?_
          refine r_aload_n X dL_law_471 rfl ?_
          refine r_iload_n X dL_law_472 rfl ?_
          refine r_iconst (1) X dL_law_473 (by decide) ?_
          refine r_iadd X dL_law_474 ?_
          refine r_sld (i + 1) X hV hbl hbA hL2 (show nI i + (1 : Int32) = nI (i + 1) from nI_add i 1) (by omega) dL_law_475 ?_
          refine r_cv1_I X mdX5_way wml_L_65 dL_law_476 ⟨rfl, rfl, Nat.le_of_ble_eq_true rfl, Nat.le_of_ble_eq_true rfl⟩ (by decide) rfl rfl (Nat.le_of_ble_eq_true rfl) rfl hro (m_way hI) ?_
          show Rn G κ 479 _ _ _ _ _
          refine r_icmpeq 600 X dL_law_479 (by decide) (fun c479 => ?_) (fun c479 => absurd rfl c479)
          show Rn G κ 600 _ _ _ _ _
          show Rn G κ 600 _ _ _ _ _
          refine r_iinc_3 (nI (i + 5)) X dL_law_600 (nI_add i 5) rfl ?_
          refine r_goto 18 X dL_law_603 (by decide) ?_
          exact ih (i + 5) k _ _ _ (by omega) (by omega) (by omega) hR hI
        · refine r_tblIn (off := 452) 484 X dL_law_32 (by decide) (by decide) (by decide) (by decide) ?_
          refine r_aload_n X dL_law_484 rfl ?_
          refine r_aload_n X dL_law_485 rfl ?_
          refine r_iload_n X dL_law_486 rfl ?_
          refine r_iconst (1) X dL_law_487 (by decide) ?_
          refine r_iadd X dL_law_488 ?_
          refine r_sld (i + 1) X hV hbl hbA hL2 (show nI i + (1 : Int32) = nI (i + 1) from nI_add i 1) (by omega) dL_law_489 ?_
          refine r_cv1_Ci X mdX4_send wml_L_66 dL_law_490 ⟨rfl, rfl, Nat.le_of_ble_eq_true rfl, Nat.le_of_ble_eq_true rfl⟩ (by decide) rfl rfl (Nat.le_of_ble_eq_true rfl) rfl hro (c_sendS hR hI) (fun C2 r2 e2 => ?_)
          obtain ⟨hR2, rfl⟩ := e2
          show Rn G κ 493 _ _ _ _ _
          show Rn G κ 493 _ _ _ _ _
          refine r_aload_n X dL_law_493 rfl ?_
          refine r_aload_n X dL_law_494 rfl ?_
          refine r_iload_n X dL_law_495 rfl ?_
          refine r_iconst (1) X dL_law_496 (by decide) ?_
          refine r_iadd X dL_law_497 ?_
          refine r_sld (i + 1) X hV hbl hbA hL2 (show nI i + (1 : Int32) = nI (i + 1) from nI_add i 1) (by omega) dL_law_498 ?_
          refine r_cv1_Mi X mdX5_send wml_L_69 dL_law_499 ⟨rfl, rfl, Nat.le_of_ble_eq_true rfl, Nat.le_of_ble_eq_true rfl⟩ (by decide) rfl rfl (Nat.le_of_ble_eq_true rfl) rfl hro (m_send hI) (fun M2 r3 e3 => ?_)
          obtain ⟨rfl, rfl⟩ := e3
          show Rn G κ 502 _ _ _ _ _
          refine r_icmpeq 600 X dL_law_502 (by decide) (fun c502 => ?_) (fun c502 => absurd rfl c502)
          show Rn G κ 600 _ _ _ _ _
          show Rn G κ 600 _ _ _ _ _
          refine r_iinc_3 (nI (i + 5)) X dL_law_600 (nI_add i 5) rfl ?_
          refine r_goto 18 X dL_law_603 (by decide) ?_
          exact ih (i + 5) (k + 1) _ _ _ (by omega) (by omega) (by omega) hR2 (Inv_send _ (by omega) hI)
        · refine r_tblIn (off := 475) 507 X dL_law_32 (by decide) (by decide) (by decide) (by decide) ?_
          refine r_aload_n X dL_law_507 rfl ?_
          refine r_aload_n X dL_law_508 rfl ?_
          refine r_iload_n X dL_law_509 rfl ?_
          refine r_iconst (1) X dL_law_510 (by decide) ?_
          refine r_iadd X dL_law_511 ?_
          refine r_sld (i + 1) X hV hbl hbA hL2 (show nI i + (1 : Int32) = nI (i + 1) from nI_add i 1) (by omega) dL_law_512 ?_
          refine r_aload_n X dL_law_513 rfl ?_
          show Rn G κ 514 _ _ _ _ _
          refine r_iload_n X dL_law_514 rfl ?_
          refine r_iconst (2) X dL_law_515 (by decide) ?_
          refine r_iadd X dL_law_516 ?_
          refine r_sld (i + 2) X hV hbl hbA hL2 (show nI i + (2 : Int32) = nI (i + 2) from nI_add i 2) (by omega) dL_law_517 ?_
          refine r_cv2_I X mdX4_flow wml_L_70 dL_law_518 ⟨rfl, rfl, Nat.le_of_ble_eq_true rfl, Nat.le_of_ble_eq_true rfl⟩ (by decide) rfl rfl (Nat.le_of_ble_eq_true rfl) rfl hro (c_flow hR hI) ?_
          show Rn G κ 521 _ _ _ _ _
          refine r_aload_n X dL_law_521 rfl ?_
          refine r_aload_n X dL_law_522 rfl ?_
          refine r_iload_n X dL_law_523 rfl ?_
          show Rn G κ 524 _ _ _ _ _
          refine r_iconst (1) X dL_law_524 (by decide) ?_
          refine r_iadd X dL_law_525 ?_
          refine r_sld (i + 1) X hV hbl hbA hL2 (show nI i + (1 : Int32) = nI (i + 1) from nI_add i 1) (by omega) dL_law_526 ?_
          refine r_aload_n X dL_law_527 rfl ?_
          refine r_iload_n X dL_law_528 rfl ?_
          refine r_iconst (2) X dL_law_529 (by decide) ?_
          refine r_iadd X dL_law_530 ?_
          refine r_sld (i + 2) X hV hbl hbA hL2 (show nI i + (2 : Int32) = nI (i + 2) from nI_add i 2) (by omega) dL_law_531 ?_
          show Rn G κ 532 _ _ _ _ _
          refine r_cv2_I X mdX5_flow wml_L_73 dL_law_532 ⟨rfl, rfl, Nat.le_of_ble_eq_true rfl, Nat.le_of_ble_eq_true rfl⟩ (by decide) rfl rfl (Nat.le_of_ble_eq_true rfl) rfl hro (m_flow hI) ?_
          show Rn G κ 535 _ _ _ _ _
          refine r_icmpeq 600 X dL_law_535 (by decide) (fun c535 => ?_) (fun c535 => absurd rfl c535)
          show Rn G κ 600 _ _ _ _ _
          refine r_iinc_3 (nI (i + 5)) X dL_law_600 (nI_add i 5) rfl ?_
          refine r_goto 18 X dL_law_603 (by decide) ?_
          exact ih (i + 5) k _ _ _ (by omega) (by omega) (by omega) hR hI
        · refine r_tblIn (off := 508) 540 X dL_law_32 (by decide) (by decide) (by decide) (by decide) ?_
          refine r_aload_n X dL_law_540 rfl ?_
          refine r_aload_n X dL_law_541 rfl ?_
          refine r_iload_n X dL_law_542 rfl ?_
          refine r_iconst (1) X dL_law_543 (by decide) ?_
          refine r_iadd X dL_law_544 ?_
          refine r_sld (i + 1) X hV hbl hbA hL2 (show nI i + (1 : Int32) = nI (i + 1) from nI_add i 1) (by omega) dL_law_545 ?_
          refine r_cv1_Ci X mdX4_tick wml_L_74 dL_law_546 ⟨rfl, rfl, Nat.le_of_ble_eq_true rfl, Nat.le_of_ble_eq_true rfl⟩ (by decide) rfl rfl (Nat.le_of_ble_eq_true rfl) rfl hro (c_tickS hR hI) (fun C2 r2 e2 => ?_)
          obtain ⟨hR2, rfl⟩ := e2
          show Rn G κ 549 _ _ _ _ _
          show Rn G κ 549 _ _ _ _ _
          refine r_aload_n X dL_law_549 rfl ?_
          refine r_aload_n X dL_law_550 rfl ?_
          refine r_iload_n X dL_law_551 rfl ?_
          refine r_iconst (1) X dL_law_552 (by decide) ?_
          refine r_iadd X dL_law_553 ?_
          refine r_sld (i + 1) X hV hbl hbA hL2 (show nI i + (1 : Int32) = nI (i + 1) from nI_add i 1) (by omega) dL_law_554 ?_
          refine r_cv1_Mi X mdX5_tick wml_L_77 dL_law_555 ⟨rfl, rfl, Nat.le_of_ble_eq_true rfl, Nat.le_of_ble_eq_true rfl⟩ (by decide) rfl rfl (Nat.le_of_ble_eq_true rfl) rfl hro (m_tick hI) (fun M2 r3 e3 => ?_)
          obtain ⟨rfl, rfl⟩ := e3
          show Rn G κ 558 _ _ _ _ _
          refine r_icmpeq 600 X dL_law_558 (by decide) (fun c558 => ?_) (fun c558 => absurd rfl c558)
          show Rn G κ 600 _ _ _ _ _
          show Rn G κ 600 _ _ _ _ _
          refine r_iinc_3 (nI (i + 5)) X dL_law_600 (nI_add i 5) rfl ?_
          refine r_goto 18 X dL_law_603 (by decide) ?_
          exact ih (i + 5) k _ _ _ (by omega) (by omega) (by omega) hR2 (Inv_tick _ hI)
        · refine r_tblIn (off := 531) 563 X dL_law_32 (by decide) (by decide) (by decide) (by decide) ?_
          refine r_aload_n X dL_law_563 rfl ?_
          refine r_aload_n X dL_law_564 rfl ?_
          refine r_iload_n X dL_law_565 rfl ?_
          refine r_iconst (1) X dL_law_566 (by decide) ?_
          refine r_iadd X dL_law_567 ?_
          refine r_sld (i + 1) X hV hbl hbA hL2 (show nI i + (1 : Int32) = nI (i + 1) from nI_add i 1) (by omega) dL_law_568 ?_
          refine r_cv1_I X mdX4_count wml_L_78 dL_law_569 ⟨rfl, rfl, Nat.le_of_ble_eq_true rfl, Nat.le_of_ble_eq_true rfl⟩ (by decide) rfl rfl (Nat.le_of_ble_eq_true rfl) rfl hro (c_count hR hI) ?_
          show Rn G κ 572 _ _ _ _ _
          show Rn G κ 572 _ _ _ _ _
          refine r_aload_n X dL_law_572 rfl ?_
          refine r_aload_n X dL_law_573 rfl ?_
          refine r_iload_n X dL_law_574 rfl ?_
          refine r_iconst (1) X dL_law_575 (by decide) ?_
          refine r_iadd X dL_law_576 ?_
          refine r_sld (i + 1) X hV hbl hbA hL2 (show nI i + (1 : Int32) = nI (i + 1) from nI_add i 1) (by omega) dL_law_577 ?_
          refine r_cv1_I X mdX5_count wml_L_81 dL_law_578 ⟨rfl, rfl, Nat.le_of_ble_eq_true rfl, Nat.le_of_ble_eq_true rfl⟩ (by decide) rfl rfl (Nat.le_of_ble_eq_true rfl) rfl hro (m_count) ?_
          show Rn G κ 581 _ _ _ _ _
          refine r_icmpeq 600 X dL_law_581 (by decide) (fun c581 => ?_) (fun c581 => absurd rfl c581)
          show Rn G κ 600 _ _ _ _ _
          show Rn G κ 600 _ _ _ _ _
          refine r_iinc_3 (nI (i + 5)) X dL_law_600 (nI_add i 5) rfl ?_
          refine r_goto 18 X dL_law_603 (by decide) ?_
          exact ih (i + 5) k _ _ _ (by omega) (by omega) (by omega) hR hI
        · refine r_tblIn (off := 554) 586 X dL_law_32 (by decide) (by decide) (by decide) (by decide) ?_
          refine r_aload_n X dL_law_586 rfl ?_
          refine r_cv0_L X mdX4_digest wml_L_82 dL_law_587 ⟨rfl, rfl, Nat.le_of_ble_eq_true rfl, Nat.le_of_ble_eq_true rfl⟩ (by decide) rfl rfl (Nat.le_of_ble_eq_true rfl) rfl hro (c_digest hR hI) ?_
          show Rn G κ 590 _ _ _ _ _
          refine r_aload_n X dL_law_590 rfl ?_
          refine r_cv0_Hl X mdX5_digest wml_L_86 dL_law_591 ⟨rfl, rfl, Nat.le_of_ble_eq_true rfl, Nat.le_of_ble_eq_true rfl⟩ (by decide) rfl rfl (Nat.le_of_ble_eq_true rfl) rfl hro (m_digest hI) (fun hl2 => ?_)
          show Rn G κ 594 _ _ _ _ _
          refine r_lcmp X dL_law_594 ?_
          refine r_ifeq 600 X dL_law_595 (by decide) (fun c595 => ?_) (fun c595 => absurd (lg_same _) c595)
          show Rn G κ 600 _ _ _ _ _
          refine r_iinc_3 (nI (i + 5)) X dL_law_600 (nI_add i 5) rfl ?_
          show Rn G κ 603 _ _ _ _ _
          refine r_goto 18 X dL_law_603 (by decide) ?_
          exact ih (i + 5) k _ _ _ (by omega) (by omega) (by omega) hR hI
      · have hout : v.toInt < 0 ∨ 16 < v.toInt := by rw [i_le, i_le, i_0, i_16] at hw; omega
        refine r_tblOut 600 X dL_law_32 hout (by decide) ?_
        refine r_iinc_3 (nI (i + 5)) X dL_law_600 (nI_add i 5) rfl ?_
        refine r_goto 18 X dL_law_603 (by decide) ?_
        exact ih (i + 5) k _ _ _ (by omega) (by omega) (by omega) hR hI
