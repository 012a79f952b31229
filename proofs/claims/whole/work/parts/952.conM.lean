set_option maxHeartbeats 4000000 in
set_option maxRecDepth 100000 in
theorem kX10_command (l : Launch) (D : va_G) (cI cZ cJ : ClassId) (sz : Nat) (q q_trial q_turned q_script q_readRow q_now q_diary q_kept q_isKept q_sums q_primes : Nat) (u_refusal : Int32) (u_scriptSize : Int32) (u_spot : Int32) (u_acts : Int32) (u_slides : Int32) (u_trial : Nat → Int32) (u_turned : Nat → Int32) (p0 : Int32) (r : Int32) (u_slides' : Int32) (u_trial' : Nat → Int32) (u_turned' : Nat → Int32) (hf : pX10_command u_slides u_trial u_turned p0 = some (r, u_slides', u_trial', u_turned')) : kMet l D cI cZ cJ yX10_command wsX10_command 5 122 [.ref q, .int p0] [(q, .inr (9, [.int u_refusal, .ref q_script, .int u_scriptSize, .int u_spot, .ref q_readRow, .ref q_now, .ref q_trial, .ref q_diary, .int u_acts, .ref q_kept, .ref q_isKept, .int u_slides, .ref q_sums, .ref q_primes, .ref q_turned])), (q_trial, .inl (cI, 84, .inl u_trial)), (q_turned, .inl (cI, 42, .inl u_turned))] sz (some (.int r)) [(q, .inr (9, [.int u_refusal, .ref q_script, .int u_scriptSize, .int u_spot, .ref q_readRow, .ref q_now, .ref q_trial, .ref q_diary, .int u_acts, .ref q_kept, .ref q_isKept, .int u_slides', .ref q_sums, .ref q_primes, .ref q_turned])), (q_trial, .inl (cI, 84, .inl u_trial')), (q_turned, .inl (cI, 42, .inl u_turned'))] := by
  refine kM_of (cc := cX10_command) (maxL := 9) (ret := (some .boolean)) (by decide) rfl (Nat.le_of_ble_eq_true rfl) ?_
  intro p e s m args below meth c A Q ls hQ C hlocks hr hE hW hl
  have hx := C.1
  have hb := C.2.1
  have hts := C.2.2.2.2
  have hl : lv_has ls 9 [(0, .ref q), (1, .int p0)] := hl
  have iX10 : ∀ w ∈ u_ws RX10 TX10 15, w ∈ wsX10_command := by decide +kernel
  have f19 := hts (.fieldLink RX10 19 "SortedTablesModel" "trial" "[I") (by decide +kernel)
  unfold pX10_command at hf
  refine lv_iload_n hx hb dX10_command_0 rfl (lv_at hl 1 rfl) ?_
  refine lv_sipush (v := 10000) hx hb dX10_command_1 (by decide) ?_
  refine lv_idiv hx hb dX10_command_4 (by decide) ?_
  refine lv_istore_n (lv' := [(2, .int (p0 / 10000)), (0, .ref q), (1, .int p0)]) hx hb dX10_command_5 rfl hl (by decide) rfl (fun ls hl => ?_)
  refine lv_iload_n hx hb dX10_command_6 rfl (lv_at hl 2 rfl) ?_
  refine lv_sipush (v := 1000) hx hb dX10_command_7 (by decide) ?_
  refine lv_idiv hx hb dX10_command_10 (by decide) ?_
  refine lv_bipush (v := 10) hx hb dX10_command_11 (by decide) ?_
  refine lv_irem hx hb dX10_command_13 (by decide) ?_
  refine lv_istore_n (lv' := [(3, .int (irm (p0 / 1000) 10)), (2, .int (p0 / 10000)), (0, .ref q), (1, .int p0)]) hx hb dX10_command_14 rfl hl (by decide) rfl (fun ls hl => ?_)
  refine lv_iload_n hx hb dX10_command_15 rfl (lv_at hl 3 rfl) ?_
  refine lv_bipush (v := 100) hx hb dX10_command_16 (by decide) ?_
  refine lv_idiv hx hb dX10_command_18 (by decide) ?_
  refine lv_bipush (v := 10) hx hb dX10_command_19 (by decide) ?_
  refine lv_irem hx hb dX10_command_21 (by decide) ?_
  refine lv_istore (lv' := [(4, .int (irm (p0 / 100) 10)), (3, .int (irm (p0 / 1000) 10)), (2, .int (p0 / 10000)), (0, .ref q), (1, .int p0)]) hx hb dX10_command_22 hl (by decide) rfl (fun ls hl => ?_)
  refine lv_iload_n hx hb dX10_command_24 rfl (lv_at hl 4 rfl) ?_
  refine lv_bipush (v := 10) hx hb dX10_command_25 (by decide) ?_
  refine lv_idiv hx hb dX10_command_27 (by decide) ?_
  refine lv_bipush (v := 10) hx hb dX10_command_28 (by decide) ?_
  refine lv_irem hx hb dX10_command_30 (by decide) ?_
  refine lv_istore (lv' := [(5, .int (irm (p0 / 10) 10)), (4, .int (irm (p0 / 100) 10)), (3, .int (irm (p0 / 1000) 10)), (2, .int (p0 / 10000)), (0, .ref q), (1, .int p0)]) hx hb dX10_command_31 hl (by decide) rfl (fun ls hl => ?_)
  refine lv_iload_n hx hb dX10_command_33 rfl (lv_at hl 5 rfl) ?_
  refine lv_bipush (v := 10) hx hb dX10_command_34 (by decide) ?_
  refine lv_irem hx hb dX10_command_36 (by decide) ?_
  refine lv_istore (lv' := [(6, .int (irm p0 10)), (5, .int (irm (p0 / 10) 10)), (4, .int (irm (p0 / 100) 10)), (3, .int (irm (p0 / 1000) 10)), (2, .int (p0 / 10000)), (0, .ref q), (1, .int p0)]) hx hb dX10_command_37 hl (by decide) rfl (fun ls hl => ?_)
  refine lv_iload_n hx hb dX10_command_39 rfl (lv_at hl 6 rfl) ?_
  refine lv_bipush (v := 100) hx hb dX10_command_40 (by decide) ?_
  refine lv_irem hx hb dX10_command_42 (by decide) ?_
  refine lv_istore (lv' := [(7, .int (irm p0 100)), (6, .int (irm p0 10)), (5, .int (irm (p0 / 10) 10)), (4, .int (irm (p0 / 100) 10)), (3, .int (irm (p0 / 1000) 10)), (2, .int (p0 / 10000)), (0, .ref q), (1, .int p0)]) hx hb dX10_command_43 hl (by decide) rfl (fun ls hl => ?_)
  refine lv_iload_n hx hb dX10_command_45 rfl (lv_at hl 5 rfl) ?_
  refine lv_bipush (v := 8) hx hb dX10_command_46 (by decide) ?_
  refine lv_icmp_ne (tgt := 78) hx hb dX10_command_48 (by decide) (fun hc => ?_) (fun hc => ?_)
  · replace hf := if_f hc hf
    refine lv_iload_n hx hb dX10_command_78 rfl (lv_at hl 4 rfl) ?_
    obtain ⟨v1, h2, hf⟩ := bd1_s hf
    refine k_callSR (As := [.int (irm (p0 / 1000) 10)]) (n := 1) (rest := []) (st1 := [.int v1]) C hE hW hl.1 (kX10_isTable l D cI cZ cJ _ (irm (p0 / 1000) 10) v1 h2) gX10_command_X10_isTable rfl (by decide +kernel) rfl ⟨Nat.le_of_ble_eq_true rfl, Nat.le_of_ble_eq_true rfl⟩ ⟨Nat.zero_le _, Nat.zero_le _⟩ [] rfl rfl (Nat.le_of_ble_eq_true rfl) rfl rfl dX10_command_79 (fun H locs hW => ?_)
    refine lv_if_ne (tgt := 87) hx hb dX10_command_82 (by decide) (fun hc => ?_) (fun hc => ?_)
    · replace hf := if_f hc hf
      refine lv_iload_n hx hb dX10_command_87 rfl (lv_at hl 5 rfl) ?_
      by_cases hs1 : (p0 / 10000) = 1
      · replace hf := if_t hs1 hf
        refine lv_tableIn (off := 44) (tgt := 132) hx hb dX10_command_88 (by rw [hs1]; decide) (by rw [hs1]; decide) (by rw [hs1]; decide +kernel) (by decide) ?_
        refine lv_iload hx hb dX10_command_132 (lv_at hl 3 rfl) ?_
        refine lv_if_ne (tgt := 150) hx hb dX10_command_134 (by decide) (fun hc => ?_) (fun hc => ?_)
        · replace hf := if_f hc hf
          refine lv_iconst (v := 0) hx hb dX10_command_150 (by decide) ?_
          obtain ⟨rfl, rfl, rfl, rfl⟩ := sm4 hf
          exact k_zret C hlocks hr hW (by decide) hQ dX10_command_151
        · replace hf := if_t hc hf
          refine lv_aload_n hx hb dX10_command_137 rfl (lv_at hl 6 rfl) ?_
          refine k_get C hE hW iX10 0 rfl rfl 6 (by decide) f19 (fun _ h9 => h9) rfl dX10_command_138 ?_
          refine lv_iload_n hx hb dX10_command_141 rfl (lv_at hl 4 rfl) ?_
          obtain ⟨v3, h4, hf⟩ := bd1_s hf
          refine k_callSR (As := [.ref q_trial, .int (irm (p0 / 1000) 10)]) (n := 2) (rest := []) (st1 := [.int v3]) C hE hW hl.1 (kX10_gapRow l D cI cZ cJ _ q_trial u_trial (irm (p0 / 1000) 10) v3 h4) gX10_command_X10_gapRow rfl (by decide +kernel) rfl ⟨Nat.le_of_ble_eq_true rfl, Nat.le_of_ble_eq_true rfl⟩ ⟨Nat.zero_le _, Nat.zero_le _⟩ [1] rfl rfl (Nat.le_of_ble_eq_true rfl) rfl rfl dX10_command_142 (fun H locs hW => ?_)
          refine lv_bipush (v := (-9)) hx hb dX10_command_145 (by decide) ?_
          refine lv_icmp_ne (tgt := 152) hx hb dX10_command_147 (by decide) (fun hc => ?_) (fun hc => ?_)
          · replace hf := if_f hc hf
            refine lv_aload_n hx hb dX10_command_152 rfl (lv_at hl 6 rfl) ?_
            refine lv_aload_n hx hb dX10_command_153 rfl (lv_at hl 6 rfl) ?_
            refine k_get C hE hW iX10 0 rfl rfl 6 (by decide) f19 (fun _ h9 => h9) rfl dX10_command_154 ?_
            refine lv_iload_n hx hb dX10_command_157 rfl (lv_at hl 4 rfl) ?_
            refine lv_iload hx hb dX10_command_158 (lv_at hl 0 rfl) ?_
            obtain ⟨⟨v5, w6, w7⟩, h8, hf⟩ := bd1_s hf
            replace hf := un3_s hf
            refine k_callV (b := q) (ci := 9) (qb := 0) (As := [.ref q_trial, .int (irm (p0 / 1000) 10), .int (irm p0 100)]) (n := 3) (rest := []) (st1 := [.int v5]) (wr := [(q_turned, .inl (cI, 42, .inl u_turned))]) (ws' := [(q, .inr (9, [.int u_refusal, .ref q_script, .int u_scriptSize, .int u_spot, .ref q_readRow, .ref q_now, .ref q_trial, .ref q_diary, .int u_acts, .ref q_kept, .ref q_isKept, .int w6, .ref q_sums, .ref q_primes, .ref q_turned])), (q_trial, .inl (cI, 84, .inl w7)), (q_turned, .inl (cI, 42, .inl u_turned))]) C hE hW hl.1 (kX10_insertOn l D cI cZ cJ _ q q_trial q_script q_readRow q_now q_trial q_diary q_kept q_isKept q_sums q_primes q_turned u_refusal u_scriptSize u_spot u_acts u_slides u_trial (irm (p0 / 1000) 10) (irm p0 100) v5 w6 w7 h8) gX10_command_X10_insertOn rfl (by decide +kernel) rfl ⟨Nat.le_of_ble_eq_true rfl, Nat.le_of_ble_eq_true rfl⟩ ⟨Nat.zero_le _, Nat.zero_le _⟩ rfl rfl [0, 1] [2] [1, 2, 0] rfl rfl rfl rfl (by decide) rfl rfl (Nat.le_of_ble_eq_true rfl) rfl rfl dX10_command_160 (fun H locs hW => ?_)
            refine lv_pop hx hb dX10_command_163 rfl ?_
            refine lv_iconst (v := 1) hx hb dX10_command_164 (by decide) ?_
            obtain ⟨rfl, rfl, rfl, rfl⟩ := sm4 hf
            exact k_zret C hlocks hr hW (by decide) hQ dX10_command_165
          · replace hf := if_t hc hf
            refine lv_iconst (v := 0) hx hb dX10_command_150 (by decide) ?_
            obtain ⟨rfl, rfl, rfl, rfl⟩ := sm4 hf
            exact k_zret C hlocks hr hW (by decide) hQ dX10_command_151
      · replace hf := if_f hs1 hf
        by_cases hs2 : (p0 / 10000) = 2
        · replace hf := if_t hs2 hf
          refine lv_tableIn (off := 78) (tgt := 166) hx hb dX10_command_88 (by rw [hs2]; decide) (by rw [hs2]; decide) (by rw [hs2]; decide +kernel) (by decide) ?_
          refine lv_iload hx hb dX10_command_166 (lv_at hl 1 rfl) ?_
          refine lv_if_ne (tgt := 206) hx hb dX10_command_168 (by decide) (fun hc => ?_) (fun hc => ?_)
          · replace hf := if_f hc hf
            refine lv_iconst (v := 0) hx hb dX10_command_206 (by decide) ?_
            obtain ⟨rfl, rfl, rfl, rfl⟩ := sm4 hf
            exact k_zret C hlocks hr hW (by decide) hQ dX10_command_207
          · replace hf := if_t hc hf
            refine lv_aload_n hx hb dX10_command_171 rfl (lv_at hl 6 rfl) ?_
            refine k_get C hE hW iX10 0 rfl rfl 6 (by decide) f19 (fun _ h9 => h9) rfl dX10_command_172 ?_
            refine lv_iload_n hx hb dX10_command_175 rfl (lv_at hl 4 rfl) ?_
            refine lv_iload hx hb dX10_command_176 (lv_at hl 3 rfl) ?_
            refine lv_iload hx hb dX10_command_178 (lv_at hl 2 rfl) ?_
            obtain ⟨v9, h10, hf⟩ := bd1_s hf
            refine k_callSR (As := [.ref q_trial, .int (irm (p0 / 1000) 10), .int (irm (p0 / 100) 10), .int (irm (p0 / 10) 10)]) (n := 4) (rest := []) (st1 := [.int v9]) C hE hW hl.1 (kX10_isCell l D cI cZ cJ _ q_trial u_trial (irm (p0 / 1000) 10) (irm (p0 / 100) 10) (irm (p0 / 10) 10) v9 h10) gX10_command_X10_isCell rfl (by decide +kernel) rfl ⟨Nat.le_of_ble_eq_true rfl, Nat.le_of_ble_eq_true rfl⟩ ⟨Nat.zero_le _, Nat.zero_le _⟩ [1] rfl rfl (Nat.le_of_ble_eq_true rfl) rfl rfl dX10_command_180 (fun H locs hW => ?_)
            refine lv_if_eq (tgt := 206) hx hb dX10_command_183 (by decide) (fun hc => ?_) (fun hc => ?_)
            · replace hf := if_t hc hf
              refine lv_iconst (v := 0) hx hb dX10_command_206 (by decide) ?_
              obtain ⟨rfl, rfl, rfl, rfl⟩ := sm4 hf
              exact k_zret C hlocks hr hW (by decide) hQ dX10_command_207
            · replace hf := if_f hc hf
              refine lv_iload_n hx hb dX10_command_186 rfl (lv_at hl 5 rfl) ?_
              refine lv_iconst (v := 3) hx hb dX10_command_187 (by decide) ?_
              refine lv_icmp_ne (tgt := 208) hx hb dX10_command_188 (by decide) (fun hc => ?_) (fun hc => ?_)
              · replace hf := if_f hc hf
                refine lv_aload_n hx hb dX10_command_208 rfl (lv_at hl 6 rfl) ?_
                refine k_get C hE hW iX10 0 rfl rfl 6 (by decide) f19 (fun _ h9 => h9) rfl dX10_command_209 ?_
                refine lv_iload_n hx hb dX10_command_212 rfl (lv_at hl 4 rfl) ?_
                refine lv_iload hx hb dX10_command_213 (lv_at hl 3 rfl) ?_
                refine lv_iload hx hb dX10_command_215 (lv_at hl 2 rfl) ?_
                obtain ⟨v11, h12, hf⟩ := bd1_s hf
                refine k_callSR (As := [.ref q_trial, .int (irm (p0 / 1000) 10), .int (irm (p0 / 100) 10), .int (irm (p0 / 10) 10)]) (n := 4) (rest := []) (st1 := [.int v11]) C hE hW hl.1 (kX10_get l D cI cZ cJ _ q_trial u_trial (irm (p0 / 1000) 10) (irm (p0 / 100) 10) (irm (p0 / 10) 10) v11 h12) gX10_command_X10_get rfl (by decide +kernel) rfl ⟨Nat.le_of_ble_eq_true rfl, Nat.le_of_ble_eq_true rfl⟩ ⟨Nat.zero_le _, Nat.zero_le _⟩ [1] rfl rfl (Nat.le_of_ble_eq_true rfl) rfl rfl dX10_command_217 (fun H locs hW => ?_)
                refine lv_istore (lv' := [(8, .int v11), (7, .int (irm p0 100)), (6, .int (irm p0 10)), (5, .int (irm (p0 / 10) 10)), (4, .int (irm (p0 / 100) 10)), (3, .int (irm (p0 / 1000) 10)), (2, .int (p0 / 10000)), (0, .ref q), (1, .int p0)]) hx hb dX10_command_220 hl (by decide) rfl (fun ls hl => ?_)
                refine lv_aload_n hx hb dX10_command_222 rfl (lv_at hl 7 rfl) ?_
                refine k_get C hE hW iX10 0 rfl rfl 6 (by decide) f19 (fun _ h9 => h9) rfl dX10_command_223 ?_
                refine lv_iload_n hx hb dX10_command_226 rfl (lv_at hl 5 rfl) ?_
                refine lv_iload hx hb dX10_command_227 (lv_at hl 4 rfl) ?_
                refine lv_iload hx hb dX10_command_229 (lv_at hl 3 rfl) ?_
                obtain ⟨⟨v13, w14⟩, h15, hf⟩ := bd1_s hf
                replace hf := un2_s hf
                refine k_callS (As := [.ref q_trial, .int (irm (p0 / 1000) 10), .int (irm (p0 / 100) 10), .int (irm (p0 / 10) 10)]) (n := 4) (rest := []) (st1 := [.int v13]) (wr := [(q, .inr (9, [.int u_refusal, .ref q_script, .int u_scriptSize, .int u_spot, .ref q_readRow, .ref q_now, .ref q_trial, .ref q_diary, .int u_acts, .ref q_kept, .ref q_isKept, .int u_slides, .ref q_sums, .ref q_primes, .ref q_turned])), (q_turned, .inl (cI, 42, .inl u_turned))]) (ws' := [(q, .inr (9, [.int u_refusal, .ref q_script, .int u_scriptSize, .int u_spot, .ref q_readRow, .ref q_now, .ref q_trial, .ref q_diary, .int u_acts, .ref q_kept, .ref q_isKept, .int u_slides, .ref q_sums, .ref q_primes, .ref q_turned])), (q_trial, .inl (cI, 84, .inl w14)), (q_turned, .inl (cI, 42, .inl u_turned))]) C hE hW hl.1 (kX10_removeOn l D cI cZ cJ _ q_trial u_trial (irm (p0 / 1000) 10) (irm (p0 / 100) 10) (irm (p0 / 10) 10) v13 w14 h15) gX10_command_X10_removeOn rfl (by decide +kernel) rfl ⟨Nat.le_of_ble_eq_true rfl, Nat.le_of_ble_eq_true rfl⟩ ⟨Nat.zero_le _, Nat.zero_le _⟩ [1] [0, 2] [0, 2, 1] rfl rfl rfl rfl (by decide) rfl rfl (Nat.le_of_ble_eq_true rfl) rfl rfl dX10_command_231 (fun H locs hW => ?_)
                refine lv_pop hx hb dX10_command_234 rfl ?_
                refine lv_iload_n hx hb dX10_command_235 rfl (lv_at hl 6 rfl) ?_
                refine lv_iconst (v := 3) hx hb dX10_command_236 (by decide) ?_
                refine lv_icmp_ne (tgt := 254) hx hb dX10_command_237 (by decide) (fun hc => ?_) (fun hc => ?_)
                · replace hf := if_f hc hf
                  refine lv_iconst (v := 1) hx hb dX10_command_254 (by decide) ?_
                  obtain ⟨rfl, rfl, rfl, rfl⟩ := sm4 hf
                  exact k_zret C hlocks hr hW (by decide) hQ dX10_command_255
                · replace hf := if_t hc hf
                  refine lv_aload_n hx hb dX10_command_240 rfl (lv_at hl 7 rfl) ?_
                  refine lv_aload_n hx hb dX10_command_241 rfl (lv_at hl 7 rfl) ?_
                  refine k_get C hE hW iX10 0 rfl rfl 6 (by decide) f19 (fun _ h9 => h9) rfl dX10_command_242 ?_
                  refine lv_iconst (v := 1) hx hb dX10_command_245 (by decide) ?_
                  refine lv_iload_n hx hb dX10_command_246 rfl (lv_at hl 5 rfl) ?_
                  refine lv_isub hx hb dX10_command_247 ?_
                  refine lv_iload hx hb dX10_command_248 (lv_at hl 0 rfl) ?_
                  obtain ⟨⟨v16, w17, w18⟩, h19, hf⟩ := bd1_s hf
                  replace hf := un3_s hf
                  refine k_callV (b := q) (ci := 9) (qb := 0) (As := [.ref q_trial, .int (1 - (irm (p0 / 1000) 10)), .int v11]) (n := 3) (rest := []) (st1 := [.int v16]) (wr := [(q_turned, .inl (cI, 42, .inl u_turned))]) (ws' := [(q, .inr (9, [.int u_refusal, .ref q_script, .int u_scriptSize, .int u_spot, .ref q_readRow, .ref q_now, .ref q_trial, .ref q_diary, .int u_acts, .ref q_kept, .ref q_isKept, .int w17, .ref q_sums, .ref q_primes, .ref q_turned])), (q_trial, .inl (cI, 84, .inl w18)), (q_turned, .inl (cI, 42, .inl u_turned))]) C hE hW hl.1 (kX10_insertOn l D cI cZ cJ _ q q_trial q_script q_readRow q_now q_trial q_diary q_kept q_isKept q_sums q_primes q_turned u_refusal u_scriptSize u_spot u_acts u_slides w14 (1 - (irm (p0 / 1000) 10)) v11 v16 w17 w18 h19) gX10_command_X10_insertOn rfl (by decide +kernel) rfl ⟨Nat.le_of_ble_eq_true rfl, Nat.le_of_ble_eq_true rfl⟩ ⟨Nat.zero_le _, Nat.zero_le _⟩ rfl rfl [0, 1] [2] [1, 2, 0] rfl rfl rfl rfl (by decide) rfl rfl (Nat.le_of_ble_eq_true rfl) rfl rfl dX10_command_250 (fun H locs hW => ?_)
                  refine lv_pop hx hb dX10_command_253 rfl ?_
                  refine lv_iconst (v := 1) hx hb dX10_command_254 (by decide) ?_
                  obtain ⟨rfl, rfl, rfl, rfl⟩ := sm4 hf
                  exact k_zret C hlocks hr hW (by decide) hQ dX10_command_255
              · replace hf := if_t hc hf
                refine lv_aload_n hx hb dX10_command_191 rfl (lv_at hl 6 rfl) ?_
                refine k_get C hE hW iX10 0 rfl rfl 6 (by decide) f19 (fun _ h9 => h9) rfl dX10_command_192 ?_
                refine lv_iconst (v := 1) hx hb dX10_command_195 (by decide) ?_
                refine lv_iload_n hx hb dX10_command_196 rfl (lv_at hl 4 rfl) ?_
                refine lv_isub hx hb dX10_command_197 ?_
                obtain ⟨v20, h21, hf⟩ := bd1_s hf
                refine k_callSR (As := [.ref q_trial, .int (1 - (irm (p0 / 1000) 10))]) (n := 2) (rest := []) (st1 := [.int v20]) C hE hW hl.1 (kX10_gapRow l D cI cZ cJ _ q_trial u_trial (1 - (irm (p0 / 1000) 10)) v20 h21) gX10_command_X10_gapRow rfl (by decide +kernel) rfl ⟨Nat.le_of_ble_eq_true rfl, Nat.le_of_ble_eq_true rfl⟩ ⟨Nat.zero_le _, Nat.zero_le _⟩ [1] rfl rfl (Nat.le_of_ble_eq_true rfl) rfl rfl dX10_command_198 (fun H locs hW => ?_)
                refine lv_bipush (v := (-9)) hx hb dX10_command_201 (by decide) ?_
                refine lv_icmp_ne (tgt := 208) hx hb dX10_command_203 (by decide) (fun hc => ?_) (fun hc => ?_)
                · replace hf := if_f hc hf
                  refine lv_aload_n hx hb dX10_command_208 rfl (lv_at hl 6 rfl) ?_
                  refine k_get C hE hW iX10 0 rfl rfl 6 (by decide) f19 (fun _ h9 => h9) rfl dX10_command_209 ?_
                  refine lv_iload_n hx hb dX10_command_212 rfl (lv_at hl 4 rfl) ?_
                  refine lv_iload hx hb dX10_command_213 (lv_at hl 3 rfl) ?_
                  refine lv_iload hx hb dX10_command_215 (lv_at hl 2 rfl) ?_
                  obtain ⟨v22, h23, hf⟩ := bd1_s hf
                  refine k_callSR (As := [.ref q_trial, .int (irm (p0 / 1000) 10), .int (irm (p0 / 100) 10), .int (irm (p0 / 10) 10)]) (n := 4) (rest := []) (st1 := [.int v22]) C hE hW hl.1 (kX10_get l D cI cZ cJ _ q_trial u_trial (irm (p0 / 1000) 10) (irm (p0 / 100) 10) (irm (p0 / 10) 10) v22 h23) gX10_command_X10_get rfl (by decide +kernel) rfl ⟨Nat.le_of_ble_eq_true rfl, Nat.le_of_ble_eq_true rfl⟩ ⟨Nat.zero_le _, Nat.zero_le _⟩ [1] rfl rfl (Nat.le_of_ble_eq_true rfl) rfl rfl dX10_command_217 (fun H locs hW => ?_)
                  refine lv_istore (lv' := [(8, .int v22), (7, .int (irm p0 100)), (6, .int (irm p0 10)), (5, .int (irm (p0 / 10) 10)), (4, .int (irm (p0 / 100) 10)), (3, .int (irm (p0 / 1000) 10)), (2, .int (p0 / 10000)), (0, .ref q), (1, .int p0)]) hx hb dX10_command_220 hl (by decide) rfl (fun ls hl => ?_)
                  refine lv_aload_n hx hb dX10_command_222 rfl (lv_at hl 7 rfl) ?_
                  refine k_get C hE hW iX10 0 rfl rfl 6 (by decide) f19 (fun _ h9 => h9) rfl dX10_command_223 ?_
                  refine lv_iload_n hx hb dX10_command_226 rfl (lv_at hl 5 rfl) ?_
                  refine lv_iload hx hb dX10_command_227 (lv_at hl 4 rfl) ?_
                  refine lv_iload hx hb dX10_command_229 (lv_at hl 3 rfl) ?_
                  obtain ⟨⟨v24, w25⟩, h26, hf⟩ := bd1_s hf
                  replace hf := un2_s hf
                  refine k_callS (As := [.ref q_trial, .int (irm (p0 / 1000) 10), .int (irm (p0 / 100) 10), .int (irm (p0 / 10) 10)]) (n := 4) (rest := []) (st1 := [.int v24]) (wr := [(q, .inr (9, [.int u_refusal, .ref q_script, .int u_scriptSize, .int u_spot, .ref q_readRow, .ref q_now, .ref q_trial, .ref q_diary, .int u_acts, .ref q_kept, .ref q_isKept, .int u_slides, .ref q_sums, .ref q_primes, .ref q_turned])), (q_turned, .inl (cI, 42, .inl u_turned))]) (ws' := [(q, .inr (9, [.int u_refusal, .ref q_script, .int u_scriptSize, .int u_spot, .ref q_readRow, .ref q_now, .ref q_trial, .ref q_diary, .int u_acts, .ref q_kept, .ref q_isKept, .int u_slides, .ref q_sums, .ref q_primes, .ref q_turned])), (q_trial, .inl (cI, 84, .inl w25)), (q_turned, .inl (cI, 42, .inl u_turned))]) C hE hW hl.1 (kX10_removeOn l D cI cZ cJ _ q_trial u_trial (irm (p0 / 1000) 10) (irm (p0 / 100) 10) (irm (p0 / 10) 10) v24 w25 h26) gX10_command_X10_removeOn rfl (by decide +kernel) rfl ⟨Nat.le_of_ble_eq_true rfl, Nat.le_of_ble_eq_true rfl⟩ ⟨Nat.zero_le _, Nat.zero_le _⟩ [1] [0, 2] [0, 2, 1] rfl rfl rfl rfl (by decide) rfl rfl (Nat.le_of_ble_eq_true rfl) rfl rfl dX10_command_231 (fun H locs hW => ?_)
                  refine lv_pop hx hb dX10_command_234 rfl ?_
                  refine lv_iload_n hx hb dX10_command_235 rfl (lv_at hl 6 rfl) ?_
                  refine lv_iconst (v := 3) hx hb dX10_command_236 (by decide) ?_
                  refine lv_icmp_ne (tgt := 254) hx hb dX10_command_237 (by decide) (fun hc => ?_) (fun hc => ?_)
                  · replace hf := if_f hc hf
                    refine lv_iconst (v := 1) hx hb dX10_command_254 (by decide) ?_
                    obtain ⟨rfl, rfl, rfl, rfl⟩ := sm4 hf
                    exact k_zret C hlocks hr hW (by decide) hQ dX10_command_255
                  · replace hf := if_t hc hf
                    refine lv_aload_n hx hb dX10_command_240 rfl (lv_at hl 7 rfl) ?_
                    refine lv_aload_n hx hb dX10_command_241 rfl (lv_at hl 7 rfl) ?_
                    refine k_get C hE hW iX10 0 rfl rfl 6 (by decide) f19 (fun _ h9 => h9) rfl dX10_command_242 ?_
                    refine lv_iconst (v := 1) hx hb dX10_command_245 (by decide) ?_
                    refine lv_iload_n hx hb dX10_command_246 rfl (lv_at hl 5 rfl) ?_
                    refine lv_isub hx hb dX10_command_247 ?_
                    refine lv_iload hx hb dX10_command_248 (lv_at hl 0 rfl) ?_
                    obtain ⟨⟨v27, w28, w29⟩, h30, hf⟩ := bd1_s hf
                    replace hf := un3_s hf
                    refine k_callV (b := q) (ci := 9) (qb := 0) (As := [.ref q_trial, .int (1 - (irm (p0 / 1000) 10)), .int v22]) (n := 3) (rest := []) (st1 := [.int v27]) (wr := [(q_turned, .inl (cI, 42, .inl u_turned))]) (ws' := [(q, .inr (9, [.int u_refusal, .ref q_script, .int u_scriptSize, .int u_spot, .ref q_readRow, .ref q_now, .ref q_trial, .ref q_diary, .int u_acts, .ref q_kept, .ref q_isKept, .int w28, .ref q_sums, .ref q_primes, .ref q_turned])), (q_trial, .inl (cI, 84, .inl w29)), (q_turned, .inl (cI, 42, .inl u_turned))]) C hE hW hl.1 (kX10_insertOn l D cI cZ cJ _ q q_trial q_script q_readRow q_now q_trial q_diary q_kept q_isKept q_sums q_primes q_turned u_refusal u_scriptSize u_spot u_acts u_slides w25 (1 - (irm (p0 / 1000) 10)) v22 v27 w28 w29 h30) gX10_command_X10_insertOn rfl (by decide +kernel) rfl ⟨Nat.le_of_ble_eq_true rfl, Nat.le_of_ble_eq_true rfl⟩ ⟨Nat.zero_le _, Nat.zero_le _⟩ rfl rfl [0, 1] [2] [1, 2, 0] rfl rfl rfl rfl (by decide) rfl rfl (Nat.le_of_ble_eq_true rfl) rfl rfl dX10_command_250 (fun H locs hW => ?_)
                    refine lv_pop hx hb dX10_command_253 rfl ?_
                    refine lv_iconst (v := 1) hx hb dX10_command_254 (by decide) ?_
                    obtain ⟨rfl, rfl, rfl, rfl⟩ := sm4 hf
                    exact k_zret C hlocks hr hW (by decide) hQ dX10_command_255
                · replace hf := if_t hc hf
                  refine lv_iconst (v := 0) hx hb dX10_command_206 (by decide) ?_
                  obtain ⟨rfl, rfl, rfl, rfl⟩ := sm4 hf
                  exact k_zret C hlocks hr hW (by decide) hQ dX10_command_207
        · replace hf := if_f hs2 hf
          by_cases hs3 : (p0 / 10000) = 3
          · replace hf := if_t hs3 hf
            refine lv_tableIn (off := 78) (tgt := 166) hx hb dX10_command_88 (by rw [hs3]; decide) (by rw [hs3]; decide) (by rw [hs3]; decide +kernel) (by decide) ?_
            refine lv_iload hx hb dX10_command_166 (lv_at hl 1 rfl) ?_
            refine lv_if_ne (tgt := 206) hx hb dX10_command_168 (by decide) (fun hc => ?_) (fun hc => ?_)
            · replace hf := if_f hc hf
              refine lv_iconst (v := 0) hx hb dX10_command_206 (by decide) ?_
              obtain ⟨rfl, rfl, rfl, rfl⟩ := sm4 hf
              exact k_zret C hlocks hr hW (by decide) hQ dX10_command_207
            · replace hf := if_t hc hf
              refine lv_aload_n hx hb dX10_command_171 rfl (lv_at hl 6 rfl) ?_
              refine k_get C hE hW iX10 0 rfl rfl 6 (by decide) f19 (fun _ h9 => h9) rfl dX10_command_172 ?_
              refine lv_iload_n hx hb dX10_command_175 rfl (lv_at hl 4 rfl) ?_
              refine lv_iload hx hb dX10_command_176 (lv_at hl 3 rfl) ?_
              refine lv_iload hx hb dX10_command_178 (lv_at hl 2 rfl) ?_
              obtain ⟨v31, h32, hf⟩ := bd1_s hf
              refine k_callSR (As := [.ref q_trial, .int (irm (p0 / 1000) 10), .int (irm (p0 / 100) 10), .int (irm (p0 / 10) 10)]) (n := 4) (rest := []) (st1 := [.int v31]) C hE hW hl.1 (kX10_isCell l D cI cZ cJ _ q_trial u_trial (irm (p0 / 1000) 10) (irm (p0 / 100) 10) (irm (p0 / 10) 10) v31 h32) gX10_command_X10_isCell rfl (by decide +kernel) rfl ⟨Nat.le_of_ble_eq_true rfl, Nat.le_of_ble_eq_true rfl⟩ ⟨Nat.zero_le _, Nat.zero_le _⟩ [1] rfl rfl (Nat.le_of_ble_eq_true rfl) rfl rfl dX10_command_180 (fun H locs hW => ?_)
              refine lv_if_eq (tgt := 206) hx hb dX10_command_183 (by decide) (fun hc => ?_) (fun hc => ?_)
              · replace hf := if_t hc hf
                refine lv_iconst (v := 0) hx hb dX10_command_206 (by decide) ?_
                obtain ⟨rfl, rfl, rfl, rfl⟩ := sm4 hf
                exact k_zret C hlocks hr hW (by decide) hQ dX10_command_207
              · replace hf := if_f hc hf
                refine lv_iload_n hx hb dX10_command_186 rfl (lv_at hl 5 rfl) ?_
                refine lv_iconst (v := 3) hx hb dX10_command_187 (by decide) ?_
                refine lv_icmp_ne (tgt := 208) hx hb dX10_command_188 (by decide) (fun hc => ?_) (fun hc => ?_)
                · replace hf := if_f hc hf
                  refine lv_aload_n hx hb dX10_command_208 rfl (lv_at hl 6 rfl) ?_
                  refine k_get C hE hW iX10 0 rfl rfl 6 (by decide) f19 (fun _ h9 => h9) rfl dX10_command_209 ?_
                  refine lv_iload_n hx hb dX10_command_212 rfl (lv_at hl 4 rfl) ?_
                  refine lv_iload hx hb dX10_command_213 (lv_at hl 3 rfl) ?_
                  refine lv_iload hx hb dX10_command_215 (lv_at hl 2 rfl) ?_
                  obtain ⟨v33, h34, hf⟩ := bd1_s hf
                  refine k_callSR (As := [.ref q_trial, .int (irm (p0 / 1000) 10), .int (irm (p0 / 100) 10), .int (irm (p0 / 10) 10)]) (n := 4) (rest := []) (st1 := [.int v33]) C hE hW hl.1 (kX10_get l D cI cZ cJ _ q_trial u_trial (irm (p0 / 1000) 10) (irm (p0 / 100) 10) (irm (p0 / 10) 10) v33 h34) gX10_command_X10_get rfl (by decide +kernel) rfl ⟨Nat.le_of_ble_eq_true rfl, Nat.le_of_ble_eq_true rfl⟩ ⟨Nat.zero_le _, Nat.zero_le _⟩ [1] rfl rfl (Nat.le_of_ble_eq_true rfl) rfl rfl dX10_command_217 (fun H locs hW => ?_)
                  refine lv_istore (lv' := [(8, .int v33), (7, .int (irm p0 100)), (6, .int (irm p0 10)), (5, .int (irm (p0 / 10) 10)), (4, .int (irm (p0 / 100) 10)), (3, .int (irm (p0 / 1000) 10)), (2, .int (p0 / 10000)), (0, .ref q), (1, .int p0)]) hx hb dX10_command_220 hl (by decide) rfl (fun ls hl => ?_)
                  refine lv_aload_n hx hb dX10_command_222 rfl (lv_at hl 7 rfl) ?_
                  refine k_get C hE hW iX10 0 rfl rfl 6 (by decide) f19 (fun _ h9 => h9) rfl dX10_command_223 ?_
                  refine lv_iload_n hx hb dX10_command_226 rfl (lv_at hl 5 rfl) ?_
                  refine lv_iload hx hb dX10_command_227 (lv_at hl 4 rfl) ?_
                  refine lv_iload hx hb dX10_command_229 (lv_at hl 3 rfl) ?_
                  obtain ⟨⟨v35, w36⟩, h37, hf⟩ := bd1_s hf
                  replace hf := un2_s hf
                  refine k_callS (As := [.ref q_trial, .int (irm (p0 / 1000) 10), .int (irm (p0 / 100) 10), .int (irm (p0 / 10) 10)]) (n := 4) (rest := []) (st1 := [.int v35]) (wr := [(q, .inr (9, [.int u_refusal, .ref q_script, .int u_scriptSize, .int u_spot, .ref q_readRow, .ref q_now, .ref q_trial, .ref q_diary, .int u_acts, .ref q_kept, .ref q_isKept, .int u_slides, .ref q_sums, .ref q_primes, .ref q_turned])), (q_turned, .inl (cI, 42, .inl u_turned))]) (ws' := [(q, .inr (9, [.int u_refusal, .ref q_script, .int u_scriptSize, .int u_spot, .ref q_readRow, .ref q_now, .ref q_trial, .ref q_diary, .int u_acts, .ref q_kept, .ref q_isKept, .int u_slides, .ref q_sums, .ref q_primes, .ref q_turned])), (q_trial, .inl (cI, 84, .inl w36)), (q_turned, .inl (cI, 42, .inl u_turned))]) C hE hW hl.1 (kX10_removeOn l D cI cZ cJ _ q_trial u_trial (irm (p0 / 1000) 10) (irm (p0 / 100) 10) (irm (p0 / 10) 10) v35 w36 h37) gX10_command_X10_removeOn rfl (by decide +kernel) rfl ⟨Nat.le_of_ble_eq_true rfl, Nat.le_of_ble_eq_true rfl⟩ ⟨Nat.zero_le _, Nat.zero_le _⟩ [1] [0, 2] [0, 2, 1] rfl rfl rfl rfl (by decide) rfl rfl (Nat.le_of_ble_eq_true rfl) rfl rfl dX10_command_231 (fun H locs hW => ?_)
                  refine lv_pop hx hb dX10_command_234 rfl ?_
                  refine lv_iload_n hx hb dX10_command_235 rfl (lv_at hl 6 rfl) ?_
                  refine lv_iconst (v := 3) hx hb dX10_command_236 (by decide) ?_
                  refine lv_icmp_ne (tgt := 254) hx hb dX10_command_237 (by decide) (fun hc => ?_) (fun hc => ?_)
                  · replace hf := if_f hc hf
                    refine lv_iconst (v := 1) hx hb dX10_command_254 (by decide) ?_
                    obtain ⟨rfl, rfl, rfl, rfl⟩ := sm4 hf
                    exact k_zret C hlocks hr hW (by decide) hQ dX10_command_255
                  · replace hf := if_t hc hf
                    refine lv_aload_n hx hb dX10_command_240 rfl (lv_at hl 7 rfl) ?_
                    refine lv_aload_n hx hb dX10_command_241 rfl (lv_at hl 7 rfl) ?_
                    refine k_get C hE hW iX10 0 rfl rfl 6 (by decide) f19 (fun _ h9 => h9) rfl dX10_command_242 ?_
                    refine lv_iconst (v := 1) hx hb dX10_command_245 (by decide) ?_
                    refine lv_iload_n hx hb dX10_command_246 rfl (lv_at hl 5 rfl) ?_
                    refine lv_isub hx hb dX10_command_247 ?_
                    refine lv_iload hx hb dX10_command_248 (lv_at hl 0 rfl) ?_
                    obtain ⟨⟨v38, w39, w40⟩, h41, hf⟩ := bd1_s hf
                    replace hf := un3_s hf
                    refine k_callV (b := q) (ci := 9) (qb := 0) (As := [.ref q_trial, .int (1 - (irm (p0 / 1000) 10)), .int v33]) (n := 3) (rest := []) (st1 := [.int v38]) (wr := [(q_turned, .inl (cI, 42, .inl u_turned))]) (ws' := [(q, .inr (9, [.int u_refusal, .ref q_script, .int u_scriptSize, .int u_spot, .ref q_readRow, .ref q_now, .ref q_trial, .ref q_diary, .int u_acts, .ref q_kept, .ref q_isKept, .int w39, .ref q_sums, .ref q_primes, .ref q_turned])), (q_trial, .inl (cI, 84, .inl w40)), (q_turned, .inl (cI, 42, .inl u_turned))]) C hE hW hl.1 (kX10_insertOn l D cI cZ cJ _ q q_trial q_script q_readRow q_now q_trial q_diary q_kept q_isKept q_sums q_primes q_turned u_refusal u_scriptSize u_spot u_acts u_slides w36 (1 - (irm (p0 / 1000) 10)) v33 v38 w39 w40 h41) gX10_command_X10_insertOn rfl (by decide +kernel) rfl ⟨Nat.le_of_ble_eq_true rfl, Nat.le_of_ble_eq_true rfl⟩ ⟨Nat.zero_le _, Nat.zero_le _⟩ rfl rfl [0, 1] [2] [1, 2, 0] rfl rfl rfl rfl (by decide) rfl rfl (Nat.le_of_ble_eq_true rfl) rfl rfl dX10_command_250 (fun H locs hW => ?_)
                    refine lv_pop hx hb dX10_command_253 rfl ?_
                    refine lv_iconst (v := 1) hx hb dX10_command_254 (by decide) ?_
                    obtain ⟨rfl, rfl, rfl, rfl⟩ := sm4 hf
                    exact k_zret C hlocks hr hW (by decide) hQ dX10_command_255
                · replace hf := if_t hc hf
                  refine lv_aload_n hx hb dX10_command_191 rfl (lv_at hl 6 rfl) ?_
                  refine k_get C hE hW iX10 0 rfl rfl 6 (by decide) f19 (fun _ h9 => h9) rfl dX10_command_192 ?_
                  refine lv_iconst (v := 1) hx hb dX10_command_195 (by decide) ?_
                  refine lv_iload_n hx hb dX10_command_196 rfl (lv_at hl 4 rfl) ?_
                  refine lv_isub hx hb dX10_command_197 ?_
                  obtain ⟨v42, h43, hf⟩ := bd1_s hf
                  refine k_callSR (As := [.ref q_trial, .int (1 - (irm (p0 / 1000) 10))]) (n := 2) (rest := []) (st1 := [.int v42]) C hE hW hl.1 (kX10_gapRow l D cI cZ cJ _ q_trial u_trial (1 - (irm (p0 / 1000) 10)) v42 h43) gX10_command_X10_gapRow rfl (by decide +kernel) rfl ⟨Nat.le_of_ble_eq_true rfl, Nat.le_of_ble_eq_true rfl⟩ ⟨Nat.zero_le _, Nat.zero_le _⟩ [1] rfl rfl (Nat.le_of_ble_eq_true rfl) rfl rfl dX10_command_198 (fun H locs hW => ?_)
                  refine lv_bipush (v := (-9)) hx hb dX10_command_201 (by decide) ?_
                  refine lv_icmp_ne (tgt := 208) hx hb dX10_command_203 (by decide) (fun hc => ?_) (fun hc => ?_)
                  · replace hf := if_f hc hf
                    refine lv_aload_n hx hb dX10_command_208 rfl (lv_at hl 6 rfl) ?_
                    refine k_get C hE hW iX10 0 rfl rfl 6 (by decide) f19 (fun _ h9 => h9) rfl dX10_command_209 ?_
                    refine lv_iload_n hx hb dX10_command_212 rfl (lv_at hl 4 rfl) ?_
                    refine lv_iload hx hb dX10_command_213 (lv_at hl 3 rfl) ?_
                    refine lv_iload hx hb dX10_command_215 (lv_at hl 2 rfl) ?_
                    obtain ⟨v44, h45, hf⟩ := bd1_s hf
                    refine k_callSR (As := [.ref q_trial, .int (irm (p0 / 1000) 10), .int (irm (p0 / 100) 10), .int (irm (p0 / 10) 10)]) (n := 4) (rest := []) (st1 := [.int v44]) C hE hW hl.1 (kX10_get l D cI cZ cJ _ q_trial u_trial (irm (p0 / 1000) 10) (irm (p0 / 100) 10) (irm (p0 / 10) 10) v44 h45) gX10_command_X10_get rfl (by decide +kernel) rfl ⟨Nat.le_of_ble_eq_true rfl, Nat.le_of_ble_eq_true rfl⟩ ⟨Nat.zero_le _, Nat.zero_le _⟩ [1] rfl rfl (Nat.le_of_ble_eq_true rfl) rfl rfl dX10_command_217 (fun H locs hW => ?_)
                    refine lv_istore (lv' := [(8, .int v44), (7, .int (irm p0 100)), (6, .int (irm p0 10)), (5, .int (irm (p0 / 10) 10)), (4, .int (irm (p0 / 100) 10)), (3, .int (irm (p0 / 1000) 10)), (2, .int (p0 / 10000)), (0, .ref q), (1, .int p0)]) hx hb dX10_command_220 hl (by decide) rfl (fun ls hl => ?_)
                    refine lv_aload_n hx hb dX10_command_222 rfl (lv_at hl 7 rfl) ?_
                    refine k_get C hE hW iX10 0 rfl rfl 6 (by decide) f19 (fun _ h9 => h9) rfl dX10_command_223 ?_
                    refine lv_iload_n hx hb dX10_command_226 rfl (lv_at hl 5 rfl) ?_
                    refine lv_iload hx hb dX10_command_227 (lv_at hl 4 rfl) ?_
                    refine lv_iload hx hb dX10_command_229 (lv_at hl 3 rfl) ?_
                    obtain ⟨⟨v46, w47⟩, h48, hf⟩ := bd1_s hf
                    replace hf := un2_s hf
                    refine k_callS (As := [.ref q_trial, .int (irm (p0 / 1000) 10), .int (irm (p0 / 100) 10), .int (irm (p0 / 10) 10)]) (n := 4) (rest := []) (st1 := [.int v46]) (wr := [(q, .inr (9, [.int u_refusal, .ref q_script, .int u_scriptSize, .int u_spot, .ref q_readRow, .ref q_now, .ref q_trial, .ref q_diary, .int u_acts, .ref q_kept, .ref q_isKept, .int u_slides, .ref q_sums, .ref q_primes, .ref q_turned])), (q_turned, .inl (cI, 42, .inl u_turned))]) (ws' := [(q, .inr (9, [.int u_refusal, .ref q_script, .int u_scriptSize, .int u_spot, .ref q_readRow, .ref q_now, .ref q_trial, .ref q_diary, .int u_acts, .ref q_kept, .ref q_isKept, .int u_slides, .ref q_sums, .ref q_primes, .ref q_turned])), (q_trial, .inl (cI, 84, .inl w47)), (q_turned, .inl (cI, 42, .inl u_turned))]) C hE hW hl.1 (kX10_removeOn l D cI cZ cJ _ q_trial u_trial (irm (p0 / 1000) 10) (irm (p0 / 100) 10) (irm (p0 / 10) 10) v46 w47 h48) gX10_command_X10_removeOn rfl (by decide +kernel) rfl ⟨Nat.le_of_ble_eq_true rfl, Nat.le_of_ble_eq_true rfl⟩ ⟨Nat.zero_le _, Nat.zero_le _⟩ [1] [0, 2] [0, 2, 1] rfl rfl rfl rfl (by decide) rfl rfl (Nat.le_of_ble_eq_true rfl) rfl rfl dX10_command_231 (fun H locs hW => ?_)
                    refine lv_pop hx hb dX10_command_234 rfl ?_
                    refine lv_iload_n hx hb dX10_command_235 rfl (lv_at hl 6 rfl) ?_
                    refine lv_iconst (v := 3) hx hb dX10_command_236 (by decide) ?_
                    refine lv_icmp_ne (tgt := 254) hx hb dX10_command_237 (by decide) (fun hc => ?_) (fun hc => ?_)
                    · replace hf := if_f hc hf
                      refine lv_iconst (v := 1) hx hb dX10_command_254 (by decide) ?_
                      obtain ⟨rfl, rfl, rfl, rfl⟩ := sm4 hf
                      exact k_zret C hlocks hr hW (by decide) hQ dX10_command_255
                    · replace hf := if_t hc hf
                      refine lv_aload_n hx hb dX10_command_240 rfl (lv_at hl 7 rfl) ?_
                      refine lv_aload_n hx hb dX10_command_241 rfl (lv_at hl 7 rfl) ?_
                      refine k_get C hE hW iX10 0 rfl rfl 6 (by decide) f19 (fun _ h9 => h9) rfl dX10_command_242 ?_
                      refine lv_iconst (v := 1) hx hb dX10_command_245 (by decide) ?_
                      refine lv_iload_n hx hb dX10_command_246 rfl (lv_at hl 5 rfl) ?_
                      refine lv_isub hx hb dX10_command_247 ?_
                      refine lv_iload hx hb dX10_command_248 (lv_at hl 0 rfl) ?_
                      obtain ⟨⟨v49, w50, w51⟩, h52, hf⟩ := bd1_s hf
                      replace hf := un3_s hf
                      refine k_callV (b := q) (ci := 9) (qb := 0) (As := [.ref q_trial, .int (1 - (irm (p0 / 1000) 10)), .int v44]) (n := 3) (rest := []) (st1 := [.int v49]) (wr := [(q_turned, .inl (cI, 42, .inl u_turned))]) (ws' := [(q, .inr (9, [.int u_refusal, .ref q_script, .int u_scriptSize, .int u_spot, .ref q_readRow, .ref q_now, .ref q_trial, .ref q_diary, .int u_acts, .ref q_kept, .ref q_isKept, .int w50, .ref q_sums, .ref q_primes, .ref q_turned])), (q_trial, .inl (cI, 84, .inl w51)), (q_turned, .inl (cI, 42, .inl u_turned))]) C hE hW hl.1 (kX10_insertOn l D cI cZ cJ _ q q_trial q_script q_readRow q_now q_trial q_diary q_kept q_isKept q_sums q_primes q_turned u_refusal u_scriptSize u_spot u_acts u_slides w47 (1 - (irm (p0 / 1000) 10)) v44 v49 w50 w51 h52) gX10_command_X10_insertOn rfl (by decide +kernel) rfl ⟨Nat.le_of_ble_eq_true rfl, Nat.le_of_ble_eq_true rfl⟩ ⟨Nat.zero_le _, Nat.zero_le _⟩ rfl rfl [0, 1] [2] [1, 2, 0] rfl rfl rfl rfl (by decide) rfl rfl (Nat.le_of_ble_eq_true rfl) rfl rfl dX10_command_250 (fun H locs hW => ?_)
                      refine lv_pop hx hb dX10_command_253 rfl ?_
                      refine lv_iconst (v := 1) hx hb dX10_command_254 (by decide) ?_
                      obtain ⟨rfl, rfl, rfl, rfl⟩ := sm4 hf
                      exact k_zret C hlocks hr hW (by decide) hQ dX10_command_255
                  · replace hf := if_t hc hf
                    refine lv_iconst (v := 0) hx hb dX10_command_206 (by decide) ?_
                    obtain ⟨rfl, rfl, rfl, rfl⟩ := sm4 hf
                    exact k_zret C hlocks hr hW (by decide) hQ dX10_command_207
          · replace hf := if_f hs3 hf
            by_cases hs4 : (p0 / 10000) = 4
            · replace hf := if_t hs4 hf
              refine lv_tableIn (off := 168) (tgt := 256) hx hb dX10_command_88 (by rw [hs4]; decide) (by rw [hs4]; decide) (by rw [hs4]; decide +kernel) (by decide) ?_
              refine lv_iload_n hx hb dX10_command_256 rfl (lv_at hl 7 rfl) ?_
              refine lv_sipush (v := 1000) hx hb dX10_command_257 (by decide) ?_
              refine lv_irem hx hb dX10_command_260 (by decide) ?_
              refine lv_if_eq (tgt := 266) hx hb dX10_command_261 (by decide) (fun hc => ?_) (fun hc => ?_)
              · replace hf := if_t hc hf
                refine lv_aload_n hx hb dX10_command_266 rfl (lv_at hl 6 rfl) ?_
                refine lv_aload_n hx hb dX10_command_267 rfl (lv_at hl 6 rfl) ?_
                refine k_get C hE hW iX10 0 rfl rfl 6 (by decide) f19 (fun _ h9 => h9) rfl dX10_command_268 ?_
                refine lv_iload_n hx hb dX10_command_271 rfl (lv_at hl 4 rfl) ?_
                obtain ⟨⟨w53, w54⟩, h55, hf⟩ := bd1_s hf
                replace hf := un2_s hf
                refine k_callV (b := q) (ci := 9) (qb := 0) (As := [.ref q_trial, .int (irm (p0 / 1000) 10)]) (n := 2) (rest := []) (st1 := []) (wr := []) (ws' := [(q, .inr (9, [.int u_refusal, .ref q_script, .int u_scriptSize, .int u_spot, .ref q_readRow, .ref q_now, .ref q_trial, .ref q_diary, .int u_acts, .ref q_kept, .ref q_isKept, .int u_slides, .ref q_sums, .ref q_primes, .ref q_turned])), (q_trial, .inl (cI, 84, .inl w54)), (q_turned, .inl (cI, 42, .inl w53))]) C hE hW hl.1 (kX10_transposeOn l D cI cZ cJ _ q q_turned q_trial q_script q_readRow q_now q_trial q_diary q_kept q_isKept q_sums q_primes u_refusal u_scriptSize u_spot u_acts u_slides u_turned u_trial (irm (p0 / 1000) 10) w53 w54 h55) gX10_command_X10_transposeOn rfl (by decide +kernel) rfl ⟨Nat.le_of_ble_eq_true rfl, Nat.le_of_ble_eq_true rfl⟩ ⟨Nat.zero_le _, Nat.zero_le _⟩ rfl rfl [0, 2, 1] [] [0, 2, 1] rfl rfl rfl rfl (by decide) rfl rfl (Nat.le_of_ble_eq_true rfl) rfl rfl dX10_command_272 (fun H locs hW => ?_)
                refine lv_iconst (v := 1) hx hb dX10_command_275 (by decide) ?_
                obtain ⟨rfl, rfl, rfl, rfl⟩ := sm4 hf
                exact k_zret C hlocks hr hW (by decide) hQ dX10_command_276
              · replace hf := if_f hc hf
                refine lv_iconst (v := 0) hx hb dX10_command_264 (by decide) ?_
                obtain ⟨rfl, rfl, rfl, rfl⟩ := sm4 hf
                exact k_zret C hlocks hr hW (by decide) hQ dX10_command_265
            · replace hf := if_f hs4 hf
              by_cases hs5 : (p0 / 10000) = 5
              · replace hf := if_t hs5 hf
                refine lv_tableIn (off := 189) (tgt := 277) hx hb dX10_command_88 (by rw [hs5]; decide) (by rw [hs5]; decide) (by rw [hs5]; decide +kernel) (by decide) ?_
                refine lv_iload hx hb dX10_command_277 (lv_at hl 3 rfl) ?_
                refine lv_if_ne (tgt := 299) hx hb dX10_command_279 (by decide) (fun hc => ?_) (fun hc => ?_)
                · replace hf := if_f hc hf
                  refine lv_iconst (v := 0) hx hb dX10_command_299 (by decide) ?_
                  obtain ⟨rfl, rfl, rfl, rfl⟩ := sm4 hf
                  exact k_zret C hlocks hr hW (by decide) hQ dX10_command_300
                · replace hf := if_t hc hf
                  refine lv_aload_n hx hb dX10_command_282 rfl (lv_at hl 6 rfl) ?_
                  refine k_get C hE hW iX10 0 rfl rfl 6 (by decide) f19 (fun _ h9 => h9) rfl dX10_command_283 ?_
                  refine lv_iload_n hx hb dX10_command_286 rfl (lv_at hl 4 rfl) ?_
                  obtain ⟨v56, h57, hf⟩ := bd1_s hf
                  refine k_callSR (As := [.ref q_trial, .int (irm (p0 / 1000) 10)]) (n := 2) (rest := []) (st1 := [.int v56]) C hE hW hl.1 (kX10_many l D cI cZ cJ _ q_trial u_trial (irm (p0 / 1000) 10) v56 h57) gX10_command_X10_many rfl (by decide +kernel) rfl ⟨Nat.le_of_ble_eq_true rfl, Nat.le_of_ble_eq_true rfl⟩ ⟨Nat.zero_le _, Nat.zero_le _⟩ [1] rfl rfl (Nat.le_of_ble_eq_true rfl) rfl rfl dX10_command_287 (fun H locs hW => ?_)
                  refine lv_iload hx hb dX10_command_290 (lv_at hl 0 rfl) ?_
                  refine lv_icmp_ne (tgt := 299) hx hb dX10_command_292 (by decide) (fun hc => ?_) (fun hc => ?_)
                  · replace hf := if_f hc hf
                    refine lv_iconst (v := 0) hx hb dX10_command_299 (by decide) ?_
                    obtain ⟨rfl, rfl, rfl, rfl⟩ := sm4 hf
                    exact k_zret C hlocks hr hW (by decide) hQ dX10_command_300
                  · replace hf := if_t hc hf
                    refine lv_iconst (v := 1) hx hb dX10_command_295 (by decide) ?_
                    refine lv_goto (tgt := 300) hx hb dX10_command_296 (by decide) ?_
                    obtain ⟨rfl, rfl, rfl, rfl⟩ := sm4 hf
                    exact k_zret C hlocks hr hW (by decide) hQ dX10_command_300
              · replace hf := if_f hs5 hf
                by_cases hs6 : (p0 / 10000) = 6
                · replace hf := if_t hs6 hf
                  refine lv_tableIn (off := 213) (tgt := 301) hx hb dX10_command_88 (by rw [hs6]; decide) (by rw [hs6]; decide) (by rw [hs6]; decide +kernel) (by decide) ?_
                  refine lv_iload hx hb dX10_command_301 (lv_at hl 3 rfl) ?_
                  refine lv_if_ne (tgt := 323) hx hb dX10_command_303 (by decide) (fun hc => ?_) (fun hc => ?_)
                  · replace hf := if_f hc hf
                    refine lv_iconst (v := 0) hx hb dX10_command_323 (by decide) ?_
                    obtain ⟨rfl, rfl, rfl, rfl⟩ := sm4 hf
                    exact k_zret C hlocks hr hW (by decide) hQ dX10_command_324
                  · replace hf := if_t hc hf
                    refine lv_aload_n hx hb dX10_command_306 rfl (lv_at hl 6 rfl) ?_
                    refine k_get C hE hW iX10 0 rfl rfl 6 (by decide) f19 (fun _ h9 => h9) rfl dX10_command_307 ?_
                    refine lv_iload_n hx hb dX10_command_310 rfl (lv_at hl 4 rfl) ?_
                    refine lv_iload hx hb dX10_command_311 (lv_at hl 0 rfl) ?_
                    obtain ⟨v58, h59, hf⟩ := bd1_s hf
                    refine k_callSR (As := [.ref q_trial, .int (irm (p0 / 1000) 10), .int (irm p0 100)]) (n := 3) (rest := []) (st1 := [.int v58]) C hE hW hl.1 (kX10_has l D cI cZ cJ _ q_trial u_trial (irm (p0 / 1000) 10) (irm p0 100) v58 h59) gX10_command_X10_has rfl (by decide +kernel) rfl ⟨Nat.le_of_ble_eq_true rfl, Nat.le_of_ble_eq_true rfl⟩ ⟨Nat.zero_le _, Nat.zero_le _⟩ [1] rfl rfl (Nat.le_of_ble_eq_true rfl) rfl rfl dX10_command_313 (fun H locs hW => ?_)
                    refine lv_if_eq (tgt := 323) hx hb dX10_command_316 (by decide) (fun hc => ?_) (fun hc => ?_)
                    · replace hf := if_t hc hf
                      refine lv_iconst (v := 0) hx hb dX10_command_323 (by decide) ?_
                      obtain ⟨rfl, rfl, rfl, rfl⟩ := sm4 hf
                      exact k_zret C hlocks hr hW (by decide) hQ dX10_command_324
                    · replace hf := if_f hc hf
                      refine lv_iconst (v := 1) hx hb dX10_command_319 (by decide) ?_
                      refine lv_goto (tgt := 324) hx hb dX10_command_320 (by decide) ?_
                      obtain ⟨rfl, rfl, rfl, rfl⟩ := sm4 hf
                      exact k_zret C hlocks hr hW (by decide) hQ dX10_command_324
                · replace hf := if_f hs6 hf
                  by_cases hs7 : (p0 / 10000) = 7
                  · replace hf := if_t hs7 hf
                    refine lv_tableIn (off := 237) (tgt := 325) hx hb dX10_command_88 (by rw [hs7]; decide) (by rw [hs7]; decide) (by rw [hs7]; decide +kernel) (by decide) ?_
                    refine lv_iload hx hb dX10_command_325 (lv_at hl 3 rfl) ?_
                    refine lv_if_ne (tgt := 359) hx hb dX10_command_327 (by decide) (fun hc => ?_) (fun hc => ?_)
                    · replace hf := if_f hc hf
                      refine lv_iconst (v := 0) hx hb dX10_command_359 (by decide) ?_
                      obtain ⟨rfl, rfl, rfl, rfl⟩ := sm4 hf
                      exact k_zret C hlocks hr hW (by decide) hQ dX10_command_360
                    · replace hf := if_t hc hf
                      refine lv_aload_n hx hb dX10_command_330 rfl (lv_at hl 6 rfl) ?_
                      refine k_get C hE hW iX10 0 rfl rfl 6 (by decide) f19 (fun _ h9 => h9) rfl dX10_command_331 ?_
                      refine lv_iload_n hx hb dX10_command_334 rfl (lv_at hl 4 rfl) ?_
                      obtain ⟨v60, h61, hf⟩ := bd1_s hf
                      refine k_callSR (As := [.ref q_trial, .int (irm (p0 / 1000) 10)]) (n := 2) (rest := []) (st1 := [.int v60]) C hE hW hl.1 (kX10_many l D cI cZ cJ _ q_trial u_trial (irm (p0 / 1000) 10) v60 h61) gX10_command_X10_many rfl (by decide +kernel) rfl ⟨Nat.le_of_ble_eq_true rfl, Nat.le_of_ble_eq_true rfl⟩ ⟨Nat.zero_le _, Nat.zero_le _⟩ [1] rfl rfl (Nat.le_of_ble_eq_true rfl) rfl rfl dX10_command_335 (fun H locs hW => ?_)
                      refine lv_if_le (tgt := 359) hx hb dX10_command_338 (by decide) (fun hc => ?_) (fun hc => ?_)
                      · replace hf := if_t hc hf
                        refine lv_iconst (v := 0) hx hb dX10_command_359 (by decide) ?_
                        obtain ⟨rfl, rfl, rfl, rfl⟩ := sm4 hf
                        exact k_zret C hlocks hr hW (by decide) hQ dX10_command_360
                      · replace hf := if_f hc hf
                        refine lv_aload_n hx hb dX10_command_341 rfl (lv_at hl 6 rfl) ?_
                        refine k_get C hE hW iX10 0 rfl rfl 6 (by decide) f19 (fun _ h9 => h9) rfl dX10_command_342 ?_
                        refine lv_iload_n hx hb dX10_command_345 rfl (lv_at hl 4 rfl) ?_
                        refine lv_iconst (v := 1) hx hb dX10_command_346 (by decide) ?_
                        obtain ⟨v62, h63, hf⟩ := bd1_s hf
                        refine k_callSR (As := [.ref q_trial, .int (irm (p0 / 1000) 10), .int 1]) (n := 3) (rest := []) (st1 := [.int v62]) C hE hW hl.1 (kX10_extreme l D cI cZ cJ _ q_trial u_trial (irm (p0 / 1000) 10) 1 v62 h63) gX10_command_X10_extreme rfl (by decide +kernel) rfl ⟨Nat.le_of_ble_eq_true rfl, Nat.le_of_ble_eq_true rfl⟩ ⟨Nat.zero_le _, Nat.zero_le _⟩ [1] rfl rfl (Nat.le_of_ble_eq_true rfl) rfl rfl dX10_command_347 (fun H locs hW => ?_)
                        refine lv_iload hx hb dX10_command_350 (lv_at hl 0 rfl) ?_
                        refine lv_icmp_gt (tgt := 359) hx hb dX10_command_352 (by decide) (fun hc => ?_) (fun hc => ?_)
                        · replace hf := if_t hc hf
                          refine lv_iconst (v := 0) hx hb dX10_command_359 (by decide) ?_
                          obtain ⟨rfl, rfl, rfl, rfl⟩ := sm4 hf
                          exact k_zret C hlocks hr hW (by decide) hQ dX10_command_360
                        · replace hf := if_f hc hf
                          refine lv_iconst (v := 1) hx hb dX10_command_355 (by decide) ?_
                          refine lv_goto (tgt := 360) hx hb dX10_command_356 (by decide) ?_
                          obtain ⟨rfl, rfl, rfl, rfl⟩ := sm4 hf
                          exact k_zret C hlocks hr hW (by decide) hQ dX10_command_360
                  · replace hf := if_f hs7 hf
                    refine lv_tableOut (tgt := 361) hx hb dX10_command_88 (kt_out7_1 hs1 hs2 hs3 hs4 hs5 hs6 hs7) (by decide) ?_
                    refine lv_iconst (v := 0) hx hb dX10_command_361 (by decide) ?_
                    obtain ⟨rfl, rfl, rfl, rfl⟩ := sm4 hf
                    exact k_zret C hlocks hr hW (by decide) hQ dX10_command_362
    · replace hf := if_t hc hf
      refine lv_iconst (v := 0) hx hb dX10_command_85 (by decide) ?_
      obtain ⟨rfl, rfl, rfl, rfl⟩ := sm4 hf
      exact k_zret C hlocks hr hW (by decide) hQ dX10_command_86
  · replace hf := if_t hc hf
    refine lv_iload_n hx hb dX10_command_51 rfl (lv_at hl 4 rfl) ?_
    refine lv_if_ne (tgt := 76) hx hb dX10_command_52 (by decide) (fun hc => ?_) (fun hc => ?_)
    · replace hf := if_f hc hf
      refine lv_iconst (v := 0) hx hb dX10_command_76 (by decide) ?_
      obtain ⟨rfl, rfl, rfl, rfl⟩ := sm4 hf
      exact k_zret C hlocks hr hW (by decide) hQ dX10_command_77
    · replace hf := if_t hc hf
      refine lv_aload_n hx hb dX10_command_55 rfl (lv_at hl 6 rfl) ?_
      refine k_get C hE hW iX10 0 rfl rfl 6 (by decide) f19 (fun _ h9 => h9) rfl dX10_command_56 ?_
      refine lv_bipush (v := 99) hx hb dX10_command_59 (by decide) ?_
      obtain ⟨v64, h65, hf⟩ := bd1_s hf
      refine k_callSR (As := [.ref q_trial, .int 99]) (n := 2) (rest := []) (st1 := [.int v64]) C hE hW hl.1 (kX10_pairsOf l D cI cZ cJ _ q_trial u_trial 99 v64 h65) gX10_command_X10_pairsOf rfl (by decide +kernel) rfl ⟨Nat.le_of_ble_eq_true rfl, Nat.le_of_ble_eq_true rfl⟩ ⟨Nat.zero_le _, Nat.zero_le _⟩ [1] rfl rfl (Nat.le_of_ble_eq_true rfl) rfl rfl dX10_command_61 (fun H locs hW => ?_)
      refine lv_iload_n hx hb dX10_command_64 rfl (lv_at hl 7 rfl) ?_
      refine lv_sipush (v := 1000) hx hb dX10_command_65 (by decide) ?_
      refine lv_irem hx hb dX10_command_68 (by decide) ?_
      refine lv_icmp_ne (tgt := 76) hx hb dX10_command_69 (by decide) (fun hc => ?_) (fun hc => ?_)
      · replace hf := if_f hc hf
        refine lv_iconst (v := 0) hx hb dX10_command_76 (by decide) ?_
        obtain ⟨rfl, rfl, rfl, rfl⟩ := sm4 hf
        exact k_zret C hlocks hr hW (by decide) hQ dX10_command_77
      · replace hf := if_t hc hf
        refine lv_iconst (v := 1) hx hb dX10_command_72 (by decide) ?_
        refine lv_goto (tgt := 77) hx hb dX10_command_73 (by decide) ?_
        obtain ⟨rfl, rfl, rfl, rfl⟩ := sm4 hf
        exact k_zret C hlocks hr hW (by decide) hQ dX10_command_77

set_option maxHeartbeats 4000000 in
set_option maxRecDepth 100000 in
theorem kX10_runScript (l : Launch) (D : va_G) (cI cZ cJ : ClassId) (sz : Nat) (q q_now q_trial q_turned q_script q_readRow q_diary q_kept q_isKept q_sums q_primes : Nat) (u_refusal : Int32) (u_scriptSize : Int32) (u_spot : Int32) (u_acts : Int32) (u_slides : Int32) (u_now : Nat → Int32) (u_trial : Nat → Int32) (u_turned : Nat → Int32) (p0 : Int32) (p1 : Int64) (r : Int32) (u_refusal' : Int32) (u_slides' : Int32) (u_trial' : Nat → Int32) (u_turned' : Nat → Int32) (hf : pX10_runScript u_refusal u_slides u_now u_trial u_turned p0 p1 = some (r, u_refusal', u_slides', u_trial', u_turned')) : kMet l D cI cZ cJ yX10_runScript wsX10_runScript 6 150 [.ref q, .int p0, .long p1] [(q, .inr (9, [.int u_refusal, .ref q_script, .int u_scriptSize, .int u_spot, .ref q_readRow, .ref q_now, .ref q_trial, .ref q_diary, .int u_acts, .ref q_kept, .ref q_isKept, .int u_slides, .ref q_sums, .ref q_primes, .ref q_turned])), (q_now, .inl (cI, 84, .inl u_now)), (q_trial, .inl (cI, 84, .inl u_trial)), (q_turned, .inl (cI, 42, .inl u_turned))] sz (some (.int r)) [(q, .inr (9, [.int u_refusal', .ref q_script, .int u_scriptSize, .int u_spot, .ref q_readRow, .ref q_now, .ref q_trial, .ref q_diary, .int u_acts, .ref q_kept, .ref q_isKept, .int u_slides', .ref q_sums, .ref q_primes, .ref q_turned])), (q_now, .inl (cI, 84, .inl u_now)), (q_trial, .inl (cI, 84, .inl u_trial')), (q_turned, .inl (cI, 42, .inl u_turned'))] := by
  refine kM_of (cc := cX10_runScript) (maxL := 5) (ret := (some .int)) (by decide) rfl (Nat.le_of_ble_eq_true rfl) ?_
  intro p e s m args below meth c A Q ls hQ C hlocks hr hE hW hl
  have hx := C.1
  have hb := C.2.1
  have hts := C.2.2.2.2
  have hl : lv_has ls 5 [(0, .ref q), (1, .int p0), (2, .long p1)] := hl
  have iX10 : ∀ w ∈ u_ws RX10 TX10 15, w ∈ wsX10_runScript := by decide +kernel
  have f16 := hts (.fieldLink RX10 16 "SortedTablesModel" "now" "[I") (by decide +kernel)
  have f19 := hts (.fieldLink RX10 19 "SortedTablesModel" "trial" "[I") (by decide +kernel)
  unfold pX10_runScript at hf
  refine lv_aload_n hx hb dX10_runScript_0 rfl (lv_at hl 0 rfl) ?_
  refine lv_iload_n hx hb dX10_runScript_1 rfl (lv_at hl 1 rfl) ?_
  refine lv_i2l hx hb dX10_runScript_2 rfl ?_
  refine lv_lconst (v := 1) hx hb dX10_runScript_3 (by decide) ?_
  refine lv_ldc2 (v := 3) hx hb C.2.2.2.1 (hts (.constantLong RX10 211 (3)) (by decide +kernel)) dX10_runScript_4 ?_
  obtain ⟨v1, h2, hf⟩ := bd1_s hf
  refine k_callSR (As := [.long (p0 : Int32).toInt64, .long 1, .long 3]) (n := 3) (rest := [.ref q]) (st1 := [.int v1, .ref q]) C hE hW hl.1 (kX10_in l D cI cZ cJ _ (p0 : Int32).toInt64 1 3 v1 h2) gX10_runScript_X10_in rfl (by decide +kernel) rfl ⟨Nat.le_of_ble_eq_true rfl, Nat.le_of_ble_eq_true rfl⟩ ⟨Nat.zero_le _, Nat.zero_le _⟩ [] rfl rfl (Nat.le_of_ble_eq_true rfl) rfl rfl dX10_runScript_7 (fun H locs hW => ?_)
  obtain ⟨j3, hd4, hf⟩ := bd1_s hf
  have J5 : ∀ (H : Heap) (locs : List Loc) (ls : Array Slot), kH D A s H locs [(q, .inr (9, [.int u_refusal, .ref q_script, .int u_scriptSize, .int u_spot, .ref q_readRow, .ref q_now, .ref q_trial, .ref q_diary, .int u_acts, .ref q_kept, .ref q_isKept, .int u_slides, .ref q_sums, .ref q_primes, .ref q_turned])), (q_now, .inl (cI, 84, .inl u_now)), (q_trial, .inl (cI, 84, .inl u_trial)), (q_turned, .inl (cI, 42, .inl u_turned))] → lv_has ls 5 [(0, .ref q), (1, .int p0), (2, .long p1)] → W p l e (kRm 6 150 0 0) s m args below meth c H locs 0 0 Q (F0 m 34 ls [.int j3, .ref q]) := by
    intro H locs ls hW hl
    obtain ⟨⟨v10, w11⟩, h12, hf⟩ := bd1_s hf
    replace hf := un2_s hf
    refine k_callV (b := q) (ci := 9) (qb := 0) (As := [.int j3]) (n := 1) (rest := []) (st1 := [.int v10]) (wr := [(q_now, .inl (cI, 84, .inl u_now)), (q_trial, .inl (cI, 84, .inl u_trial)), (q_turned, .inl (cI, 42, .inl u_turned))]) (ws' := [(q, .inr (9, [.int w11, .ref q_script, .int u_scriptSize, .int u_spot, .ref q_readRow, .ref q_now, .ref q_trial, .ref q_diary, .int u_acts, .ref q_kept, .ref q_isKept, .int u_slides, .ref q_sums, .ref q_primes, .ref q_turned])), (q_now, .inl (cI, 84, .inl u_now)), (q_trial, .inl (cI, 84, .inl u_trial)), (q_turned, .inl (cI, 42, .inl u_turned))]) C hE hW hl.1 (kX10_refused l D cI cZ cJ _ q q_script q_readRow q_now q_trial q_diary q_kept q_isKept q_sums q_primes q_turned u_refusal u_scriptSize u_spot u_acts u_slides j3 v10 w11 h12) gX10_runScript_X10_refused rfl (by decide +kernel) rfl ⟨Nat.le_of_ble_eq_true rfl, Nat.le_of_ble_eq_true rfl⟩ ⟨Nat.zero_le _, Nat.zero_le _⟩ rfl rfl [0] [1, 2, 3] [3, 0, 1, 2] rfl rfl rfl rfl (by decide) rfl rfl (Nat.le_of_ble_eq_true rfl) rfl rfl dX10_runScript_34 (fun H locs hW => ?_)
    refine lv_if_eq (tgt := 42) hx hb dX10_runScript_37 (by decide) (fun hc => ?_) (fun hc => ?_)
    · replace hf := if_t hc hf
      refine lv_aload_n hx hb dX10_runScript_42 rfl (lv_at hl 0 rfl) ?_
      refine k_get C hE hW iX10 0 rfl rfl 5 (by decide) f16 (fun _ h9 => h9) rfl dX10_runScript_43 ?_
      refine lv_iconst (v := 0) hx hb dX10_runScript_46 (by decide) ?_
      refine lv_aload_n hx hb dX10_runScript_47 rfl (lv_at hl 0 rfl) ?_
      refine k_get C hE hW iX10 0 rfl rfl 6 (by decide) f19 (fun _ h9 => h9) rfl dX10_runScript_48 ?_
      refine lv_iconst (v := 0) hx hb dX10_runScript_51 (by decide) ?_
      refine lv_bipush (v := 84) hx hb dX10_runScript_52 (by decide) ?_
      obtain ⟨w13, h14, hf⟩ := bd1_s hf
      refine k_callS (As := [.ref q_now, .int 0, .ref q_trial, .int 0, .int 84]) (n := 5) (rest := []) (st1 := []) (wr := [(q, .inr (9, [.int w11, .ref q_script, .int u_scriptSize, .int u_spot, .ref q_readRow, .ref q_now, .ref q_trial, .ref q_diary, .int u_acts, .ref q_kept, .ref q_isKept, .int u_slides, .ref q_sums, .ref q_primes, .ref q_turned])), (q_turned, .inl (cI, 42, .inl u_turned))]) (ws' := [(q, .inr (9, [.int w11, .ref q_script, .int u_scriptSize, .int u_spot, .ref q_readRow, .ref q_now, .ref q_trial, .ref q_diary, .int u_acts, .ref q_kept, .ref q_isKept, .int u_slides, .ref q_sums, .ref q_primes, .ref q_turned])), (q_now, .inl (cI, 84, .inl u_now)), (q_trial, .inl (cI, 84, .inl w13)), (q_turned, .inl (cI, 42, .inl u_turned))]) C hE hW hl.1 (kX10_copy l D cI cZ cJ _ q_now q_trial 84 84 u_now u_trial 0 0 84 w13 h14) gX10_runScript_X10_copy rfl (by decide +kernel) rfl ⟨Nat.le_of_ble_eq_true rfl, Nat.le_of_ble_eq_true rfl⟩ ⟨Nat.zero_le _, Nat.zero_le _⟩ [1, 2] [0, 3] [0, 2, 3, 1] rfl rfl rfl rfl (by decide) rfl rfl (Nat.le_of_ble_eq_true rfl) rfl rfl dX10_runScript_54 (fun H locs hW => ?_)
      refine lv_iconst (v := 0) hx hb dX10_runScript_57 (by decide) ?_
      refine lv_istore (lv' := [(4, .int 0), (0, .ref q), (1, .int p0), (2, .long p1)]) hx hb dX10_runScript_58 hl (by decide) rfl (fun ls hl => ?_)
      obtain ⟨xx26, hx230, hf⟩ := bd1_s hf
      have J24 : ∀ (w19 : Int32) (w20 : Nat → Int32) (w21 : Nat → Int32), pX10_runScript_R100 w11 w19 w20 w21 = some (r, u_refusal', u_slides', u_trial', u_turned') → ∀ (H : Heap) (locs : List Loc) (ls : Array Slot), kH D A s H locs [(q, .inr (9, [.int w11, .ref q_script, .int u_scriptSize, .int u_spot, .ref q_readRow, .ref q_now, .ref q_trial, .ref q_diary, .int u_acts, .ref q_kept, .ref q_isKept, .int w19, .ref q_sums, .ref q_primes, .ref q_turned])), (q_now, .inl (cI, 84, .inl u_now)), (q_trial, .inl (cI, 84, .inl w20)), (q_turned, .inl (cI, 42, .inl w21))] → lv_has ls 5 [] → W p l e (kRm 6 150 0 0) s m args below meth c H locs 0 0 Q (F0 m 100 ls []) := by
        intro w19 w20 w21 hf H locs ls hW hl
        unfold pX10_runScript_R100 at hf
        refine lv_bipush (v := (-9)) hx hb dX10_runScript_100 (by decide) ?_
        obtain ⟨rfl, rfl, rfl, rfl, rfl⟩ := sm5 hf
        exact k_iret C hlocks hr hW hQ dX10_runScript_102
      have L25 : ∀ (n : Nat) (i15 : Int32) (w16 : Int32) (w17 : Nat → Int32) (w18 : Nat → Int32), lpI n (un4 (pX10_runScript_L60 p0 p1 w11)) (i15, w16, w17, w18) = some xx26 → ∀ (H : Heap) (locs : List Loc) (ls : Array Slot), kH D A s H locs [(q, .inr (9, [.int w11, .ref q_script, .int u_scriptSize, .int u_spot, .ref q_readRow, .ref q_now, .ref q_trial, .ref q_diary, .int u_acts, .ref q_kept, .ref q_isKept, .int w16, .ref q_sums, .ref q_primes, .ref q_turned])), (q_now, .inl (cI, 84, .inl u_now)), (q_trial, .inl (cI, 84, .inl w17)), (q_turned, .inl (cI, 42, .inl w18))] → lv_has ls 5 [(4, .int i15), (0, .ref q), (1, .int p0), (2, .long p1)] → W p l e (kRm 6 150 0 0) s m args below meth c H locs 0 0 Q (F0 m 60 ls []) := by
        intro n
        induction n with
        | zero => intro i15 w16 w17 w18 hx23; exact (lpI_0 hx23).elim
        | succ n ih27 =>
          intro i15 w16 w17 w18 hx23 H locs ls hW hl
          obtain ⟨ooho22, ho22, hx23⟩ := lpI_s hx23
          replace ho22 := un4_s ho22
          unfold pX10_runScript_L60 at ho22
          refine lv_iload hx hb dX10_runScript_60 (lv_at hl 0 rfl) ?_
          refine lv_iload_n hx hb dX10_runScript_62 rfl (lv_at hl 2 rfl) ?_
          refine lv_icmp_ge (tgt := 100) hx hb dX10_runScript_63 (by decide) (fun hc => ?_) (fun hc => ?_)
          · replace ho22 := if_t hc ho22
            obtain rfl := Option.some.inj ho22
            obtain rfl := lpK_r hx23
            replace hf := el_r hf
            replace hf := un3_s hf
            exact J24 _ _ _ hf _ _ _ hW (lv_sub hl [] rfl)
          · replace ho22 := if_f hc ho22
            refine lv_aload_n hx hb dX10_runScript_66 rfl (lv_at hl 1 rfl) ?_
            refine lv_lload_n hx hb dX10_runScript_67 rfl (lv_at hl 3 rfl) ?_
            refine lv_iconst (v := 5) hx hb dX10_runScript_68 (by decide) ?_
            refine lv_iload_n hx hb dX10_runScript_69 rfl (lv_at hl 2 rfl) ?_
            refine lv_iconst (v := 1) hx hb dX10_runScript_70 (by decide) ?_
            refine lv_isub hx hb dX10_runScript_71 ?_
            refine lv_iload hx hb dX10_runScript_72 (lv_at hl 0 rfl) ?_
            refine lv_isub hx hb dX10_runScript_74 ?_
            refine lv_imul hx hb dX10_runScript_75 ?_
            obtain ⟨v28, h29, ho22⟩ := bd1_s ho22
            refine k_callSR (As := [.int (5 * ((p0 - 1) - i15))]) (n := 1) (rest := [.long p1, .ref q]) (st1 := [.long v28, .long p1, .ref q]) C hE hW hl.1 (kX10_tenTo l D cI cZ cJ _ (5 * ((p0 - 1) - i15)) v28 h29) gX10_runScript_X10_tenTo rfl (by decide +kernel) rfl ⟨Nat.le_of_ble_eq_true rfl, Nat.le_of_ble_eq_true rfl⟩ ⟨Nat.zero_le _, Nat.zero_le _⟩ [] rfl rfl (Nat.le_of_ble_eq_true rfl) rfl rfl dX10_runScript_76 (fun H locs hW => ?_)
            obtain ⟨v30, h31, ho22⟩ := bd1_s ho22
            refine k_ldiv C h31 dX10_runScript_79 ?_
            refine lv_ldc2 (v := 100000) hx hb C.2.2.2.1 (hts (.constantLong RX10 217 (100000)) (by decide +kernel)) dX10_runScript_80 ?_
            refine lv_lrem hx hb dX10_runScript_83 (by decide) ?_
            refine lv_l2i hx hb dX10_runScript_84 rfl ?_
            obtain ⟨⟨v32, w33, w34, w35⟩, h36, ho22⟩ := bd1_s ho22
            replace ho22 := un4_s ho22
            refine k_callV (b := q) (ci := 9) (qb := 0) (As := [.int ((lrm v30 100000) : Int64).toInt32]) (n := 1) (rest := []) (st1 := [.int v32]) (wr := [(q_now, .inl (cI, 84, .inl u_now))]) (ws' := [(q, .inr (9, [.int w11, .ref q_script, .int u_scriptSize, .int u_spot, .ref q_readRow, .ref q_now, .ref q_trial, .ref q_diary, .int u_acts, .ref q_kept, .ref q_isKept, .int w33, .ref q_sums, .ref q_primes, .ref q_turned])), (q_now, .inl (cI, 84, .inl u_now)), (q_trial, .inl (cI, 84, .inl w34)), (q_turned, .inl (cI, 42, .inl w35))]) C hE hW hl.1 (kX10_command l D cI cZ cJ _ q q_trial q_turned q_script q_readRow q_now q_diary q_kept q_isKept q_sums q_primes w11 u_scriptSize u_spot u_acts w16 w17 w18 ((lrm v30 100000) : Int64).toInt32 v32 w33 w34 w35 h36) gX10_runScript_X10_command rfl (by decide +kernel) rfl ⟨Nat.le_of_ble_eq_true rfl, Nat.le_of_ble_eq_true rfl⟩ ⟨Nat.zero_le _, Nat.zero_le _⟩ rfl rfl [0, 2, 3] [1] [1, 0, 2, 3] rfl rfl rfl rfl (by decide) rfl rfl (Nat.le_of_ble_eq_true rfl) rfl rfl dX10_runScript_85 (fun H locs hW => ?_)
            refine lv_if_ne (tgt := 94) hx hb dX10_runScript_88 (by decide) (fun hc => ?_) (fun hc => ?_)
            · replace ho22 := if_f hc ho22
              refine lv_iinc (v := (i15 + 1)) (lv' := [(4, .int (i15 + 1)), (0, .ref q), (1, .int p0), (2, .long p1)]) hx hb dX10_runScript_94 hl (k := 0) rfl rfl (by decide) rfl (fun ls hl => ?_)
              refine lv_goto (tgt := 60) hx hb dX10_runScript_97 (by decide) ?_
              obtain rfl := Option.some.inj ho22
              exact ih27 _ _ _ _ hx23 _ _ _ hW (lv_sub hl [0, 1, 2, 3] rfl)
            · replace ho22 := if_t hc ho22
              refine lv_iload hx hb dX10_runScript_91 (lv_at hl 0 rfl) ?_
              obtain rfl := Option.some.inj ho22
              obtain rfl := lpK_r hx23
              replace hf := el_l hf
              replace hf := un5_s hf
              obtain ⟨rfl, rfl, rfl, rfl, rfl⟩ := sm5 hf
              exact k_iret C hlocks hr hW hQ dX10_runScript_93
      exact L25 lpF _ _ _ _ hx230 _ _ _ hW (lv_sub hl [0, 1, 2, 3] rfl)
    · replace hf := if_f hc hf
      refine lv_iconst (v := 0) hx hb dX10_runScript_40 (by decide) ?_
      obtain ⟨rfl, rfl, rfl, rfl, rfl⟩ := sm5 hf
      exact k_iret C hlocks hr hW hQ dX10_runScript_41
  refine lv_if_eq (tgt := 33) hx hb dX10_runScript_10 (by decide) (fun hc => ?_) (fun hc => ?_)
  · replace hd4 := if_t hc hd4
    refine lv_iconst (v := 1) hx hb dX10_runScript_33 (by decide) ?_
    obtain rfl := Option.some.inj hd4
    exact J5 _ _ _ hW (lv_sub hl [0, 1, 2] rfl)
  · replace hd4 := if_f hc hd4
    refine lv_lload_n hx hb dX10_runScript_13 rfl (lv_at hl 2 rfl) ?_
    refine lv_lconst (v := 0) hx hb dX10_runScript_14 (by decide) ?_
    refine lv_iconst (v := 5) hx hb dX10_runScript_15 (by decide) ?_
    refine lv_iload_n hx hb dX10_runScript_16 rfl (lv_at hl 1 rfl) ?_
    refine lv_imul hx hb dX10_runScript_17 ?_
    obtain ⟨v6, h7, hd4⟩ := bd1_s hd4
    refine k_callSR (As := [.int (5 * p0)]) (n := 1) (rest := [.long 0, .long p1, .ref q]) (st1 := [.long v6, .long 0, .long p1, .ref q]) C hE hW hl.1 (kX10_tenTo l D cI cZ cJ _ (5 * p0) v6 h7) gX10_runScript_X10_tenTo rfl (by decide +kernel) rfl ⟨Nat.le_of_ble_eq_true rfl, Nat.le_of_ble_eq_true rfl⟩ ⟨Nat.zero_le _, Nat.zero_le _⟩ [] rfl rfl (Nat.le_of_ble_eq_true rfl) rfl rfl dX10_runScript_18 (fun H locs hW => ?_)
    refine lv_lconst (v := 1) hx hb dX10_runScript_21 (by decide) ?_
    refine lv_lsub hx hb dX10_runScript_22 ?_
    obtain ⟨v8, h9, hd4⟩ := bd1_s hd4
    refine k_callSR (As := [.long p1, .long 0, .long (v6 - 1)]) (n := 3) (rest := [.ref q]) (st1 := [.int v8, .ref q]) C hE hW hl.1 (kX10_in l D cI cZ cJ _ p1 0 (v6 - 1) v8 h9) gX10_runScript_X10_in rfl (by decide +kernel) rfl ⟨Nat.le_of_ble_eq_true rfl, Nat.le_of_ble_eq_true rfl⟩ ⟨Nat.zero_le _, Nat.zero_le _⟩ [] rfl rfl (Nat.le_of_ble_eq_true rfl) rfl rfl dX10_runScript_23 (fun H locs hW => ?_)
    refine lv_if_eq (tgt := 33) hx hb dX10_runScript_26 (by decide) (fun hc => ?_) (fun hc => ?_)
    · replace hd4 := if_t hc hd4
      refine lv_iconst (v := 1) hx hb dX10_runScript_33 (by decide) ?_
      obtain rfl := Option.some.inj hd4
      exact J5 _ _ _ hW (lv_sub hl [0, 1, 2] rfl)
    · replace hd4 := if_f hc hd4
      refine lv_iconst (v := 0) hx hb dX10_runScript_29 (by decide) ?_
      refine lv_goto (tgt := 34) hx hb dX10_runScript_30 (by decide) ?_
      obtain rfl := Option.some.inj hd4
      exact J5 _ _ _ hW (lv_sub hl [0, 1, 2] rfl)

set_option maxHeartbeats 4000000 in
set_option maxRecDepth 100000 in
theorem kX10_simulate (l : Launch) (D : va_G) (cI cZ cJ : ClassId) (sz : Nat) (q q_now q_trial q_script q_readRow q_diary q_kept q_isKept q_sums q_primes q_turned : Nat) (u_refusal : Int32) (u_scriptSize : Int32) (u_spot : Int32) (u_acts : Int32) (u_slides : Int32) (u_now : Nat → Int32) (u_trial : Nat → Int32) (p0 : Int64) (p1 : Int32) (r : Int32) (u_refusal' : Int32) (u_slides' : Int32) (u_trial' : Nat → Int32) (hf : pX10_simulate u_refusal u_slides u_now u_trial p0 p1 = some (r, u_refusal', u_slides', u_trial')) : kMet l D cI cZ cJ yX10_simulate wsX10_simulate 5 118 [.ref q, .long p0, .int p1] [(q, .inr (9, [.int u_refusal, .ref q_script, .int u_scriptSize, .int u_spot, .ref q_readRow, .ref q_now, .ref q_trial, .ref q_diary, .int u_acts, .ref q_kept, .ref q_isKept, .int u_slides, .ref q_sums, .ref q_primes, .ref q_turned])), (q_now, .inl (cI, 84, .inl u_now)), (q_trial, .inl (cI, 84, .inl u_trial))] sz (some (.int r)) [(q, .inr (9, [.int u_refusal', .ref q_script, .int u_scriptSize, .int u_spot, .ref q_readRow, .ref q_now, .ref q_trial, .ref q_diary, .int u_acts, .ref q_kept, .ref q_isKept, .int u_slides', .ref q_sums, .ref q_primes, .ref q_turned])), (q_now, .inl (cI, 84, .inl u_now)), (q_trial, .inl (cI, 84, .inl u_trial'))] := by
  refine kM_of (cc := cX10_simulate) (maxL := 10) (ret := (some .int)) (by decide) rfl (Nat.le_of_ble_eq_true rfl) ?_
  intro p e s m args below meth c A Q ls hQ C hlocks hr hE hW hl
  have hx := C.1
  have hb := C.2.1
  have hts := C.2.2.2.2
  have hl : lv_has ls 10 [(0, .ref q), (1, .long p0), (3, .int p1)] := hl
  have iX10 : ∀ w ∈ u_ws RX10 TX10 15, w ∈ wsX10_simulate := by decide +kernel
  have f16 := hts (.fieldLink RX10 16 "SortedTablesModel" "now" "[I") (by decide +kernel)
  have f19 := hts (.fieldLink RX10 19 "SortedTablesModel" "trial" "[I") (by decide +kernel)
  unfold pX10_simulate at hf
  refine lv_aload_n hx hb dX10_simulate_0 rfl (lv_at hl 0 rfl) ?_
  refine lv_iload_n hx hb dX10_simulate_1 rfl (lv_at hl 2 rfl) ?_
  refine lv_i2l hx hb dX10_simulate_2 rfl ?_
  refine lv_lconst (v := 1) hx hb dX10_simulate_3 (by decide) ?_
  refine lv_ldc2 (v := 60) hx hb C.2.2.2.1 (hts (.constantLong RX10 222 (60)) (by decide +kernel)) dX10_simulate_4 ?_
  obtain ⟨v1, h2, hf⟩ := bd1_s hf
  refine k_callSR (As := [.long (p1 : Int32).toInt64, .long 1, .long 60]) (n := 3) (rest := [.ref q]) (st1 := [.int v1, .ref q]) C hE hW hl.1 (kX10_in l D cI cZ cJ _ (p1 : Int32).toInt64 1 60 v1 h2) gX10_simulate_X10_in rfl (by decide +kernel) rfl ⟨Nat.le_of_ble_eq_true rfl, Nat.le_of_ble_eq_true rfl⟩ ⟨Nat.zero_le _, Nat.zero_le _⟩ [] rfl rfl (Nat.le_of_ble_eq_true rfl) rfl rfl dX10_simulate_7 (fun H locs hW => ?_)
  obtain ⟨j3, hd4, hf⟩ := bd1_s hf
  have J5 : ∀ (H : Heap) (locs : List Loc) (ls : Array Slot), kH D A s H locs [(q, .inr (9, [.int u_refusal, .ref q_script, .int u_scriptSize, .int u_spot, .ref q_readRow, .ref q_now, .ref q_trial, .ref q_diary, .int u_acts, .ref q_kept, .ref q_isKept, .int u_slides, .ref q_sums, .ref q_primes, .ref q_turned])), (q_now, .inl (cI, 84, .inl u_now)), (q_trial, .inl (cI, 84, .inl u_trial))] → lv_has ls 10 [(0, .ref q), (1, .long p0), (3, .int p1)] → W p l e (kRm 5 118 0 0) s m args below meth c H locs 0 0 Q (F0 m 18 ls [.int j3, .ref q]) := by
    intro H locs ls hW hl
    obtain ⟨⟨v6, w7⟩, h8, hf⟩ := bd1_s hf
    replace hf := un2_s hf
    refine k_callV (b := q) (ci := 9) (qb := 0) (As := [.int j3]) (n := 1) (rest := []) (st1 := [.int v6]) (wr := [(q_now, .inl (cI, 84, .inl u_now)), (q_trial, .inl (cI, 84, .inl u_trial))]) (ws' := [(q, .inr (9, [.int w7, .ref q_script, .int u_scriptSize, .int u_spot, .ref q_readRow, .ref q_now, .ref q_trial, .ref q_diary, .int u_acts, .ref q_kept, .ref q_isKept, .int u_slides, .ref q_sums, .ref q_primes, .ref q_turned])), (q_now, .inl (cI, 84, .inl u_now)), (q_trial, .inl (cI, 84, .inl u_trial))]) C hE hW hl.1 (kX10_refused l D cI cZ cJ _ q q_script q_readRow q_now q_trial q_diary q_kept q_isKept q_sums q_primes q_turned u_refusal u_scriptSize u_spot u_acts u_slides j3 v6 w7 h8) gX10_simulate_X10_refused rfl (by decide +kernel) rfl ⟨Nat.le_of_ble_eq_true rfl, Nat.le_of_ble_eq_true rfl⟩ ⟨Nat.zero_le _, Nat.zero_le _⟩ rfl rfl [0] [1, 2] [2, 0, 1] rfl rfl rfl rfl (by decide) rfl rfl (Nat.le_of_ble_eq_true rfl) rfl rfl dX10_simulate_18 (fun H locs hW => ?_)
    refine lv_if_eq (tgt := 26) hx hb dX10_simulate_21 (by decide) (fun hc => ?_) (fun hc => ?_)
    · replace hf := if_t hc hf
      refine lv_aload_n hx hb dX10_simulate_26 rfl (lv_at hl 0 rfl) ?_
      refine k_get C hE hW iX10 0 rfl rfl 5 (by decide) f16 (fun _ h9 => h9) rfl dX10_simulate_27 ?_
      refine lv_iconst (v := 0) hx hb dX10_simulate_30 (by decide) ?_
      refine lv_aload_n hx hb dX10_simulate_31 rfl (lv_at hl 0 rfl) ?_
      refine k_get C hE hW iX10 0 rfl rfl 6 (by decide) f19 (fun _ h9 => h9) rfl dX10_simulate_32 ?_
      refine lv_iconst (v := 0) hx hb dX10_simulate_35 (by decide) ?_
      refine lv_bipush (v := 84) hx hb dX10_simulate_36 (by decide) ?_
      obtain ⟨w9, h10, hf⟩ := bd1_s hf
      refine k_callS (As := [.ref q_now, .int 0, .ref q_trial, .int 0, .int 84]) (n := 5) (rest := []) (st1 := []) (wr := [(q, .inr (9, [.int w7, .ref q_script, .int u_scriptSize, .int u_spot, .ref q_readRow, .ref q_now, .ref q_trial, .ref q_diary, .int u_acts, .ref q_kept, .ref q_isKept, .int u_slides, .ref q_sums, .ref q_primes, .ref q_turned]))]) (ws' := [(q, .inr (9, [.int w7, .ref q_script, .int u_scriptSize, .int u_spot, .ref q_readRow, .ref q_now, .ref q_trial, .ref q_diary, .int u_acts, .ref q_kept, .ref q_isKept, .int u_slides, .ref q_sums, .ref q_primes, .ref q_turned])), (q_now, .inl (cI, 84, .inl u_now)), (q_trial, .inl (cI, 84, .inl w9))]) C hE hW hl.1 (kX10_copy l D cI cZ cJ _ q_now q_trial 84 84 u_now u_trial 0 0 84 w9 h10) gX10_simulate_X10_copy rfl (by decide +kernel) rfl ⟨Nat.le_of_ble_eq_true rfl, Nat.le_of_ble_eq_true rfl⟩ ⟨Nat.zero_le _, Nat.zero_le _⟩ [1, 2] [0] [0, 1, 2] rfl rfl rfl rfl (by decide) rfl rfl (Nat.le_of_ble_eq_true rfl) rfl rfl dX10_simulate_38 (fun H locs hW => ?_)
      refine lv_lload_n hx hb dX10_simulate_41 rfl (lv_at hl 1 rfl) ?_
      refine lv_lstore (lv' := [(4, .long p0), (0, .ref q), (1, .long p0), (3, .int p1)]) hx hb dX10_simulate_42 hl (by decide) rfl (fun ls hl => ?_)
      refine lv_iconst (v := 0) hx hb dX10_simulate_44 (by decide) ?_
      refine lv_istore (lv' := [(6, .int 0), (4, .long p0), (0, .ref q), (1, .long p0), (3, .int p1)]) hx hb dX10_simulate_45 hl (by decide) rfl (fun ls hl => ?_)
      obtain ⟨⟨w15, w16⟩, hx180, hf⟩ := bd1_s hf
      replace hf := un2_s hf
      have J19 : ∀ (H : Heap) (locs : List Loc) (ls : Array Slot), kH D A s H locs [(q, .inr (9, [.int w7, .ref q_script, .int u_scriptSize, .int u_spot, .ref q_readRow, .ref q_now, .ref q_trial, .ref q_diary, .int u_acts, .ref q_kept, .ref q_isKept, .int w15, .ref q_sums, .ref q_primes, .ref q_turned])), (q_now, .inl (cI, 84, .inl u_now)), (q_trial, .inl (cI, 84, .inl w16))] → lv_has ls 10 [(0, .ref q)] → W p l e (kRm 5 118 0 0) s m args below meth c H locs 0 0 Q (F0 m 188 ls []) := by
        intro H locs ls hW hl
        refine lv_aload_n hx hb dX10_simulate_188 rfl (lv_at hl 0 rfl) ?_
        refine k_get C hE hW iX10 0 rfl rfl 6 (by decide) f19 (fun _ h9 => h9) rfl dX10_simulate_189 ?_
        refine lv_iconst (v := 0) hx hb dX10_simulate_192 (by decide) ?_
        obtain ⟨v46, h47, hf⟩ := bd1_s hf
        refine k_callSR (As := [.ref q_trial, .int 0]) (n := 2) (rest := []) (st1 := [.int v46]) C hE hW hl.1 (kX10_sumOf l D cI cZ cJ _ q_trial w16 0 v46 h47) gX10_simulate_X10_sumOf rfl (by decide +kernel) rfl ⟨Nat.le_of_ble_eq_true rfl, Nat.le_of_ble_eq_true rfl⟩ ⟨Nat.zero_le _, Nat.zero_le _⟩ [2] rfl rfl (Nat.le_of_ble_eq_true rfl) rfl rfl dX10_simulate_193 (fun H locs hW => ?_)
        refine lv_aload_n hx hb dX10_simulate_196 rfl (lv_at hl 0 rfl) ?_
        refine k_get C hE hW iX10 0 rfl rfl 6 (by decide) f19 (fun _ h9 => h9) rfl dX10_simulate_197 ?_
        refine lv_iconst (v := 1) hx hb dX10_simulate_200 (by decide) ?_
        obtain ⟨v48, h49, hf⟩ := bd1_s hf
        refine k_callSR (As := [.ref q_trial, .int 1]) (n := 2) (rest := [.int v46]) (st1 := [.int v48, .int v46]) C hE hW hl.1 (kX10_sumOf l D cI cZ cJ _ q_trial w16 1 v48 h49) gX10_simulate_X10_sumOf rfl (by decide +kernel) rfl ⟨Nat.le_of_ble_eq_true rfl, Nat.le_of_ble_eq_true rfl⟩ ⟨Nat.zero_le _, Nat.zero_le _⟩ [2] rfl rfl (Nat.le_of_ble_eq_true rfl) rfl rfl dX10_simulate_201 (fun H locs hW => ?_)
        refine lv_iadd hx hb dX10_simulate_204 ?_
        obtain ⟨rfl, rfl, rfl, rfl⟩ := sm4 hf
        exact k_iret C hlocks hr hW hQ dX10_simulate_205
      have L20 : ∀ (n : Nat) (i11 : Int32) (i12 : Int64) (w13 : Int32) (w14 : Nat → Int32), lpI n (un4 (pX10_simulate_L47 p1)) (i11, i12, w13, w14) = some (w15, w16) → ∀ (H : Heap) (locs : List Loc) (ls : Array Slot), kH D A s H locs [(q, .inr (9, [.int w7, .ref q_script, .int u_scriptSize, .int u_spot, .ref q_readRow, .ref q_now, .ref q_trial, .ref q_diary, .int u_acts, .ref q_kept, .ref q_isKept, .int w13, .ref q_sums, .ref q_primes, .ref q_turned])), (q_now, .inl (cI, 84, .inl u_now)), (q_trial, .inl (cI, 84, .inl w14))] → lv_has ls 10 [(6, .int i11), (4, .long i12), (0, .ref q), (3, .int p1)] → W p l e (kRm 5 118 0 0) s m args below meth c H locs 0 0 Q (F0 m 47 ls []) := by
        intro n
        induction n with
        | zero => intro i11 i12 w13 w14 hx18; exact (lpI_0 hx18).elim
        | succ n ih22 =>
          intro i11 i12 w13 w14 hx18 H locs ls hW hl
          obtain ⟨ooho17, ho17, hx18⟩ := lpI_s hx18
          replace ho17 := un4_s ho17
          unfold pX10_simulate_L47 at ho17
          refine lv_iload hx hb dX10_simulate_47 (lv_at hl 0 rfl) ?_
          refine lv_iload_n hx hb dX10_simulate_49 rfl (lv_at hl 3 rfl) ?_
          refine lv_icmp_ge (tgt := 188) hx hb dX10_simulate_50 (by decide) (fun hc => ?_) (fun hc => ?_)
          · replace ho17 := if_t hc ho17
            obtain rfl := Option.some.inj ho17
            obtain ⟨rfl, rfl⟩ := pr2 (lpK_r hx18)
            exact J19 _ _ _ hW (lv_sub hl [2] rfl)
          · replace ho17 := if_f hc ho17
            refine lv_lload hx hb dX10_simulate_53 (lv_at hl 1 rfl) ?_
            refine lv_ldc2 (v := 6364136223846793005) hx hb C.2.2.2.1 (hts (.constantLong RX10 224 (6364136223846793005)) (by decide +kernel)) dX10_simulate_55 ?_
            refine lv_lmul hx hb dX10_simulate_58 ?_
            refine lv_ldc2 (v := 1442695040888963407) hx hb C.2.2.2.1 (hts (.constantLong RX10 226 (1442695040888963407)) (by decide +kernel)) dX10_simulate_59 ?_
            refine lv_ladd hx hb dX10_simulate_62 ?_
            refine lv_lstore (lv' := [(4, .long ((i12 * 6364136223846793005) + 1442695040888963407)), (6, .int i11), (0, .ref q), (3, .int p1)]) hx hb dX10_simulate_63 hl (by decide) rfl (fun ls hl => ?_)
            refine lv_lload hx hb dX10_simulate_65 (lv_at hl 0 rfl) ?_
            refine lv_bipush (v := 33) hx hb dX10_simulate_67 (by decide) ?_
            refine lv_lushr hx hb dX10_simulate_69 rfl ?_
            refine lv_l2i hx hb dX10_simulate_70 rfl ?_
            refine lv_istore (lv' := [(7, .int (((((i12 * 6364136223846793005) + 1442695040888963407).toUInt64 >>> ((33 : Int32).toInt64.toUInt64 &&& Int64.toUInt64 63)).toInt64) : Int64).toInt32), (4, .long ((i12 * 6364136223846793005) + 1442695040888963407)), (6, .int i11), (0, .ref q), (3, .int p1)]) hx hb dX10_simulate_71 hl (by decide) rfl (fun ls hl => ?_)
            refine lv_iload hx hb dX10_simulate_73 (lv_at hl 0 rfl) ?_
            refine lv_iconst (v := 2) hx hb dX10_simulate_75 (by decide) ?_
            refine lv_irem hx hb dX10_simulate_76 (by decide) ?_
            refine lv_istore (lv' := [(8, .int (irm (((((i12 * 6364136223846793005) + 1442695040888963407).toUInt64 >>> ((33 : Int32).toInt64.toUInt64 &&& Int64.toUInt64 63)).toInt64) : Int64).toInt32 2)), (7, .int (((((i12 * 6364136223846793005) + 1442695040888963407).toUInt64 >>> ((33 : Int32).toInt64.toUInt64 &&& Int64.toUInt64 63)).toInt64) : Int64).toInt32), (4, .long ((i12 * 6364136223846793005) + 1442695040888963407)), (6, .int i11), (0, .ref q), (3, .int p1)]) hx hb dX10_simulate_77 hl (by decide) rfl (fun ls hl => ?_)
            refine lv_iload hx hb dX10_simulate_79 (lv_at hl 1 rfl) ?_
            refine lv_iconst (v := 2) hx hb dX10_simulate_81 (by decide) ?_
            refine lv_idiv hx hb dX10_simulate_82 (by decide) ?_
            refine lv_iconst (v := 4) hx hb dX10_simulate_83 (by decide) ?_
            refine lv_irem hx hb dX10_simulate_84 (by decide) ?_
            refine lv_if_ne (tgt := 149) hx hb dX10_simulate_85 (by decide) (fun hc => ?_) (fun hc => ?_)
            · replace ho17 := if_f hc ho17
              refine lv_aload_n hx hb dX10_simulate_149 rfl (lv_at hl 4 rfl) ?_
              refine k_get C hE hW iX10 0 rfl rfl 6 (by decide) f19 (fun _ h9 => h9) rfl dX10_simulate_150 ?_
              refine lv_iload hx hb dX10_simulate_153 (lv_at hl 0 rfl) ?_
              obtain ⟨v23, h24, ho17⟩ := bd1_s ho17
              refine k_callSR (As := [.ref q_trial, .int (irm (((((i12 * 6364136223846793005) + 1442695040888963407).toUInt64 >>> ((33 : Int32).toInt64.toUInt64 &&& Int64.toUInt64 63)).toInt64) : Int64).toInt32 2)]) (n := 2) (rest := []) (st1 := [.int v23]) C hE hW hl.1 (kX10_gapRow l D cI cZ cJ _ q_trial w14 (irm (((((i12 * 6364136223846793005) + 1442695040888963407).toUInt64 >>> ((33 : Int32).toInt64.toUInt64 &&& Int64.toUInt64 63)).toInt64) : Int64).toInt32 2) v23 h24) gX10_simulate_X10_gapRow rfl (by decide +kernel) rfl ⟨Nat.le_of_ble_eq_true rfl, Nat.le_of_ble_eq_true rfl⟩ ⟨Nat.zero_le _, Nat.zero_le _⟩ [2] rfl rfl (Nat.le_of_ble_eq_true rfl) rfl rfl dX10_simulate_155 (fun H locs hW => ?_)
              refine lv_bipush (v := (-9)) hx hb dX10_simulate_158 (by decide) ?_
              refine lv_icmp_eq (tgt := 182) hx hb dX10_simulate_160 (by decide) (fun hc => ?_) (fun hc => ?_)
              · replace ho17 := if_t hc ho17
                refine lv_iinc (v := (i11 + 1)) (lv' := [(6, .int (i11 + 1)), (8, .int (irm (((((i12 * 6364136223846793005) + 1442695040888963407).toUInt64 >>> ((33 : Int32).toInt64.toUInt64 &&& Int64.toUInt64 63)).toInt64) : Int64).toInt32 2)), (7, .int (((((i12 * 6364136223846793005) + 1442695040888963407).toUInt64 >>> ((33 : Int32).toInt64.toUInt64 &&& Int64.toUInt64 63)).toInt64) : Int64).toInt32), (4, .long ((i12 * 6364136223846793005) + 1442695040888963407)), (0, .ref q), (3, .int p1)]) hx hb dX10_simulate_182 hl (k := 3) rfl rfl (by decide) rfl (fun ls hl => ?_)
                refine lv_goto (tgt := 47) hx hb dX10_simulate_185 (by decide) ?_
                obtain rfl := Option.some.inj ho17
                exact ih22 _ _ _ _ hx18 _ _ _ hW (lv_sub hl [0, 3, 4, 5] rfl)
              · replace ho17 := if_f hc ho17
                refine lv_aload_n hx hb dX10_simulate_163 rfl (lv_at hl 4 rfl) ?_
                refine lv_aload_n hx hb dX10_simulate_164 rfl (lv_at hl 4 rfl) ?_
                refine k_get C hE hW iX10 0 rfl rfl 6 (by decide) f19 (fun _ h9 => h9) rfl dX10_simulate_165 ?_
                refine lv_iload hx hb dX10_simulate_168 (lv_at hl 0 rfl) ?_
                refine lv_iload hx hb dX10_simulate_170 (lv_at hl 1 rfl) ?_
                refine lv_bipush (v := 8) hx hb dX10_simulate_172 (by decide) ?_
                refine lv_idiv hx hb dX10_simulate_174 (by decide) ?_
                refine lv_bipush (v := 100) hx hb dX10_simulate_175 (by decide) ?_
                refine lv_irem hx hb dX10_simulate_177 (by decide) ?_
                obtain ⟨⟨v25, w26, w27⟩, h28, ho17⟩ := bd1_s ho17
                replace ho17 := un3_s ho17
                refine k_callV (b := q) (ci := 9) (qb := 0) (As := [.ref q_trial, .int (irm (((((i12 * 6364136223846793005) + 1442695040888963407).toUInt64 >>> ((33 : Int32).toInt64.toUInt64 &&& Int64.toUInt64 63)).toInt64) : Int64).toInt32 2), .int (irm ((((((i12 * 6364136223846793005) + 1442695040888963407).toUInt64 >>> ((33 : Int32).toInt64.toUInt64 &&& Int64.toUInt64 63)).toInt64) : Int64).toInt32 / 8) 100)]) (n := 3) (rest := []) (st1 := [.int v25]) (wr := [(q_now, .inl (cI, 84, .inl u_now))]) (ws' := [(q, .inr (9, [.int w7, .ref q_script, .int u_scriptSize, .int u_spot, .ref q_readRow, .ref q_now, .ref q_trial, .ref q_diary, .int u_acts, .ref q_kept, .ref q_isKept, .int w26, .ref q_sums, .ref q_primes, .ref q_turned])), (q_now, .inl (cI, 84, .inl u_now)), (q_trial, .inl (cI, 84, .inl w27))]) C hE hW hl.1 (kX10_insertOn l D cI cZ cJ _ q q_trial q_script q_readRow q_now q_trial q_diary q_kept q_isKept q_sums q_primes q_turned w7 u_scriptSize u_spot u_acts w13 w14 (irm (((((i12 * 6364136223846793005) + 1442695040888963407).toUInt64 >>> ((33 : Int32).toInt64.toUInt64 &&& Int64.toUInt64 63)).toInt64) : Int64).toInt32 2) (irm ((((((i12 * 6364136223846793005) + 1442695040888963407).toUInt64 >>> ((33 : Int32).toInt64.toUInt64 &&& Int64.toUInt64 63)).toInt64) : Int64).toInt32 / 8) 100) v25 w26 w27 h28) gX10_simulate_X10_insertOn rfl (by decide +kernel) rfl ⟨Nat.le_of_ble_eq_true rfl, Nat.le_of_ble_eq_true rfl⟩ ⟨Nat.zero_le _, Nat.zero_le _⟩ rfl rfl [0, 2] [1] [1, 0, 2] rfl rfl rfl rfl (by decide) rfl rfl (Nat.le_of_ble_eq_true rfl) rfl rfl dX10_simulate_178 (fun H locs hW => ?_)
                refine lv_pop hx hb dX10_simulate_181 rfl ?_
                refine lv_iinc (v := (i11 + 1)) (lv' := [(6, .int (i11 + 1)), (8, .int (irm (((((i12 * 6364136223846793005) + 1442695040888963407).toUInt64 >>> ((33 : Int32).toInt64.toUInt64 &&& Int64.toUInt64 63)).toInt64) : Int64).toInt32 2)), (7, .int (((((i12 * 6364136223846793005) + 1442695040888963407).toUInt64 >>> ((33 : Int32).toInt64.toUInt64 &&& Int64.toUInt64 63)).toInt64) : Int64).toInt32), (4, .long ((i12 * 6364136223846793005) + 1442695040888963407)), (0, .ref q), (3, .int p1)]) hx hb dX10_simulate_182 hl (k := 3) rfl rfl (by decide) rfl (fun ls hl => ?_)
                refine lv_goto (tgt := 47) hx hb dX10_simulate_185 (by decide) ?_
                obtain rfl := Option.some.inj ho17
                exact ih22 _ _ _ _ hx18 _ _ _ hW (lv_sub hl [0, 3, 4, 5] rfl)
            · replace ho17 := if_t hc ho17
              refine lv_aload_n hx hb dX10_simulate_88 rfl (lv_at hl 4 rfl) ?_
              refine k_get C hE hW iX10 0 rfl rfl 6 (by decide) f19 (fun _ h9 => h9) rfl dX10_simulate_89 ?_
              refine lv_iload hx hb dX10_simulate_92 (lv_at hl 0 rfl) ?_
              obtain ⟨v29, h30, ho17⟩ := bd1_s ho17
              refine k_callSR (As := [.ref q_trial, .int (irm (((((i12 * 6364136223846793005) + 1442695040888963407).toUInt64 >>> ((33 : Int32).toInt64.toUInt64 &&& Int64.toUInt64 63)).toInt64) : Int64).toInt32 2)]) (n := 2) (rest := []) (st1 := [.int v29]) C hE hW hl.1 (kX10_many l D cI cZ cJ _ q_trial w14 (irm (((((i12 * 6364136223846793005) + 1442695040888963407).toUInt64 >>> ((33 : Int32).toInt64.toUInt64 &&& Int64.toUInt64 63)).toInt64) : Int64).toInt32 2) v29 h30) gX10_simulate_X10_many rfl (by decide +kernel) rfl ⟨Nat.le_of_ble_eq_true rfl, Nat.le_of_ble_eq_true rfl⟩ ⟨Nat.zero_le _, Nat.zero_le _⟩ [2] rfl rfl (Nat.le_of_ble_eq_true rfl) rfl rfl dX10_simulate_94 (fun H locs hW => ?_)
              refine lv_if_le (tgt := 149) hx hb dX10_simulate_97 (by decide) (fun hc => ?_) (fun hc => ?_)
              · replace ho17 := if_t hc ho17
                refine lv_aload_n hx hb dX10_simulate_149 rfl (lv_at hl 4 rfl) ?_
                refine k_get C hE hW iX10 0 rfl rfl 6 (by decide) f19 (fun _ h9 => h9) rfl dX10_simulate_150 ?_
                refine lv_iload hx hb dX10_simulate_153 (lv_at hl 0 rfl) ?_
                obtain ⟨v31, h32, ho17⟩ := bd1_s ho17
                refine k_callSR (As := [.ref q_trial, .int (irm (((((i12 * 6364136223846793005) + 1442695040888963407).toUInt64 >>> ((33 : Int32).toInt64.toUInt64 &&& Int64.toUInt64 63)).toInt64) : Int64).toInt32 2)]) (n := 2) (rest := []) (st1 := [.int v31]) C hE hW hl.1 (kX10_gapRow l D cI cZ cJ _ q_trial w14 (irm (((((i12 * 6364136223846793005) + 1442695040888963407).toUInt64 >>> ((33 : Int32).toInt64.toUInt64 &&& Int64.toUInt64 63)).toInt64) : Int64).toInt32 2) v31 h32) gX10_simulate_X10_gapRow rfl (by decide +kernel) rfl ⟨Nat.le_of_ble_eq_true rfl, Nat.le_of_ble_eq_true rfl⟩ ⟨Nat.zero_le _, Nat.zero_le _⟩ [2] rfl rfl (Nat.le_of_ble_eq_true rfl) rfl rfl dX10_simulate_155 (fun H locs hW => ?_)
                refine lv_bipush (v := (-9)) hx hb dX10_simulate_158 (by decide) ?_
                refine lv_icmp_eq (tgt := 182) hx hb dX10_simulate_160 (by decide) (fun hc => ?_) (fun hc => ?_)
                · replace ho17 := if_t hc ho17
                  refine lv_iinc (v := (i11 + 1)) (lv' := [(6, .int (i11 + 1)), (8, .int (irm (((((i12 * 6364136223846793005) + 1442695040888963407).toUInt64 >>> ((33 : Int32).toInt64.toUInt64 &&& Int64.toUInt64 63)).toInt64) : Int64).toInt32 2)), (7, .int (((((i12 * 6364136223846793005) + 1442695040888963407).toUInt64 >>> ((33 : Int32).toInt64.toUInt64 &&& Int64.toUInt64 63)).toInt64) : Int64).toInt32), (4, .long ((i12 * 6364136223846793005) + 1442695040888963407)), (0, .ref q), (3, .int p1)]) hx hb dX10_simulate_182 hl (k := 3) rfl rfl (by decide) rfl (fun ls hl => ?_)
                  refine lv_goto (tgt := 47) hx hb dX10_simulate_185 (by decide) ?_
                  obtain rfl := Option.some.inj ho17
                  exact ih22 _ _ _ _ hx18 _ _ _ hW (lv_sub hl [0, 3, 4, 5] rfl)
                · replace ho17 := if_f hc ho17
                  refine lv_aload_n hx hb dX10_simulate_163 rfl (lv_at hl 4 rfl) ?_
                  refine lv_aload_n hx hb dX10_simulate_164 rfl (lv_at hl 4 rfl) ?_
                  refine k_get C hE hW iX10 0 rfl rfl 6 (by decide) f19 (fun _ h9 => h9) rfl dX10_simulate_165 ?_
                  refine lv_iload hx hb dX10_simulate_168 (lv_at hl 0 rfl) ?_
                  refine lv_iload hx hb dX10_simulate_170 (lv_at hl 1 rfl) ?_
                  refine lv_bipush (v := 8) hx hb dX10_simulate_172 (by decide) ?_
                  refine lv_idiv hx hb dX10_simulate_174 (by decide) ?_
                  refine lv_bipush (v := 100) hx hb dX10_simulate_175 (by decide) ?_
                  refine lv_irem hx hb dX10_simulate_177 (by decide) ?_
                  obtain ⟨⟨v33, w34, w35⟩, h36, ho17⟩ := bd1_s ho17
                  replace ho17 := un3_s ho17
                  refine k_callV (b := q) (ci := 9) (qb := 0) (As := [.ref q_trial, .int (irm (((((i12 * 6364136223846793005) + 1442695040888963407).toUInt64 >>> ((33 : Int32).toInt64.toUInt64 &&& Int64.toUInt64 63)).toInt64) : Int64).toInt32 2), .int (irm ((((((i12 * 6364136223846793005) + 1442695040888963407).toUInt64 >>> ((33 : Int32).toInt64.toUInt64 &&& Int64.toUInt64 63)).toInt64) : Int64).toInt32 / 8) 100)]) (n := 3) (rest := []) (st1 := [.int v33]) (wr := [(q_now, .inl (cI, 84, .inl u_now))]) (ws' := [(q, .inr (9, [.int w7, .ref q_script, .int u_scriptSize, .int u_spot, .ref q_readRow, .ref q_now, .ref q_trial, .ref q_diary, .int u_acts, .ref q_kept, .ref q_isKept, .int w34, .ref q_sums, .ref q_primes, .ref q_turned])), (q_now, .inl (cI, 84, .inl u_now)), (q_trial, .inl (cI, 84, .inl w35))]) C hE hW hl.1 (kX10_insertOn l D cI cZ cJ _ q q_trial q_script q_readRow q_now q_trial q_diary q_kept q_isKept q_sums q_primes q_turned w7 u_scriptSize u_spot u_acts w13 w14 (irm (((((i12 * 6364136223846793005) + 1442695040888963407).toUInt64 >>> ((33 : Int32).toInt64.toUInt64 &&& Int64.toUInt64 63)).toInt64) : Int64).toInt32 2) (irm ((((((i12 * 6364136223846793005) + 1442695040888963407).toUInt64 >>> ((33 : Int32).toInt64.toUInt64 &&& Int64.toUInt64 63)).toInt64) : Int64).toInt32 / 8) 100) v33 w34 w35 h36) gX10_simulate_X10_insertOn rfl (by decide +kernel) rfl ⟨Nat.le_of_ble_eq_true rfl, Nat.le_of_ble_eq_true rfl⟩ ⟨Nat.zero_le _, Nat.zero_le _⟩ rfl rfl [0, 2] [1] [1, 0, 2] rfl rfl rfl rfl (by decide) rfl rfl (Nat.le_of_ble_eq_true rfl) rfl rfl dX10_simulate_178 (fun H locs hW => ?_)
                  refine lv_pop hx hb dX10_simulate_181 rfl ?_
                  refine lv_iinc (v := (i11 + 1)) (lv' := [(6, .int (i11 + 1)), (8, .int (irm (((((i12 * 6364136223846793005) + 1442695040888963407).toUInt64 >>> ((33 : Int32).toInt64.toUInt64 &&& Int64.toUInt64 63)).toInt64) : Int64).toInt32 2)), (7, .int (((((i12 * 6364136223846793005) + 1442695040888963407).toUInt64 >>> ((33 : Int32).toInt64.toUInt64 &&& Int64.toUInt64 63)).toInt64) : Int64).toInt32), (4, .long ((i12 * 6364136223846793005) + 1442695040888963407)), (0, .ref q), (3, .int p1)]) hx hb dX10_simulate_182 hl (k := 3) rfl rfl (by decide) rfl (fun ls hl => ?_)
                  refine lv_goto (tgt := 47) hx hb dX10_simulate_185 (by decide) ?_
                  obtain rfl := Option.some.inj ho17
                  exact ih22 _ _ _ _ hx18 _ _ _ hW (lv_sub hl [0, 3, 4, 5] rfl)
              · replace ho17 := if_f hc ho17
                refine lv_aload_n hx hb dX10_simulate_100 rfl (lv_at hl 4 rfl) ?_
                refine k_get C hE hW iX10 0 rfl rfl 6 (by decide) f19 (fun _ h9 => h9) rfl dX10_simulate_101 ?_
                refine lv_iload hx hb dX10_simulate_104 (lv_at hl 0 rfl) ?_
                refine lv_iload hx hb dX10_simulate_106 (lv_at hl 1 rfl) ?_
                refine lv_bipush (v := 8) hx hb dX10_simulate_108 (by decide) ?_
                refine lv_idiv hx hb dX10_simulate_110 (by decide) ?_
                refine lv_aload_n hx hb dX10_simulate_111 rfl (lv_at hl 4 rfl) ?_
                refine k_get C hE hW iX10 0 rfl rfl 6 (by decide) f19 (fun _ h9 => h9) rfl dX10_simulate_112 ?_
                refine lv_iload hx hb dX10_simulate_115 (lv_at hl 0 rfl) ?_
                obtain ⟨v37, h38, ho17⟩ := bd1_s ho17
                refine k_callSR (As := [.ref q_trial, .int (irm (((((i12 * 6364136223846793005) + 1442695040888963407).toUInt64 >>> ((33 : Int32).toInt64.toUInt64 &&& Int64.toUInt64 63)).toInt64) : Int64).toInt32 2)]) (n := 2) (rest := [.int ((((((i12 * 6364136223846793005) + 1442695040888963407).toUInt64 >>> ((33 : Int32).toInt64.toUInt64 &&& Int64.toUInt64 63)).toInt64) : Int64).toInt32 / 8), .int (irm (((((i12 * 6364136223846793005) + 1442695040888963407).toUInt64 >>> ((33 : Int32).toInt64.toUInt64 &&& Int64.toUInt64 63)).toInt64) : Int64).toInt32 2), .ref q_trial]) (st1 := [.int v37, .int ((((((i12 * 6364136223846793005) + 1442695040888963407).toUInt64 >>> ((33 : Int32).toInt64.toUInt64 &&& Int64.toUInt64 63)).toInt64) : Int64).toInt32 / 8), .int (irm (((((i12 * 6364136223846793005) + 1442695040888963407).toUInt64 >>> ((33 : Int32).toInt64.toUInt64 &&& Int64.toUInt64 63)).toInt64) : Int64).toInt32 2), .ref q_trial]) C hE hW hl.1 (kX10_many l D cI cZ cJ _ q_trial w14 (irm (((((i12 * 6364136223846793005) + 1442695040888963407).toUInt64 >>> ((33 : Int32).toInt64.toUInt64 &&& Int64.toUInt64 63)).toInt64) : Int64).toInt32 2) v37 h38) gX10_simulate_X10_many rfl (by decide +kernel) rfl ⟨Nat.le_of_ble_eq_true rfl, Nat.le_of_ble_eq_true rfl⟩ ⟨Nat.zero_le _, Nat.zero_le _⟩ [2] rfl rfl (Nat.le_of_ble_eq_true rfl) rfl rfl dX10_simulate_117 (fun H locs hW => ?_)
                obtain ⟨v39, h40, ho17⟩ := bd1_s ho17
                refine k_irem C h40 dX10_simulate_120 ?_
                obtain ⟨v41, h42, ho17⟩ := bd1_s ho17
                refine k_callSR (As := [.ref q_trial, .int (irm (((((i12 * 6364136223846793005) + 1442695040888963407).toUInt64 >>> ((33 : Int32).toInt64.toUInt64 &&& Int64.toUInt64 63)).toInt64) : Int64).toInt32 2), .int v39]) (n := 3) (rest := []) (st1 := [.int v41]) C hE hW hl.1 (kX10_kthPlace l D cI cZ cJ _ q_trial w14 (irm (((((i12 * 6364136223846793005) + 1442695040888963407).toUInt64 >>> ((33 : Int32).toInt64.toUInt64 &&& Int64.toUInt64 63)).toInt64) : Int64).toInt32 2) v39 v41 h42) gX10_simulate_X10_kthPlace rfl (by decide +kernel) rfl ⟨Nat.le_of_ble_eq_true rfl, Nat.le_of_ble_eq_true rfl⟩ ⟨Nat.zero_le _, Nat.zero_le _⟩ [2] rfl rfl (Nat.le_of_ble_eq_true rfl) rfl rfl dX10_simulate_121 (fun H locs hW => ?_)
                refine lv_istore (lv' := [(9, .int v41), (8, .int (irm (((((i12 * 6364136223846793005) + 1442695040888963407).toUInt64 >>> ((33 : Int32).toInt64.toUInt64 &&& Int64.toUInt64 63)).toInt64) : Int64).toInt32 2)), (7, .int (((((i12 * 6364136223846793005) + 1442695040888963407).toUInt64 >>> ((33 : Int32).toInt64.toUInt64 &&& Int64.toUInt64 63)).toInt64) : Int64).toInt32), (4, .long ((i12 * 6364136223846793005) + 1442695040888963407)), (6, .int i11), (0, .ref q), (3, .int p1)]) hx hb dX10_simulate_124 hl (by decide) rfl (fun ls hl => ?_)
                refine lv_aload_n hx hb dX10_simulate_126 rfl (lv_at hl 5 rfl) ?_
                refine k_get C hE hW iX10 0 rfl rfl 6 (by decide) f19 (fun _ h9 => h9) rfl dX10_simulate_127 ?_
                refine lv_iload hx hb dX10_simulate_130 (lv_at hl 1 rfl) ?_
                refine lv_iload hx hb dX10_simulate_132 (lv_at hl 0 rfl) ?_
                refine lv_bipush (v := 10) hx hb dX10_simulate_134 (by decide) ?_
                refine lv_idiv hx hb dX10_simulate_136 (by decide) ?_
                refine lv_iload hx hb dX10_simulate_137 (lv_at hl 0 rfl) ?_
                refine lv_bipush (v := 10) hx hb dX10_simulate_139 (by decide) ?_
                refine lv_irem hx hb dX10_simulate_141 (by decide) ?_
                obtain ⟨⟨v43, w44⟩, h45, ho17⟩ := bd1_s ho17
                replace ho17 := un2_s ho17
                refine k_callS (As := [.ref q_trial, .int (irm (((((i12 * 6364136223846793005) + 1442695040888963407).toUInt64 >>> ((33 : Int32).toInt64.toUInt64 &&& Int64.toUInt64 63)).toInt64) : Int64).toInt32 2), .int (v41 / 10), .int (irm v41 10)]) (n := 4) (rest := []) (st1 := [.int v43]) (wr := [(q, .inr (9, [.int w7, .ref q_script, .int u_scriptSize, .int u_spot, .ref q_readRow, .ref q_now, .ref q_trial, .ref q_diary, .int u_acts, .ref q_kept, .ref q_isKept, .int w13, .ref q_sums, .ref q_primes, .ref q_turned])), (q_now, .inl (cI, 84, .inl u_now))]) (ws' := [(q, .inr (9, [.int w7, .ref q_script, .int u_scriptSize, .int u_spot, .ref q_readRow, .ref q_now, .ref q_trial, .ref q_diary, .int u_acts, .ref q_kept, .ref q_isKept, .int w13, .ref q_sums, .ref q_primes, .ref q_turned])), (q_now, .inl (cI, 84, .inl u_now)), (q_trial, .inl (cI, 84, .inl w44))]) C hE hW hl.1 (kX10_removeOn l D cI cZ cJ _ q_trial w14 (irm (((((i12 * 6364136223846793005) + 1442695040888963407).toUInt64 >>> ((33 : Int32).toInt64.toUInt64 &&& Int64.toUInt64 63)).toInt64) : Int64).toInt32 2) (v41 / 10) (irm v41 10) v43 w44 h45) gX10_simulate_X10_removeOn rfl (by decide +kernel) rfl ⟨Nat.le_of_ble_eq_true rfl, Nat.le_of_ble_eq_true rfl⟩ ⟨Nat.zero_le _, Nat.zero_le _⟩ [2] [0, 1] [0, 1, 2] rfl rfl rfl rfl (by decide) rfl rfl (Nat.le_of_ble_eq_true rfl) rfl rfl dX10_simulate_142 (fun H locs hW => ?_)
                refine lv_pop hx hb dX10_simulate_145 rfl ?_
                refine lv_goto (tgt := 182) hx hb dX10_simulate_146 (by decide) ?_
                refine lv_iinc (v := (i11 + 1)) (lv' := [(6, .int (i11 + 1)), (9, .int v41), (8, .int (irm (((((i12 * 6364136223846793005) + 1442695040888963407).toUInt64 >>> ((33 : Int32).toInt64.toUInt64 &&& Int64.toUInt64 63)).toInt64) : Int64).toInt32 2)), (7, .int (((((i12 * 6364136223846793005) + 1442695040888963407).toUInt64 >>> ((33 : Int32).toInt64.toUInt64 &&& Int64.toUInt64 63)).toInt64) : Int64).toInt32), (4, .long ((i12 * 6364136223846793005) + 1442695040888963407)), (0, .ref q), (3, .int p1)]) hx hb dX10_simulate_182 hl (k := 4) rfl rfl (by decide) rfl (fun ls hl => ?_)
                refine lv_goto (tgt := 47) hx hb dX10_simulate_185 (by decide) ?_
                obtain rfl := Option.some.inj ho17
                exact ih22 _ _ _ _ hx18 _ _ _ hW (lv_sub hl [0, 4, 5, 6] rfl)
      exact L20 lpF _ _ _ _ hx180 _ _ _ hW (lv_sub hl [0, 1, 2, 4] rfl)
    · replace hf := if_f hc hf
      refine lv_iconst (v := 0) hx hb dX10_simulate_24 (by decide) ?_
      obtain ⟨rfl, rfl, rfl, rfl⟩ := sm4 hf
      exact k_iret C hlocks hr hW hQ dX10_simulate_25
  refine lv_if_eq (tgt := 17) hx hb dX10_simulate_10 (by decide) (fun hc => ?_) (fun hc => ?_)
  · replace hd4 := if_t hc hd4
    refine lv_iconst (v := 1) hx hb dX10_simulate_17 (by decide) ?_
    obtain rfl := Option.some.inj hd4
    exact J5 _ _ _ hW (lv_sub hl [0, 1, 2] rfl)
  · replace hd4 := if_f hc hd4
    refine lv_iconst (v := 0) hx hb dX10_simulate_13 (by decide) ?_
    refine lv_goto (tgt := 18) hx hb dX10_simulate_14 (by decide) ?_
    obtain rfl := Option.some.inj hd4
    exact J5 _ _ _ hW (lv_sub hl [0, 1, 2] rfl)

set_option maxHeartbeats 4000000 in
set_option maxRecDepth 100000 in
theorem kX10_save (l : Launch) (D : va_G) (cI cZ cJ : ClassId) (sz : Nat) (q q_now q_kept q_isKept q_script q_readRow q_trial q_diary q_sums q_primes q_turned : Nat) (u_refusal : Int32) (u_scriptSize : Int32) (u_spot : Int32) (u_acts : Int32) (u_slides : Int32) (u_now : Nat → Int32) (u_kept : Nat → Int32) (u_isKept : Nat → Int32) (p0 : Int32) (r : Int32) (u_refusal' : Int32) (u_kept' : Nat → Int32) (u_isKept' : Nat → Int32) (hf : pX10_save u_refusal u_now u_kept u_isKept p0 = some (r, u_refusal', u_kept', u_isKept')) : kMet l D cI cZ cJ yX10_save wsX10_save 4 90 [.ref q, .int p0] [(q, .inr (9, [.int u_refusal, .ref q_script, .int u_scriptSize, .int u_spot, .ref q_readRow, .ref q_now, .ref q_trial, .ref q_diary, .int u_acts, .ref q_kept, .ref q_isKept, .int u_slides, .ref q_sums, .ref q_primes, .ref q_turned])), (q_now, .inl (cI, 84, .inl u_now)), (q_kept, .inl (cI, 168, .inl u_kept)), (q_isKept, .inl (cZ, 2, .inl u_isKept))] sz (some (.int r)) [(q, .inr (9, [.int u_refusal', .ref q_script, .int u_scriptSize, .int u_spot, .ref q_readRow, .ref q_now, .ref q_trial, .ref q_diary, .int u_acts, .ref q_kept, .ref q_isKept, .int u_slides, .ref q_sums, .ref q_primes, .ref q_turned])), (q_now, .inl (cI, 84, .inl u_now)), (q_kept, .inl (cI, 168, .inl u_kept')), (q_isKept, .inl (cZ, 2, .inl u_isKept'))] := by
  refine kM_of (cc := cX10_save) (maxL := 2) (ret := (some .int)) (by decide) rfl (Nat.le_of_ble_eq_true rfl) ?_
  intro p e s m args below meth c A Q ls hQ C hlocks hr hE hW hl
  have hx := C.1
  have hb := C.2.1
  have hts := C.2.2.2.2
  have hl : lv_has ls 2 [(0, .ref q), (1, .int p0)] := hl
  have iX10 : ∀ w ∈ u_ws RX10 TX10 15, w ∈ wsX10_save := by decide +kernel
  have f16 := hts (.fieldLink RX10 16 "SortedTablesModel" "now" "[I") (by decide +kernel)
  have f25 := hts (.fieldLink RX10 25 "SortedTablesModel" "kept" "[I") (by decide +kernel)
  have f28 := hts (.fieldLink RX10 28 "SortedTablesModel" "isKept" "[Z") (by decide +kernel)
  unfold pX10_save at hf
  refine lv_aload_n hx hb dX10_save_0 rfl (lv_at hl 0 rfl) ?_
  refine lv_iload_n hx hb dX10_save_1 rfl (lv_at hl 1 rfl) ?_
  refine lv_i2l hx hb dX10_save_2 rfl ?_
  refine lv_lconst (v := 0) hx hb dX10_save_3 (by decide) ?_
  refine lv_lconst (v := 1) hx hb dX10_save_4 (by decide) ?_
  obtain ⟨v1, h2, hf⟩ := bd1_s hf
  refine k_callSR (As := [.long (p0 : Int32).toInt64, .long 0, .long 1]) (n := 3) (rest := [.ref q]) (st1 := [.int v1, .ref q]) C hE hW hl.1 (kX10_in l D cI cZ cJ _ (p0 : Int32).toInt64 0 1 v1 h2) gX10_save_X10_in rfl (by decide +kernel) rfl ⟨Nat.le_of_ble_eq_true rfl, Nat.le_of_ble_eq_true rfl⟩ ⟨Nat.zero_le _, Nat.zero_le _⟩ [] rfl rfl (Nat.le_of_ble_eq_true rfl) rfl rfl dX10_save_5 (fun H locs hW => ?_)
  obtain ⟨j3, hd4, hf⟩ := bd1_s hf
  have J5 : ∀ (H : Heap) (locs : List Loc) (ls : Array Slot), kH D A s H locs [(q, .inr (9, [.int u_refusal, .ref q_script, .int u_scriptSize, .int u_spot, .ref q_readRow, .ref q_now, .ref q_trial, .ref q_diary, .int u_acts, .ref q_kept, .ref q_isKept, .int u_slides, .ref q_sums, .ref q_primes, .ref q_turned])), (q_now, .inl (cI, 84, .inl u_now)), (q_kept, .inl (cI, 168, .inl u_kept)), (q_isKept, .inl (cZ, 2, .inl u_isKept))] → lv_has ls 2 [(0, .ref q), (1, .int p0)] → W p l e (kRm 4 90 0 0) s m args below meth c H locs 0 0 Q (F0 m 16 ls [.int j3, .ref q]) := by
    intro H locs ls hW hl
    obtain ⟨⟨v6, w7⟩, h8, hf⟩ := bd1_s hf
    replace hf := un2_s hf
    refine k_callV (b := q) (ci := 9) (qb := 0) (As := [.int j3]) (n := 1) (rest := []) (st1 := [.int v6]) (wr := [(q_now, .inl (cI, 84, .inl u_now)), (q_kept, .inl (cI, 168, .inl u_kept)), (q_isKept, .inl (cZ, 2, .inl u_isKept))]) (ws' := [(q, .inr (9, [.int w7, .ref q_script, .int u_scriptSize, .int u_spot, .ref q_readRow, .ref q_now, .ref q_trial, .ref q_diary, .int u_acts, .ref q_kept, .ref q_isKept, .int u_slides, .ref q_sums, .ref q_primes, .ref q_turned])), (q_now, .inl (cI, 84, .inl u_now)), (q_kept, .inl (cI, 168, .inl u_kept)), (q_isKept, .inl (cZ, 2, .inl u_isKept))]) C hE hW hl.1 (kX10_refused l D cI cZ cJ _ q q_script q_readRow q_now q_trial q_diary q_kept q_isKept q_sums q_primes q_turned u_refusal u_scriptSize u_spot u_acts u_slides j3 v6 w7 h8) gX10_save_X10_refused rfl (by decide +kernel) rfl ⟨Nat.le_of_ble_eq_true rfl, Nat.le_of_ble_eq_true rfl⟩ ⟨Nat.zero_le _, Nat.zero_le _⟩ rfl rfl [0] [1, 2, 3] [3, 0, 1, 2] rfl rfl rfl rfl (by decide) rfl rfl (Nat.le_of_ble_eq_true rfl) rfl rfl dX10_save_16 (fun H locs hW => ?_)
    refine lv_if_eq (tgt := 24) hx hb dX10_save_19 (by decide) (fun hc => ?_) (fun hc => ?_)
    · replace hf := if_t hc hf
      refine lv_aload_n hx hb dX10_save_24 rfl (lv_at hl 0 rfl) ?_
      refine k_get C hE hW iX10 0 rfl rfl 10 (by decide) f28 (fun _ h9 => h9) rfl dX10_save_25 ?_
      refine lv_iload_n hx hb dX10_save_28 rfl (lv_at hl 1 rfl) ?_
      refine lv_iconst (v := 1) hx hb dX10_save_29 (by decide) ?_
      obtain ⟨w9, h10, hf⟩ := bd1_s hf
      refine k_zast (ws' := [(q, .inr (9, [.int w7, .ref q_script, .int u_scriptSize, .int u_spot, .ref q_readRow, .ref q_now, .ref q_trial, .ref q_diary, .int u_acts, .ref q_kept, .ref q_isKept, .int u_slides, .ref q_sums, .ref q_primes, .ref q_turned])), (q_now, .inl (cI, 84, .inl u_now)), (q_kept, .inl (cI, 168, .inl u_kept)), (q_isKept, .inl (cZ, 2, .inl w9))]) C hE hW 3 rfl h10 rfl dX10_save_30 (fun H locs hW => ?_)
      refine lv_aload_n hx hb dX10_save_31 rfl (lv_at hl 0 rfl) ?_
      refine k_get C hE hW iX10 0 rfl rfl 5 (by decide) f16 (fun _ h9 => h9) rfl dX10_save_32 ?_
      refine lv_iconst (v := 0) hx hb dX10_save_35 (by decide) ?_
      refine lv_aload_n hx hb dX10_save_36 rfl (lv_at hl 0 rfl) ?_
      refine k_get C hE hW iX10 0 rfl rfl 9 (by decide) f25 (fun _ h9 => h9) rfl dX10_save_37 ?_
      refine lv_bipush (v := 84) hx hb dX10_save_40 (by decide) ?_
      refine lv_iload_n hx hb dX10_save_42 rfl (lv_at hl 1 rfl) ?_
      refine lv_imul hx hb dX10_save_43 ?_
      refine lv_bipush (v := 84) hx hb dX10_save_44 (by decide) ?_
      obtain ⟨w11, h12, hf⟩ := bd1_s hf
      refine k_callS (As := [.ref q_now, .int 0, .ref q_kept, .int (84 * p0), .int 84]) (n := 5) (rest := []) (st1 := []) (wr := [(q, .inr (9, [.int w7, .ref q_script, .int u_scriptSize, .int u_spot, .ref q_readRow, .ref q_now, .ref q_trial, .ref q_diary, .int u_acts, .ref q_kept, .ref q_isKept, .int u_slides, .ref q_sums, .ref q_primes, .ref q_turned])), (q_isKept, .inl (cZ, 2, .inl w9))]) (ws' := [(q, .inr (9, [.int w7, .ref q_script, .int u_scriptSize, .int u_spot, .ref q_readRow, .ref q_now, .ref q_trial, .ref q_diary, .int u_acts, .ref q_kept, .ref q_isKept, .int u_slides, .ref q_sums, .ref q_primes, .ref q_turned])), (q_now, .inl (cI, 84, .inl u_now)), (q_kept, .inl (cI, 168, .inl w11)), (q_isKept, .inl (cZ, 2, .inl w9))]) C hE hW hl.1 (kX10_copy l D cI cZ cJ _ q_now q_kept 84 168 u_now u_kept 0 (84 * p0) 84 w11 h12) gX10_save_X10_copy rfl (by decide +kernel) rfl ⟨Nat.le_of_ble_eq_true rfl, Nat.le_of_ble_eq_true rfl⟩ ⟨Nat.zero_le _, Nat.zero_le _⟩ [1, 2] [0, 3] [0, 2, 3, 1] rfl rfl rfl rfl (by decide) rfl rfl (Nat.le_of_ble_eq_true rfl) rfl rfl dX10_save_46 (fun H locs hW => ?_)
      refine lv_aload_n hx hb dX10_save_49 rfl (lv_at hl 0 rfl) ?_
      refine k_get C hE hW iX10 0 rfl rfl 5 (by decide) f16 (fun _ h9 => h9) rfl dX10_save_50 ?_
      obtain ⟨v13, h14, hf⟩ := bd1_s hf
      refine k_callSR (As := [.ref q_now]) (n := 1) (rest := []) (st1 := [.int v13]) C hE hW hl.1 (kX10_both l D cI cZ cJ _ q_now u_now v13 h14) gX10_save_X10_both rfl (by decide +kernel) rfl ⟨Nat.le_of_ble_eq_true rfl, Nat.le_of_ble_eq_true rfl⟩ ⟨Nat.zero_le _, Nat.zero_le _⟩ [1] rfl rfl (Nat.le_of_ble_eq_true rfl) rfl rfl dX10_save_53 (fun H locs hW => ?_)
      obtain ⟨rfl, rfl, rfl, rfl⟩ := sm4 hf
      exact k_iret C hlocks hr hW hQ dX10_save_56
    · replace hf := if_f hc hf
      refine lv_iconst (v := 0) hx hb dX10_save_22 (by decide) ?_
      obtain ⟨rfl, rfl, rfl, rfl⟩ := sm4 hf
      exact k_iret C hlocks hr hW hQ dX10_save_23
  refine lv_if_eq (tgt := 15) hx hb dX10_save_8 (by decide) (fun hc => ?_) (fun hc => ?_)
  · replace hd4 := if_t hc hd4
    refine lv_iconst (v := 1) hx hb dX10_save_15 (by decide) ?_
    obtain rfl := Option.some.inj hd4
    exact J5 _ _ _ hW (lv_sub hl [0, 1] rfl)
  · replace hd4 := if_f hc hd4
    refine lv_iconst (v := 0) hx hb dX10_save_11 (by decide) ?_
    refine lv_goto (tgt := 16) hx hb dX10_save_12 (by decide) ?_
    obtain rfl := Option.some.inj hd4
    exact J5 _ _ _ hW (lv_sub hl [0, 1] rfl)

set_option maxHeartbeats 4000000 in
set_option maxRecDepth 100000 in
theorem kX10_restore (l : Launch) (D : va_G) (cI cZ cJ : ClassId) (sz : Nat) (q q_now q_kept q_isKept q_script q_readRow q_trial q_diary q_sums q_primes q_turned : Nat) (u_refusal : Int32) (u_scriptSize : Int32) (u_spot : Int32) (u_acts : Int32) (u_slides : Int32) (u_now : Nat → Int32) (u_kept : Nat → Int32) (u_isKept : Nat → Int32) (p0 : Int32) (r : Int32) (u_refusal' : Int32) (u_acts' : Int32) (u_now' : Nat → Int32) (hf : pX10_restore u_refusal u_acts u_now u_kept u_isKept p0 = some (r, u_refusal', u_acts', u_now')) : kMet l D cI cZ cJ yX10_restore wsX10_restore 4 90 [.ref q, .int p0] [(q, .inr (9, [.int u_refusal, .ref q_script, .int u_scriptSize, .int u_spot, .ref q_readRow, .ref q_now, .ref q_trial, .ref q_diary, .int u_acts, .ref q_kept, .ref q_isKept, .int u_slides, .ref q_sums, .ref q_primes, .ref q_turned])), (q_now, .inl (cI, 84, .inl u_now)), (q_kept, .inl (cI, 168, .inl u_kept)), (q_isKept, .inl (cZ, 2, .inl u_isKept))] sz (some (.int r)) [(q, .inr (9, [.int u_refusal', .ref q_script, .int u_scriptSize, .int u_spot, .ref q_readRow, .ref q_now, .ref q_trial, .ref q_diary, .int u_acts', .ref q_kept, .ref q_isKept, .int u_slides, .ref q_sums, .ref q_primes, .ref q_turned])), (q_now, .inl (cI, 84, .inl u_now')), (q_kept, .inl (cI, 168, .inl u_kept)), (q_isKept, .inl (cZ, 2, .inl u_isKept))] := by
  refine kM_of (cc := cX10_restore) (maxL := 2) (ret := (some .int)) (by decide) rfl (Nat.le_of_ble_eq_true rfl) ?_
  intro p e s m args below meth c A Q ls hQ C hlocks hr hE hW hl
  have hx := C.1
  have hb := C.2.1
  have hts := C.2.2.2.2
  have hl : lv_has ls 2 [(0, .ref q), (1, .int p0)] := hl
  have iX10 : ∀ w ∈ u_ws RX10 TX10 15, w ∈ wsX10_restore := by decide +kernel
  have f16 := hts (.fieldLink RX10 16 "SortedTablesModel" "now" "[I") (by decide +kernel)
  have f25 := hts (.fieldLink RX10 25 "SortedTablesModel" "kept" "[I") (by decide +kernel)
  have f28 := hts (.fieldLink RX10 28 "SortedTablesModel" "isKept" "[Z") (by decide +kernel)
  have f47 := hts (.fieldLink RX10 47 "SortedTablesModel" "acts" "I") (by decide +kernel)
  unfold pX10_restore at hf
  refine lv_aload_n hx hb dX10_restore_0 rfl (lv_at hl 0 rfl) ?_
  refine lv_iload_n hx hb dX10_restore_1 rfl (lv_at hl 1 rfl) ?_
  refine lv_i2l hx hb dX10_restore_2 rfl ?_
  refine lv_lconst (v := 0) hx hb dX10_restore_3 (by decide) ?_
  refine lv_lconst (v := 1) hx hb dX10_restore_4 (by decide) ?_
  obtain ⟨v1, h2, hf⟩ := bd1_s hf
  refine k_callSR (As := [.long (p0 : Int32).toInt64, .long 0, .long 1]) (n := 3) (rest := [.ref q]) (st1 := [.int v1, .ref q]) C hE hW hl.1 (kX10_in l D cI cZ cJ _ (p0 : Int32).toInt64 0 1 v1 h2) gX10_restore_X10_in rfl (by decide +kernel) rfl ⟨Nat.le_of_ble_eq_true rfl, Nat.le_of_ble_eq_true rfl⟩ ⟨Nat.zero_le _, Nat.zero_le _⟩ [] rfl rfl (Nat.le_of_ble_eq_true rfl) rfl rfl dX10_restore_5 (fun H locs hW => ?_)
  obtain ⟨j3, hd4, hf⟩ := bd1_s hf
  have J5 : ∀ (H : Heap) (locs : List Loc) (ls : Array Slot), kH D A s H locs [(q, .inr (9, [.int u_refusal, .ref q_script, .int u_scriptSize, .int u_spot, .ref q_readRow, .ref q_now, .ref q_trial, .ref q_diary, .int u_acts, .ref q_kept, .ref q_isKept, .int u_slides, .ref q_sums, .ref q_primes, .ref q_turned])), (q_now, .inl (cI, 84, .inl u_now)), (q_kept, .inl (cI, 168, .inl u_kept)), (q_isKept, .inl (cZ, 2, .inl u_isKept))] → lv_has ls 2 [(0, .ref q), (1, .int p0)] → W p l e (kRm 4 90 0 0) s m args below meth c H locs 0 0 Q (F0 m 29 ls [.int j3, .ref q]) := by
    intro H locs ls hW hl
    obtain ⟨⟨v8, w9⟩, h10, hf⟩ := bd1_s hf
    replace hf := un2_s hf
    refine k_callV (b := q) (ci := 9) (qb := 0) (As := [.int j3]) (n := 1) (rest := []) (st1 := [.int v8]) (wr := [(q_now, .inl (cI, 84, .inl u_now)), (q_kept, .inl (cI, 168, .inl u_kept)), (q_isKept, .inl (cZ, 2, .inl u_isKept))]) (ws' := [(q, .inr (9, [.int w9, .ref q_script, .int u_scriptSize, .int u_spot, .ref q_readRow, .ref q_now, .ref q_trial, .ref q_diary, .int u_acts, .ref q_kept, .ref q_isKept, .int u_slides, .ref q_sums, .ref q_primes, .ref q_turned])), (q_now, .inl (cI, 84, .inl u_now)), (q_kept, .inl (cI, 168, .inl u_kept)), (q_isKept, .inl (cZ, 2, .inl u_isKept))]) C hE hW hl.1 (kX10_refused l D cI cZ cJ _ q q_script q_readRow q_now q_trial q_diary q_kept q_isKept q_sums q_primes q_turned u_refusal u_scriptSize u_spot u_acts u_slides j3 v8 w9 h10) gX10_restore_X10_refused rfl (by decide +kernel) rfl ⟨Nat.le_of_ble_eq_true rfl, Nat.le_of_ble_eq_true rfl⟩ ⟨Nat.zero_le _, Nat.zero_le _⟩ rfl rfl [0] [1, 2, 3] [3, 0, 1, 2] rfl rfl rfl rfl (by decide) rfl rfl (Nat.le_of_ble_eq_true rfl) rfl rfl dX10_restore_29 (fun H locs hW => ?_)
    refine lv_if_eq (tgt := 37) hx hb dX10_restore_32 (by decide) (fun hc => ?_) (fun hc => ?_)
    · replace hf := if_t hc hf
      refine lv_aload_n hx hb dX10_restore_37 rfl (lv_at hl 0 rfl) ?_
      refine k_get C hE hW iX10 0 rfl rfl 9 (by decide) f25 (fun _ h9 => h9) rfl dX10_restore_38 ?_
      refine lv_bipush (v := 84) hx hb dX10_restore_41 (by decide) ?_
      refine lv_iload_n hx hb dX10_restore_43 rfl (lv_at hl 1 rfl) ?_
      refine lv_imul hx hb dX10_restore_44 ?_
      refine lv_aload_n hx hb dX10_restore_45 rfl (lv_at hl 0 rfl) ?_
      refine k_get C hE hW iX10 0 rfl rfl 5 (by decide) f16 (fun _ h9 => h9) rfl dX10_restore_46 ?_
      refine lv_iconst (v := 0) hx hb dX10_restore_49 (by decide) ?_
      refine lv_bipush (v := 84) hx hb dX10_restore_50 (by decide) ?_
      obtain ⟨w11, h12, hf⟩ := bd1_s hf
      refine k_callS (As := [.ref q_kept, .int (84 * p0), .ref q_now, .int 0, .int 84]) (n := 5) (rest := []) (st1 := []) (wr := [(q, .inr (9, [.int w9, .ref q_script, .int u_scriptSize, .int u_spot, .ref q_readRow, .ref q_now, .ref q_trial, .ref q_diary, .int u_acts, .ref q_kept, .ref q_isKept, .int u_slides, .ref q_sums, .ref q_primes, .ref q_turned])), (q_isKept, .inl (cZ, 2, .inl u_isKept))]) (ws' := [(q, .inr (9, [.int w9, .ref q_script, .int u_scriptSize, .int u_spot, .ref q_readRow, .ref q_now, .ref q_trial, .ref q_diary, .int u_acts, .ref q_kept, .ref q_isKept, .int u_slides, .ref q_sums, .ref q_primes, .ref q_turned])), (q_now, .inl (cI, 84, .inl w11)), (q_kept, .inl (cI, 168, .inl u_kept)), (q_isKept, .inl (cZ, 2, .inl u_isKept))]) C hE hW hl.1 (kX10_copy l D cI cZ cJ _ q_kept q_now 168 84 u_kept u_now (84 * p0) 0 84 w11 h12) gX10_restore_X10_copy rfl (by decide +kernel) rfl ⟨Nat.le_of_ble_eq_true rfl, Nat.le_of_ble_eq_true rfl⟩ ⟨Nat.zero_le _, Nat.zero_le _⟩ [2, 1] [0, 3] [0, 3, 2, 1] rfl rfl rfl rfl (by decide) rfl rfl (Nat.le_of_ble_eq_true rfl) rfl rfl dX10_restore_52 (fun H locs hW => ?_)
      refine lv_aload_n hx hb dX10_restore_55 rfl (lv_at hl 0 rfl) ?_
      refine lv_iconst (v := 0) hx hb dX10_restore_56 (by decide) ?_
      refine k_put (v := .int 0) (ty := .int) (ws' := [(q, .inr (9, [.int w9, .ref q_script, .int u_scriptSize, .int u_spot, .ref q_readRow, .ref q_now, .ref q_trial, .ref q_diary, .int 0, .ref q_kept, .ref q_isKept, .int u_slides, .ref q_sums, .ref q_primes, .ref q_turned])), (q_now, .inl (cI, 84, .inl w11)), (q_kept, .inl (cI, 168, .inl u_kept)), (q_isKept, .inl (cZ, 2, .inl u_isKept))]) C hE hW iX10 tyX10_ok nmX10 0 rfl rfl 8 (by decide) f47 (fun _ h9 => h9) rfl (by decide +kernel) rfl rfl (Nat.le_of_ble_eq_true rfl) rfl dX10_restore_57 (fun H locs hW => ?_)
      refine lv_aload_n hx hb dX10_restore_60 rfl (lv_at hl 0 rfl) ?_
      refine k_get C hE hW iX10 0 rfl rfl 5 (by decide) f16 (fun _ h9 => h9) rfl dX10_restore_61 ?_
      obtain ⟨v13, h14, hf⟩ := bd1_s hf
      refine k_callSR (As := [.ref q_now]) (n := 1) (rest := []) (st1 := [.int v13]) C hE hW hl.1 (kX10_both l D cI cZ cJ _ q_now w11 v13 h14) gX10_restore_X10_both rfl (by decide +kernel) rfl ⟨Nat.le_of_ble_eq_true rfl, Nat.le_of_ble_eq_true rfl⟩ ⟨Nat.zero_le _, Nat.zero_le _⟩ [1] rfl rfl (Nat.le_of_ble_eq_true rfl) rfl rfl dX10_restore_64 (fun H locs hW => ?_)
      obtain ⟨rfl, rfl, rfl, rfl⟩ := sm4 hf
      exact k_iret C hlocks hr hW hQ dX10_restore_67
    · replace hf := if_f hc hf
      refine lv_iconst (v := 0) hx hb dX10_restore_35 (by decide) ?_
      obtain ⟨rfl, rfl, rfl, rfl⟩ := sm4 hf
      exact k_iret C hlocks hr hW hQ dX10_restore_36
  refine lv_if_ne (tgt := 15) hx hb dX10_restore_8 (by decide) (fun hc => ?_) (fun hc => ?_)
  · replace hd4 := if_f hc hd4
    refine lv_aload_n hx hb dX10_restore_15 rfl (lv_at hl 0 rfl) ?_
    refine k_get C hE hW iX10 0 rfl rfl 10 (by decide) f28 (fun _ h9 => h9) rfl dX10_restore_16 ?_
    refine lv_iload_n hx hb dX10_restore_19 rfl (lv_at hl 1 rfl) ?_
    obtain ⟨v6, h7, hd4⟩ := bd1_s hd4
    refine k_zald C hE hW 3 rfl h7 dX10_restore_20 ?_
    refine lv_if_ne (tgt := 28) hx hb dX10_restore_21 (by decide) (fun hc => ?_) (fun hc => ?_)
    · replace hd4 := if_f hc hd4
      refine lv_iconst (v := 0) hx hb dX10_restore_28 (by decide) ?_
      obtain rfl := Option.some.inj hd4
      exact J5 _ _ _ hW (lv_sub hl [0, 1] rfl)
    · replace hd4 := if_t hc hd4
      refine lv_iconst (v := 2) hx hb dX10_restore_24 (by decide) ?_
      refine lv_goto (tgt := 29) hx hb dX10_restore_25 (by decide) ?_
      obtain rfl := Option.some.inj hd4
      exact J5 _ _ _ hW (lv_sub hl [0, 1] rfl)
  · replace hd4 := if_t hc hd4
    refine lv_iconst (v := 1) hx hb dX10_restore_11 (by decide) ?_
    refine lv_goto (tgt := 29) hx hb dX10_restore_12 (by decide) ?_
    obtain rfl := Option.some.inj hd4
    exact J5 _ _ _ hW (lv_sub hl [0, 1] rfl)
