/-! 3i.gen9: by gen/mk.py -/
def Y_X9_stageTold : z_Y := (RX9, cX9_stageTold, 8, wsX9_stageTold, none, { frames := 5, cells := 0, slots := 0, locals := 110 }, 0, 0)
theorem ok_X9_stageTold : z_Ok yX9_stageTold Y_X9_stageTold 1 := ⟨⟨_, rfl⟩, rfl, rfl, rfl, by decide +kernel, by decide +kernel⟩
theorem w_X9_stageTold_0 : Cond.fieldLink RX9 261 "BunchTimesModel" "fault" "I" ∈ wsX9_stageTold := by decide +kernel
theorem w_X9_stageTold_1 : ∀ w ∈ u_ws RX9 TX9 18, w ∈ wsX9_stageTold := by decide +kernel
theorem w_X9_stageTold_2 : Cond.constantLong RX9 288 126893 ∈ wsX9_stageTold := by decide +kernel
theorem w_X9_stageTold_3 : Cond.constantLong RX9 299 47 ∈ wsX9_stageTold := by decide +kernel
theorem w_X9_stageTold_4 : Cond.constantLong RX9 305 1837433 ∈ wsX9_stageTold := by decide +kernel
theorem w_X9_stageTold_5 : Cond.constantLong RX9 307 281493542 ∈ wsX9_stageTold := by decide +kernel
theorem w_X9_stageTold_6 : Cond.fieldLink RX9 270 "BunchTimesModel" "from" "I" ∈ wsX9_stageTold := by decide +kernel
theorem w_X9_stageTold_7 : Cond.fieldLink RX9 36 "BunchTimesModel" "told" "[I" ∈ wsX9_stageTold := by decide +kernel
theorem w_X9_stageTold_8 : Cond.fieldLink RX9 277 "BunchTimesModel" "toldMany" "I" ∈ wsX9_stageTold := by decide +kernel
theorem w_X9_stageTold_9 : Cond.constantLong RX9 290 4437766 ∈ wsX9_stageTold := by decide +kernel
theorem w_X9_stageTold_10 : Cond.constantLong RX9 292 8602516 ∈ wsX9_stageTold := by decide +kernel
theorem w_X9_stageTold_11 : Cond.constantLong RX9 294 10989714 ∈ wsX9_stageTold := by decide +kernel
def f_X9_stageTold_L112_b (o0 : Nat) (x1 : Int32) (x4 : Int32) (x5 : Int32) (K : z_D → Option z_D) (R : Int32 → z_D → Option z_D) (x6 : Int32) (d : z_D) : Option z_D := (if (d o0 15) = 0 then z_bX (f_X9_isWord d o0 47) (fun v3 d4 => (if v3 = 0 then (K d4) else z_bY (f_X9_word d4 o0) (fun v5 d6 => ((f_X9_number d6 o0 (x6 + 1) (x5 - 1)).bind fun d7 => z_let (fun x_168 : Int32 => z_let (fun x_185 : Int64 × z_D => z_nam (x_185.1) (fun v8 => (if (lg_cmp v8 1837433) = 0 then ((f_X9_number x_185.2 o0 1 4).bind fun d12 => (R x_168 d12)) else (if (lg_cmp v8 281493542) = 0 then z_ast x_185.2 (o0 + 9) 600 (x_185.2 o0 17) 0 (fun d10 => z_put d10 o0 17 ((d10 o0 17) + 1) (fun d11 => (R x_168 d11))) else ((f_X9_fails x_185.2 o0 1 (x_185.2 o0 14)).bind fun d9 => (R x_168 d9)))))) (fun J185 => (if (d7 o0 15) = 0 then z_bY (f_X9_word d7 o0) (fun v13 d14 => (J185 (v13, d14))) else (J185 (0, d7))))) (fun J168 => (if (d7 o0 15) = 0 then z_ald d7 (o0 + 9) 600 ((d7 o0 17) - 1) (fun v15 => (J168 v15)) else (J168 0))))))) else (K d))
def f_X9_stageTold_L112 (o0 : Nat) (x1 : Int32) (x4 : Int32) (x5 : Int32) (K : z_D → Option z_D) : Nat → Int32 → z_D → Option z_D
  | 0 => fun _ _ => none
  | n + 1 => f_X9_stageTold_L112_b o0 x1 x4 x5 K (f_X9_stageTold_L112 o0 x1 x4 x5 K n)
set_option maxHeartbeats 4000000 in
set_option maxRecDepth 100000 in
theorem g_X9_stageTold_L112 {E : z_E} {l : Launch} {S : z_S} {o0 : Nat} {x1 : Int32} {x4 : Int32} {x5 : Int32} {K : z_D → Option z_D} (h0 : A_Model S o0) (hK : ∀ (d9 : z_D), z_G E l Y_X9_stageTold (cvV S) (K d9) 246 [(0, .ref (E.2.1 + o0)), (1, .int x1), (4, .int x4)] [] (S, d9) 0 0) : ∀ (n : Nat) (x6 : Int32) (d : z_D), z_G E l Y_X9_stageTold (cvV S) (f_X9_stageTold_L112 o0 x1 x4 x5 K n x6 d) 112 [(0, .ref (E.2.1 + o0)), (1, .int x1), (4, .int x4), (5, .int x5), (6, .int x6)] [] (S, d) 0 0 := by
  intro n
  induction n with
  | zero => intro _ _; exact r_none
  | succ n ih =>
    intro x6 d
    show z_G E l Y_X9_stageTold (cvV S) (f_X9_stageTold_L112_b o0 x1 x4 x5 K (f_X9_stageTold_L112 o0 x1 x4 x5 K n) x6 d) 112 [(0, .ref (E.2.1 + o0)), (1, .int x1), (4, .int x4), (5, .int x5), (6, .int x6)] [] (S, d) 0 0
    unfold f_X9_stageTold_L112_b
    refine r_aload_n 0 0 rfl rfl 113 rfl dX9_stageTold_112 ?_
    refine r_get (h0 0 (Nat.le_of_ble_eq_true rfl)) rfl (Nat.le_of_ble_eq_true rfl) rfl rfl w_X9_stageTold_1 15 (Nat.le_of_ble_eq_true rfl) rfl w_X9_stageTold_0 (.int (d o0 15)) rfl 116 rfl dX9_stageTold_113 ?_
    refine r_if_ne 246 119 rfl rfl dX9_stageTold_116 ?_ ?_
    · refine r_sub [0, 1, 2] rfl ?_
      exact hK d
    · refine r_aload_n 0 0 rfl rfl 120 rfl dX9_stageTold_119 ?_
      refine r_ldc2 (v := 47) w_X9_stageTold_3 123 rfl dX9_stageTold_120 ?_
      refine r_callV_X (c_X9_isWord (E := E) (l := l) (S := S) d o0 h0 47) ok_X9_isWord ⟨⟨(Nat.le_of_ble_eq_true rfl), (Nat.le_of_ble_eq_true rfl)⟩, (Nat.le_of_ble_eq_true rfl), (Nat.le_of_ble_eq_true rfl)⟩ (h0 0 (Nat.le_of_ble_eq_true rfl)) (Nat.le_of_ble_eq_true rfl) rfl rfl rfl (Nat.le_of_ble_eq_true rfl) gX9_stageTold_X9_isWord rfl rfl 126 rfl dX9_stageTold_123 (fun v3 d4 => ?_)
      refine r_if_eq 246 129 rfl rfl dX9_stageTold_126 ?_ ?_
      · refine r_sub [0, 1, 2] rfl ?_
        exact hK d4
      · refine r_aload_n 0 0 rfl rfl 130 rfl dX9_stageTold_129 ?_
        refine r_callV_Y (c_X9_word (E := E) (l := l) (S := S) d4 o0 h0) ok_X9_word ⟨⟨(Nat.le_of_ble_eq_true rfl), (Nat.le_of_ble_eq_true rfl)⟩, (Nat.le_of_ble_eq_true rfl), (Nat.le_of_ble_eq_true rfl)⟩ (h0 0 (Nat.le_of_ble_eq_true rfl)) (Nat.le_of_ble_eq_true rfl) rfl rfl rfl (Nat.le_of_ble_eq_true rfl) gX9_stageTold_X9_word rfl rfl 133 rfl dX9_stageTold_130 (fun v5 d6 => ?_)
        refine r_lstore_n 2 rfl [(2, .long v5), (0, .ref (E.2.1 + o0)), (1, .int x1), (4, .int x4), (5, .int x5), (6, .int x6)] (Nat.le_of_ble_eq_true rfl) rfl 134 rfl dX9_stageTold_133 ?_
        refine r_aload_n 0 1 rfl rfl 135 rfl dX9_stageTold_134 ?_
        refine r_iload 6 5 rfl 137 rfl dX9_stageTold_135 ?_
        refine r_iconst 1 rfl 138 rfl dX9_stageTold_137 ?_
        refine r_iadd 139 rfl dX9_stageTold_138 ?_
        refine r_iload 5 4 rfl 141 rfl dX9_stageTold_139 ?_
        refine r_iconst 1 rfl 142 rfl dX9_stageTold_141 ?_
        refine r_isub 143 rfl dX9_stageTold_142 ?_
        refine r_callV_V (c_X9_number (E := E) (l := l) (S := S) d6 o0 h0 (x6 + 1) (x5 - 1)) ok_X9_number ⟨⟨(Nat.le_of_ble_eq_true rfl), (Nat.le_of_ble_eq_true rfl)⟩, (Nat.le_of_ble_eq_true rfl), (Nat.le_of_ble_eq_true rfl)⟩ (h0 0 (Nat.le_of_ble_eq_true rfl)) (Nat.le_of_ble_eq_true rfl) rfl rfl rfl (Nat.le_of_ble_eq_true rfl) gX9_stageTold_X9_number rfl rfl 146 rfl dX9_stageTold_143 (fun d7 => ?_)
        refine r_aload_n 0 1 rfl rfl 147 rfl dX9_stageTold_146 ?_
        refine r_get (h0 0 (Nat.le_of_ble_eq_true rfl)) rfl (Nat.le_of_ble_eq_true rfl) rfl rfl w_X9_stageTold_1 15 (Nat.le_of_ble_eq_true rfl) rfl w_X9_stageTold_0 (.int (d7 o0 15)) rfl 150 rfl dX9_stageTold_147 ?_
        refine r_let 168 (f := fun x_168 : Int32 => [(0, .ref (E.2.1 + o0)), (1, .int x1), (4, .int x4), (5, .int x5)]) (g := fun x_168 : Int32 => [.int x_168]) (ww := fun x_168 : Int32 => (S, d7)) (fun x_168 => ?_) (fun J168 hJ168 => ?_)
        · refine r_istore 6 [(6, .int x_168), (0, .ref (E.2.1 + o0)), (1, .int x1), (4, .int x4), (5, .int x5)] (Nat.le_of_ble_eq_true rfl) rfl 170 rfl dX9_stageTold_168 ?_
          refine r_aload_n 0 1 rfl rfl 171 rfl dX9_stageTold_170 ?_
          refine r_get (h0 0 (Nat.le_of_ble_eq_true rfl)) rfl (Nat.le_of_ble_eq_true rfl) rfl rfl w_X9_stageTold_1 15 (Nat.le_of_ble_eq_true rfl) rfl w_X9_stageTold_0 (.int (d7 o0 15)) rfl 174 rfl dX9_stageTold_171 ?_
          refine r_let 185 (f := fun x_185 : Int64 × z_D => [(0, .ref (E.2.1 + o0)), (1, .int x1), (4, .int x4), (5, .int x5), (6, .int x_168)]) (g := fun x_185 : Int64 × z_D => [.long (x_185.1)]) (ww := fun x_185 : Int64 × z_D => (S, x_185.2)) (fun x_185 => ?_) (fun J185 hJ185 => ?_)
          · refine r_naml (fun v8 => ?_)
            refine r_lstore_n 2 rfl [(2, .long v8), (0, .ref (E.2.1 + o0)), (1, .int x1), (4, .int x4), (5, .int x5), (6, .int x_168)] (Nat.le_of_ble_eq_true rfl) rfl 186 rfl dX9_stageTold_185 ?_
            refine r_lload_n 2 0 rfl rfl 187 rfl dX9_stageTold_186 ?_
            refine r_ldc2 (v := 1837433) w_X9_stageTold_4 190 rfl dX9_stageTold_187 ?_
            refine r_lcmp 191 rfl dX9_stageTold_190 ?_
            refine r_if_ne 203 194 rfl rfl dX9_stageTold_191 ?_ ?_
            · refine r_lload_n 2 0 rfl rfl 204 rfl dX9_stageTold_203 ?_
              refine r_ldc2 (v := 281493542) w_X9_stageTold_5 207 rfl dX9_stageTold_204 ?_
              refine r_lcmp 208 rfl dX9_stageTold_207 ?_
              refine r_if_ne 234 211 rfl rfl dX9_stageTold_208 ?_ ?_
              · refine r_aload_n 0 1 rfl rfl 235 rfl dX9_stageTold_234 ?_
                refine r_iconst 1 rfl 236 rfl dX9_stageTold_235 ?_
                refine r_aload_n 0 1 rfl rfl 237 rfl dX9_stageTold_236 ?_
                refine r_get (h0 0 (Nat.le_of_ble_eq_true rfl)) rfl (Nat.le_of_ble_eq_true rfl) rfl rfl w_X9_stageTold_1 14 (Nat.le_of_ble_eq_true rfl) rfl w_X9_stageTold_6 (.int (x_185.2 o0 14)) rfl 240 rfl dX9_stageTold_237 ?_
                refine r_callV_V (c_X9_fails (E := E) (l := l) (S := S) x_185.2 o0 h0 1 (x_185.2 o0 14)) ok_X9_fails ⟨⟨(Nat.le_of_ble_eq_true rfl), (Nat.le_of_ble_eq_true rfl)⟩, (Nat.le_of_ble_eq_true rfl), (Nat.le_of_ble_eq_true rfl)⟩ (h0 0 (Nat.le_of_ble_eq_true rfl)) (Nat.le_of_ble_eq_true rfl) rfl rfl rfl (Nat.le_of_ble_eq_true rfl) gX9_stageTold_X9_fails rfl rfl 243 rfl dX9_stageTold_240 (fun d9 => ?_)
                refine r_goto 112 rfl dX9_stageTold_243 ?_
                refine r_sub [1, 2, 3, 4, 5] rfl ?_
                exact ih x_168 d9
              · refine r_aload_n 0 1 rfl rfl 212 rfl dX9_stageTold_211 ?_
                refine r_get (h0 0 (Nat.le_of_ble_eq_true rfl)) rfl (Nat.le_of_ble_eq_true rfl) rfl rfl w_X9_stageTold_1 16 (Nat.le_of_ble_eq_true rfl) rfl w_X9_stageTold_7 (.ref (E.2.1 + (o0 + 9))) rfl 215 rfl dX9_stageTold_212 ?_
                refine r_aload_n 0 1 rfl rfl 216 rfl dX9_stageTold_215 ?_
                refine r_get (h0 0 (Nat.le_of_ble_eq_true rfl)) rfl (Nat.le_of_ble_eq_true rfl) rfl rfl w_X9_stageTold_1 17 (Nat.le_of_ble_eq_true rfl) rfl w_X9_stageTold_8 (.int (x_185.2 o0 17)) rfl 219 rfl dX9_stageTold_216 ?_
                refine r_iconst 0 rfl 220 rfl dX9_stageTold_219 ?_
                refine r_iast (h0 9 (Nat.le_of_ble_eq_true rfl)) rfl rfl 221 rfl dX9_stageTold_220 (fun d10 => ?_)
                refine r_aload_n 0 1 rfl rfl 222 rfl dX9_stageTold_221 ?_
                refine r_dup rfl 223 rfl dX9_stageTold_222 ?_
                refine r_get (h0 0 (Nat.le_of_ble_eq_true rfl)) rfl (Nat.le_of_ble_eq_true rfl) rfl rfl w_X9_stageTold_1 17 (Nat.le_of_ble_eq_true rfl) rfl w_X9_stageTold_8 (.int (d10 o0 17)) rfl 226 rfl dX9_stageTold_223 ?_
                refine r_iconst 1 rfl 227 rfl dX9_stageTold_226 ?_
                refine r_iadd 228 rfl dX9_stageTold_227 ?_
                refine r_put (h0 0 (Nat.le_of_ble_eq_true rfl)) rfl (Nat.le_of_ble_eq_true rfl) rfl rfl w_X9_stageTold_1 tyX9 tyX9_ok nmX9 (Nat.le_of_ble_eq_true rfl) rfl w_X9_stageTold_8 rfl rfl rfl rfl rfl 231 rfl dX9_stageTold_228 (fun d11 => ?_)
                refine r_goto 112 rfl dX9_stageTold_231 ?_
                refine r_sub [1, 2, 3, 4, 5] rfl ?_
                exact ih x_168 d11
            · refine r_aload_n 0 1 rfl rfl 195 rfl dX9_stageTold_194 ?_
              refine r_iconst 1 rfl 196 rfl dX9_stageTold_195 ?_
              refine r_iconst 4 rfl 197 rfl dX9_stageTold_196 ?_
              refine r_callV_V (c_X9_number (E := E) (l := l) (S := S) x_185.2 o0 h0 1 4) ok_X9_number ⟨⟨(Nat.le_of_ble_eq_true rfl), (Nat.le_of_ble_eq_true rfl)⟩, (Nat.le_of_ble_eq_true rfl), (Nat.le_of_ble_eq_true rfl)⟩ (h0 0 (Nat.le_of_ble_eq_true rfl)) (Nat.le_of_ble_eq_true rfl) rfl rfl rfl (Nat.le_of_ble_eq_true rfl) gX9_stageTold_X9_number rfl rfl 200 rfl dX9_stageTold_197 (fun d12 => ?_)
              refine r_goto 112 rfl dX9_stageTold_200 ?_
              refine r_sub [1, 2, 3, 4, 5] rfl ?_
              exact ih x_168 d12
          refine r_if_ne 184 177 rfl rfl dX9_stageTold_174 ?_ ?_
          · refine r_lconst 0 rfl 185 rfl dX9_stageTold_184 ?_
            refine r_sub [1, 2, 3, 4, 0] rfl ?_
            exact hJ185 (0, d7)
          · refine r_aload_n 0 1 rfl rfl 178 rfl dX9_stageTold_177 ?_
            refine r_callV_Y (c_X9_word (E := E) (l := l) (S := S) d7 o0 h0) ok_X9_word ⟨⟨(Nat.le_of_ble_eq_true rfl), (Nat.le_of_ble_eq_true rfl)⟩, (Nat.le_of_ble_eq_true rfl), (Nat.le_of_ble_eq_true rfl)⟩ (h0 0 (Nat.le_of_ble_eq_true rfl)) (Nat.le_of_ble_eq_true rfl) rfl rfl rfl (Nat.le_of_ble_eq_true rfl) gX9_stageTold_X9_word rfl rfl 181 rfl dX9_stageTold_178 (fun v13 d14 => ?_)
            refine r_goto 185 rfl dX9_stageTold_181 ?_
            refine r_sub [1, 2, 3, 4, 0] rfl ?_
            exact hJ185 (v13, d14)
        refine r_if_ne 167 153 rfl rfl dX9_stageTold_150 ?_ ?_
        · refine r_iconst 0 rfl 168 rfl dX9_stageTold_167 ?_
          refine r_sub [1, 2, 3, 4] rfl ?_
          exact hJ168 0
        · refine r_aload_n 0 1 rfl rfl 154 rfl dX9_stageTold_153 ?_
          refine r_get (h0 0 (Nat.le_of_ble_eq_true rfl)) rfl (Nat.le_of_ble_eq_true rfl) rfl rfl w_X9_stageTold_1 16 (Nat.le_of_ble_eq_true rfl) rfl w_X9_stageTold_7 (.ref (E.2.1 + (o0 + 9))) rfl 157 rfl dX9_stageTold_154 ?_
          refine r_aload_n 0 1 rfl rfl 158 rfl dX9_stageTold_157 ?_
          refine r_get (h0 0 (Nat.le_of_ble_eq_true rfl)) rfl (Nat.le_of_ble_eq_true rfl) rfl rfl w_X9_stageTold_1 17 (Nat.le_of_ble_eq_true rfl) rfl w_X9_stageTold_8 (.int (d7 o0 17)) rfl 161 rfl dX9_stageTold_158 ?_
          refine r_iconst 1 rfl 162 rfl dX9_stageTold_161 ?_
          refine r_isub 163 rfl dX9_stageTold_162 ?_
          refine r_iald (h0 9 (Nat.le_of_ble_eq_true rfl)) rfl rfl 164 rfl dX9_stageTold_163 (fun v15 => ?_)
          refine r_goto 168 rfl dX9_stageTold_164 ?_
          refine r_sub [1, 2, 3, 4] rfl ?_
          exact hJ168 v15
def f_X9_stageTold_L283_b (o0 : Nat) (x1 : Int32) (K : z_D → Option z_D) (R : Int32 → z_D → Option z_D) (x7 : Int32) (d : z_D) : Option z_D := (if (d o0 17) ≤ x7 then (K d) else (if (d o0 15) = 0 then z_ald d (o0 + 9) 600 x7 (fun v23 => z_ald d (o0 + 9) 600 (x7 + 1) (fun v24 => z_bX (f_X9_marks d o0 v23 v24) (fun v25 d26 => (if v25 = (-1) then ((f_X9_can d26 o0 0 x1).bind fun d27 => (R (x7 + 2) d27)) else ((f_X9_can d26 o0 1 x1).bind fun d28 => (R (x7 + 2) d28)))))) else (K d)))
def f_X9_stageTold_L283 (o0 : Nat) (x1 : Int32) (K : z_D → Option z_D) : Nat → Int32 → z_D → Option z_D
  | 0 => fun _ _ => none
  | n + 1 => f_X9_stageTold_L283_b o0 x1 K (f_X9_stageTold_L283 o0 x1 K n)
set_option maxHeartbeats 4000000 in
set_option maxRecDepth 100000 in
theorem g_X9_stageTold_L283 {E : z_E} {l : Launch} {S : z_S} {o0 : Nat} {x1 : Int32} {K : z_D → Option z_D} (h0 : A_Model S o0) (hK : ∀ (d9 : z_D), z_G E l Y_X9_stageTold (cvV S) (K d9) 339 [] [] (S, d9) 0 0) : ∀ (n : Nat) (x7 : Int32) (d : z_D), z_G E l Y_X9_stageTold (cvV S) (f_X9_stageTold_L283 o0 x1 K n x7 d) 283 [(0, .ref (E.2.1 + o0)), (1, .int x1), (7, .int x7)] [] (S, d) 0 0 := by
  intro n
  induction n with
  | zero => intro _ _; exact r_none
  | succ n ih =>
    intro x7 d
    show z_G E l Y_X9_stageTold (cvV S) (f_X9_stageTold_L283_b o0 x1 K (f_X9_stageTold_L283 o0 x1 K n) x7 d) 283 [(0, .ref (E.2.1 + o0)), (1, .int x1), (7, .int x7)] [] (S, d) 0 0
    unfold f_X9_stageTold_L283_b
    refine r_iload 7 2 rfl 285 rfl dX9_stageTold_283 ?_
    refine r_aload_n 0 0 rfl rfl 286 rfl dX9_stageTold_285 ?_
    refine r_get (h0 0 (Nat.le_of_ble_eq_true rfl)) rfl (Nat.le_of_ble_eq_true rfl) rfl rfl w_X9_stageTold_1 17 (Nat.le_of_ble_eq_true rfl) rfl w_X9_stageTold_8 (.int (d o0 17)) rfl 289 rfl dX9_stageTold_286 ?_
    refine r_icmp_ge 339 292 rfl rfl dX9_stageTold_289 ?_ ?_
    · refine r_sub [] rfl ?_
      exact hK d
    · refine r_aload_n 0 0 rfl rfl 293 rfl dX9_stageTold_292 ?_
      refine r_get (h0 0 (Nat.le_of_ble_eq_true rfl)) rfl (Nat.le_of_ble_eq_true rfl) rfl rfl w_X9_stageTold_1 15 (Nat.le_of_ble_eq_true rfl) rfl w_X9_stageTold_0 (.int (d o0 15)) rfl 296 rfl dX9_stageTold_293 ?_
      refine r_if_ne 339 299 rfl rfl dX9_stageTold_296 ?_ ?_
      · refine r_sub [] rfl ?_
        exact hK d
      · refine r_aload_n 0 0 rfl rfl 300 rfl dX9_stageTold_299 ?_
        refine r_aload_n 0 0 rfl rfl 301 rfl dX9_stageTold_300 ?_
        refine r_aload_n 0 0 rfl rfl 302 rfl dX9_stageTold_301 ?_
        refine r_get (h0 0 (Nat.le_of_ble_eq_true rfl)) rfl (Nat.le_of_ble_eq_true rfl) rfl rfl w_X9_stageTold_1 16 (Nat.le_of_ble_eq_true rfl) rfl w_X9_stageTold_7 (.ref (E.2.1 + (o0 + 9))) rfl 305 rfl dX9_stageTold_302 ?_
        refine r_iload 7 2 rfl 307 rfl dX9_stageTold_305 ?_
        refine r_iald (h0 9 (Nat.le_of_ble_eq_true rfl)) rfl rfl 308 rfl dX9_stageTold_307 (fun v23 => ?_)
        refine r_aload_n 0 0 rfl rfl 309 rfl dX9_stageTold_308 ?_
        refine r_get (h0 0 (Nat.le_of_ble_eq_true rfl)) rfl (Nat.le_of_ble_eq_true rfl) rfl rfl w_X9_stageTold_1 16 (Nat.le_of_ble_eq_true rfl) rfl w_X9_stageTold_7 (.ref (E.2.1 + (o0 + 9))) rfl 312 rfl dX9_stageTold_309 ?_
        refine r_iload 7 2 rfl 314 rfl dX9_stageTold_312 ?_
        refine r_iconst 1 rfl 315 rfl dX9_stageTold_314 ?_
        refine r_iadd 316 rfl dX9_stageTold_315 ?_
        refine r_iald (h0 9 (Nat.le_of_ble_eq_true rfl)) rfl rfl 317 rfl dX9_stageTold_316 (fun v24 => ?_)
        refine r_callV_X (c_X9_marks (E := E) (l := l) (S := S) d o0 h0 v23 v24) ok_X9_marks ⟨⟨(Nat.le_of_ble_eq_true rfl), (Nat.le_of_ble_eq_true rfl)⟩, (Nat.le_of_ble_eq_true rfl), (Nat.le_of_ble_eq_true rfl)⟩ (h0 0 (Nat.le_of_ble_eq_true rfl)) (Nat.le_of_ble_eq_true rfl) rfl rfl rfl (Nat.le_of_ble_eq_true rfl) gX9_stageTold_X9_marks rfl rfl 320 rfl dX9_stageTold_317 (fun v25 d26 => ?_)
        refine r_iconst (-1) rfl 321 rfl dX9_stageTold_320 ?_
        refine r_icmp_eq 328 324 rfl rfl dX9_stageTold_321 ?_ ?_
        · refine r_iconst 0 rfl 329 rfl dX9_stageTold_328 ?_
          refine r_iload_n 1 1 rfl rfl 330 rfl dX9_stageTold_329 ?_
          refine r_callV_V (c_X9_can (E := E) (l := l) (S := S) d26 o0 h0 0 x1) ok_X9_can ⟨⟨(Nat.le_of_ble_eq_true rfl), (Nat.le_of_ble_eq_true rfl)⟩, (Nat.le_of_ble_eq_true rfl), (Nat.le_of_ble_eq_true rfl)⟩ (h0 0 (Nat.le_of_ble_eq_true rfl)) (Nat.le_of_ble_eq_true rfl) rfl rfl rfl (Nat.le_of_ble_eq_true rfl) gX9_stageTold_X9_can rfl rfl 333 rfl dX9_stageTold_330 (fun d27 => ?_)
          refine r_iinc (x7 + 2) 2 rfl rfl [(7, .int (x7 + 2)), (0, .ref (E.2.1 + o0)), (1, .int x1)] (Nat.le_of_ble_eq_true rfl) rfl 336 rfl dX9_stageTold_333 ?_
          refine r_goto 283 rfl dX9_stageTold_336 ?_
          refine r_sub [1, 2, 0] rfl ?_
          exact ih (x7 + 2) d27
        · refine r_iconst 1 rfl 325 rfl dX9_stageTold_324 ?_
          refine r_goto 329 rfl dX9_stageTold_325 ?_
          refine r_iload_n 1 1 rfl rfl 330 rfl dX9_stageTold_329 ?_
          refine r_callV_V (c_X9_can (E := E) (l := l) (S := S) d26 o0 h0 1 x1) ok_X9_can ⟨⟨(Nat.le_of_ble_eq_true rfl), (Nat.le_of_ble_eq_true rfl)⟩, (Nat.le_of_ble_eq_true rfl), (Nat.le_of_ble_eq_true rfl)⟩ (h0 0 (Nat.le_of_ble_eq_true rfl)) (Nat.le_of_ble_eq_true rfl) rfl rfl rfl (Nat.le_of_ble_eq_true rfl) gX9_stageTold_X9_can rfl rfl 333 rfl dX9_stageTold_330 (fun d28 => ?_)
          refine r_iinc (x7 + 2) 2 rfl rfl [(7, .int (x7 + 2)), (0, .ref (E.2.1 + o0)), (1, .int x1)] (Nat.le_of_ble_eq_true rfl) rfl 336 rfl dX9_stageTold_333 ?_
          refine r_goto 283 rfl dX9_stageTold_336 ?_
          refine r_sub [1, 2, 0] rfl ?_
          exact ih (x7 + 2) d28
def f_X9_stageTold (d : z_D) (o0 : Nat) (x1 : Int32) : Option z_D := z_let (fun x_15 : Int64 × z_D => z_nam (x_15.1) (fun v1 => z_let (fun x_65 : Int32 => z_let (fun x_82 : z_D => ((f_X9_number x_82 o0 1 300).bind fun d2 => z_let (fun x_107 : Int32 => (f_X9_stageTold_L112 o0 x1 x_65 x_107 (fun d16 => z_bX (f_X9_ends d16 o0) (fun v17 d18 => (if v17 = 0 then (some d18) else z_ald d18 (o0 + 9) 600 0 (fun v19 => z_bX (f_X9_stages d18 o0 x_65 v19) (fun v20 d21 => z_let (fun x_276 : Int32 => ((f_X9_can d21 o0 x_276 x1).bind fun d22 => (f_X9_stageTold_L283 o0 x1 (fun d29 => (some d29)) z_N 1 d22))) (fun J276 => (if v20 = (-1) then (J276 0) else (J276 1)))))))) z_N 0 d2)) (fun J107 => (if (d2 o0 15) = 0 then z_ald d2 (o0 + 9) 600 0 (fun v30 => (J107 v30)) else (J107 0))))) (fun J82 => (if x_65 = (-1) then ((f_X9_fails x_15.2 o0 1 (x_15.2 o0 14)).bind fun d31 => (J82 d31)) else (J82 (x_15.2))))) (fun J65 => (if (lg_cmp v1 126893) = 0 then (J65 0) else (if (lg_cmp v1 4437766) = 0 then (J65 1) else (if (lg_cmp v1 8602516) = 0 then (J65 2) else (if (lg_cmp v1 10989714) = 0 then (J65 3) else (J65 (-1))))))))) (fun J15 => (if (d o0 15) = 0 then z_bY (f_X9_word d o0) (fun v32 d33 => (J15 (v32, d33))) else (J15 (0, d))))
set_option maxHeartbeats 4000000 in
set_option maxRecDepth 100000 in
theorem c_X9_stageTold {E : z_E} {l : Launch} {S : z_S} (d : z_D) (o0 : Nat) (h0 : A_Model S o0) (x1 : Int32) : z_Sp E l yX9_stageTold Y_X9_stageTold (cvV S) [.ref (E.2.1 + o0), .int x1] (S, d) (f_X9_stageTold d o0 x1) := by
  refine z_entry (lv := [(0, .ref (E.2.1 + o0)), (1, .int x1)]) (by decide) rfl rfl (Nat.le_of_ble_eq_true rfl) rfl ?_
  unfold f_X9_stageTold
  refine r_aload_n 0 0 rfl rfl 1 rfl dX9_stageTold_0 ?_
  refine r_get (h0 0 (Nat.le_of_ble_eq_true rfl)) rfl (Nat.le_of_ble_eq_true rfl) rfl rfl w_X9_stageTold_1 15 (Nat.le_of_ble_eq_true rfl) rfl w_X9_stageTold_0 (.int (d o0 15)) rfl 4 rfl dX9_stageTold_1 ?_
  refine r_let 15 (f := fun x_15 : Int64 × z_D => [(0, .ref (E.2.1 + o0)), (1, .int x1)]) (g := fun x_15 : Int64 × z_D => [.long (x_15.1)]) (ww := fun x_15 : Int64 × z_D => (S, x_15.2)) (fun x_15 => ?_) (fun J15 hJ15 => ?_)
  · refine r_naml (fun v1 => ?_)
    refine r_lstore_n 2 rfl [(2, .long v1), (0, .ref (E.2.1 + o0)), (1, .int x1)] (Nat.le_of_ble_eq_true rfl) rfl 16 rfl dX9_stageTold_15 ?_
    refine r_lload_n 2 0 rfl rfl 17 rfl dX9_stageTold_16 ?_
    refine r_ldc2 (v := 126893) w_X9_stageTold_2 20 rfl dX9_stageTold_17 ?_
    refine r_lcmp 21 rfl dX9_stageTold_20 ?_
    refine r_let 65 (f := fun x_65 : Int32 => [(0, .ref (E.2.1 + o0)), (1, .int x1)]) (g := fun x_65 : Int32 => [.int x_65]) (ww := fun x_65 : Int32 => (S, x_15.2)) (fun x_65 => ?_) (fun J65 hJ65 => ?_)
    · refine r_istore 4 [(4, .int x_65), (0, .ref (E.2.1 + o0)), (1, .int x1)] (Nat.le_of_ble_eq_true rfl) rfl 67 rfl dX9_stageTold_65 ?_
      refine r_iload 4 0 rfl 69 rfl dX9_stageTold_67 ?_
      refine r_iconst (-1) rfl 70 rfl dX9_stageTold_69 ?_
      refine r_let 82 (f := fun x_82 : z_D => [(0, .ref (E.2.1 + o0)), (1, .int x1), (4, .int x_65)]) (g := fun x_82 : z_D => []) (ww := fun x_82 : z_D => (S, x_82)) (fun x_82 => ?_) (fun J82 hJ82 => ?_)
      · refine r_aload_n 0 0 rfl rfl 83 rfl dX9_stageTold_82 ?_
        refine r_iconst 1 rfl 84 rfl dX9_stageTold_83 ?_
        refine r_sipush 300 rfl 87 rfl dX9_stageTold_84 ?_
        refine r_callV_V (c_X9_number (E := E) (l := l) (S := S) x_82 o0 h0 1 300) ok_X9_number ⟨⟨(Nat.le_of_ble_eq_true rfl), (Nat.le_of_ble_eq_true rfl)⟩, (Nat.le_of_ble_eq_true rfl), (Nat.le_of_ble_eq_true rfl)⟩ (h0 0 (Nat.le_of_ble_eq_true rfl)) (Nat.le_of_ble_eq_true rfl) rfl rfl rfl (Nat.le_of_ble_eq_true rfl) gX9_stageTold_X9_number rfl rfl 90 rfl dX9_stageTold_87 (fun d2 => ?_)
        refine r_aload_n 0 0 rfl rfl 91 rfl dX9_stageTold_90 ?_
        refine r_get (h0 0 (Nat.le_of_ble_eq_true rfl)) rfl (Nat.le_of_ble_eq_true rfl) rfl rfl w_X9_stageTold_1 15 (Nat.le_of_ble_eq_true rfl) rfl w_X9_stageTold_0 (.int (d2 o0 15)) rfl 94 rfl dX9_stageTold_91 ?_
        refine r_let 107 (f := fun x_107 : Int32 => [(0, .ref (E.2.1 + o0)), (1, .int x1), (4, .int x_65)]) (g := fun x_107 : Int32 => [.int x_107]) (ww := fun x_107 : Int32 => (S, d2)) (fun x_107 => ?_) (fun J107 hJ107 => ?_)
        · refine r_istore 5 [(5, .int x_107), (0, .ref (E.2.1 + o0)), (1, .int x1), (4, .int x_65)] (Nat.le_of_ble_eq_true rfl) rfl 109 rfl dX9_stageTold_107 ?_
          refine r_iconst 0 rfl 110 rfl dX9_stageTold_109 ?_
          refine r_istore 6 [(6, .int 0), (5, .int x_107), (0, .ref (E.2.1 + o0)), (1, .int x1), (4, .int x_65)] (Nat.le_of_ble_eq_true rfl) rfl 112 rfl dX9_stageTold_110 ?_
          refine r_sub [2, 3, 4, 1, 0] rfl ?_
          refine g_X9_stageTold_L112 h0 (fun d16 => ?_) z_N 0 d2
          refine r_aload_n 0 0 rfl rfl 247 rfl dX9_stageTold_246 ?_
          refine r_callV_X (c_X9_ends (E := E) (l := l) (S := S) d16 o0 h0) ok_X9_ends ⟨⟨(Nat.le_of_ble_eq_true rfl), (Nat.le_of_ble_eq_true rfl)⟩, (Nat.le_of_ble_eq_true rfl), (Nat.le_of_ble_eq_true rfl)⟩ (h0 0 (Nat.le_of_ble_eq_true rfl)) (Nat.le_of_ble_eq_true rfl) rfl rfl rfl (Nat.le_of_ble_eq_true rfl) gX9_stageTold_X9_ends rfl rfl 250 rfl dX9_stageTold_247 (fun v17 d18 => ?_)
          refine r_if_ne 254 253 rfl rfl dX9_stageTold_250 ?_ ?_
          · refine r_aload_n 0 0 rfl rfl 255 rfl dX9_stageTold_254 ?_
            refine r_aload_n 0 0 rfl rfl 256 rfl dX9_stageTold_255 ?_
            refine r_iload 4 2 rfl 258 rfl dX9_stageTold_256 ?_
            refine r_aload_n 0 0 rfl rfl 259 rfl dX9_stageTold_258 ?_
            refine r_get (h0 0 (Nat.le_of_ble_eq_true rfl)) rfl (Nat.le_of_ble_eq_true rfl) rfl rfl w_X9_stageTold_1 16 (Nat.le_of_ble_eq_true rfl) rfl w_X9_stageTold_7 (.ref (E.2.1 + (o0 + 9))) rfl 262 rfl dX9_stageTold_259 ?_
            refine r_iconst 0 rfl 263 rfl dX9_stageTold_262 ?_
            refine r_iald (h0 9 (Nat.le_of_ble_eq_true rfl)) rfl rfl 264 rfl dX9_stageTold_263 (fun v19 => ?_)
            refine r_callV_X (c_X9_stages (E := E) (l := l) (S := S) d18 o0 h0 x_65 v19) ok_X9_stages ⟨⟨(Nat.le_of_ble_eq_true rfl), (Nat.le_of_ble_eq_true rfl)⟩, (Nat.le_of_ble_eq_true rfl), (Nat.le_of_ble_eq_true rfl)⟩ (h0 0 (Nat.le_of_ble_eq_true rfl)) (Nat.le_of_ble_eq_true rfl) rfl rfl rfl (Nat.le_of_ble_eq_true rfl) gX9_stageTold_X9_stages rfl rfl 267 rfl dX9_stageTold_264 (fun v20 d21 => ?_)
            refine r_iconst (-1) rfl 268 rfl dX9_stageTold_267 ?_
            refine r_let 276 (f := fun x_276 : Int32 => [(0, .ref (E.2.1 + o0)), (1, .int x1)]) (g := fun x_276 : Int32 => [.int x_276, .ref (E.2.1 + o0)]) (ww := fun x_276 : Int32 => (S, d21)) (fun x_276 => ?_) (fun J276 hJ276 => ?_)
            · refine r_iload_n 1 1 rfl rfl 277 rfl dX9_stageTold_276 ?_
              refine r_callV_V (c_X9_can (E := E) (l := l) (S := S) d21 o0 h0 x_276 x1) ok_X9_can ⟨⟨(Nat.le_of_ble_eq_true rfl), (Nat.le_of_ble_eq_true rfl)⟩, (Nat.le_of_ble_eq_true rfl), (Nat.le_of_ble_eq_true rfl)⟩ (h0 0 (Nat.le_of_ble_eq_true rfl)) (Nat.le_of_ble_eq_true rfl) rfl rfl rfl (Nat.le_of_ble_eq_true rfl) gX9_stageTold_X9_can rfl rfl 280 rfl dX9_stageTold_277 (fun d22 => ?_)
              refine r_iconst 1 rfl 281 rfl dX9_stageTold_280 ?_
              refine r_istore 7 [(7, .int 1), (0, .ref (E.2.1 + o0)), (1, .int x1)] (Nat.le_of_ble_eq_true rfl) rfl 283 rfl dX9_stageTold_281 ?_
              refine r_sub [1, 2, 0] rfl ?_
              refine g_X9_stageTold_L283 h0 (fun d29 => ?_) z_N 1 d22
              exact r_return rfl rfl (Nat.le_of_ble_eq_true rfl) (Nat.le_of_ble_eq_true rfl) dX9_stageTold_339
            refine r_icmp_eq 275 271 rfl rfl dX9_stageTold_268 ?_ ?_
            · refine r_iconst 0 rfl 276 rfl dX9_stageTold_275 ?_
              refine r_sub [0, 1] rfl ?_
              exact hJ276 0
            · refine r_iconst 1 rfl 272 rfl dX9_stageTold_271 ?_
              refine r_goto 276 rfl dX9_stageTold_272 ?_
              refine r_sub [0, 1] rfl ?_
              exact hJ276 1
          · exact r_return rfl rfl (Nat.le_of_ble_eq_true rfl) (Nat.le_of_ble_eq_true rfl) dX9_stageTold_253
        refine r_if_ne 106 97 rfl rfl dX9_stageTold_94 ?_ ?_
        · refine r_iconst 0 rfl 107 rfl dX9_stageTold_106 ?_
          refine r_sub [0, 1, 2] rfl ?_
          exact hJ107 0
        · refine r_aload_n 0 0 rfl rfl 98 rfl dX9_stageTold_97 ?_
          refine r_get (h0 0 (Nat.le_of_ble_eq_true rfl)) rfl (Nat.le_of_ble_eq_true rfl) rfl rfl w_X9_stageTold_1 16 (Nat.le_of_ble_eq_true rfl) rfl w_X9_stageTold_7 (.ref (E.2.1 + (o0 + 9))) rfl 101 rfl dX9_stageTold_98 ?_
          refine r_iconst 0 rfl 102 rfl dX9_stageTold_101 ?_
          refine r_iald (h0 9 (Nat.le_of_ble_eq_true rfl)) rfl rfl 103 rfl dX9_stageTold_102 (fun v30 => ?_)
          refine r_goto 107 rfl dX9_stageTold_103 ?_
          refine r_sub [0, 1, 2] rfl ?_
          exact hJ107 v30
      refine r_icmp_ne 82 73 rfl rfl dX9_stageTold_70 ?_ ?_
      · refine r_sub [1, 2, 0] rfl ?_
        exact hJ82 (x_15.2)
      · refine r_aload_n 0 1 rfl rfl 74 rfl dX9_stageTold_73 ?_
        refine r_iconst 1 rfl 75 rfl dX9_stageTold_74 ?_
        refine r_aload_n 0 1 rfl rfl 76 rfl dX9_stageTold_75 ?_
        refine r_get (h0 0 (Nat.le_of_ble_eq_true rfl)) rfl (Nat.le_of_ble_eq_true rfl) rfl rfl w_X9_stageTold_1 14 (Nat.le_of_ble_eq_true rfl) rfl w_X9_stageTold_6 (.int (x_15.2 o0 14)) rfl 79 rfl dX9_stageTold_76 ?_
        refine r_callV_V (c_X9_fails (E := E) (l := l) (S := S) x_15.2 o0 h0 1 (x_15.2 o0 14)) ok_X9_fails ⟨⟨(Nat.le_of_ble_eq_true rfl), (Nat.le_of_ble_eq_true rfl)⟩, (Nat.le_of_ble_eq_true rfl), (Nat.le_of_ble_eq_true rfl)⟩ (h0 0 (Nat.le_of_ble_eq_true rfl)) (Nat.le_of_ble_eq_true rfl) rfl rfl rfl (Nat.le_of_ble_eq_true rfl) gX9_stageTold_X9_fails rfl rfl 82 rfl dX9_stageTold_79 (fun d31 => ?_)
        refine r_sub [1, 2, 0] rfl ?_
        exact hJ82 d31
    refine r_if_ne 28 24 rfl rfl dX9_stageTold_21 ?_ ?_
    · refine r_lload_n 2 0 rfl rfl 29 rfl dX9_stageTold_28 ?_
      refine r_ldc2 (v := 4437766) w_X9_stageTold_9 32 rfl dX9_stageTold_29 ?_
      refine r_lcmp 33 rfl dX9_stageTold_32 ?_
      refine r_if_ne 40 36 rfl rfl dX9_stageTold_33 ?_ ?_
      · refine r_lload_n 2 0 rfl rfl 41 rfl dX9_stageTold_40 ?_
        refine r_ldc2 (v := 8602516) w_X9_stageTold_10 44 rfl dX9_stageTold_41 ?_
        refine r_lcmp 45 rfl dX9_stageTold_44 ?_
        refine r_if_ne 52 48 rfl rfl dX9_stageTold_45 ?_ ?_
        · refine r_lload_n 2 0 rfl rfl 53 rfl dX9_stageTold_52 ?_
          refine r_ldc2 (v := 10989714) w_X9_stageTold_11 56 rfl dX9_stageTold_53 ?_
          refine r_lcmp 57 rfl dX9_stageTold_56 ?_
          refine r_if_ne 64 60 rfl rfl dX9_stageTold_57 ?_ ?_
          · refine r_iconst (-1) rfl 65 rfl dX9_stageTold_64 ?_
            refine r_sub [1, 2] rfl ?_
            exact hJ65 (-1)
          · refine r_iconst 3 rfl 61 rfl dX9_stageTold_60 ?_
            refine r_goto 65 rfl dX9_stageTold_61 ?_
            refine r_sub [1, 2] rfl ?_
            exact hJ65 3
        · refine r_iconst 2 rfl 49 rfl dX9_stageTold_48 ?_
          refine r_goto 65 rfl dX9_stageTold_49 ?_
          refine r_sub [1, 2] rfl ?_
          exact hJ65 2
      · refine r_iconst 1 rfl 37 rfl dX9_stageTold_36 ?_
        refine r_goto 65 rfl dX9_stageTold_37 ?_
        refine r_sub [1, 2] rfl ?_
        exact hJ65 1
    · refine r_iconst 0 rfl 25 rfl dX9_stageTold_24 ?_
      refine r_goto 65 rfl dX9_stageTold_25 ?_
      refine r_sub [1, 2] rfl ?_
      exact hJ65 0
  refine r_if_ne 14 7 rfl rfl dX9_stageTold_4 ?_ ?_
  · refine r_lconst 0 rfl 15 rfl dX9_stageTold_14 ?_
    refine r_sub [0, 1] rfl ?_
    exact hJ15 (0, d)
  · refine r_aload_n 0 0 rfl rfl 8 rfl dX9_stageTold_7 ?_
    refine r_callV_Y (c_X9_word (E := E) (l := l) (S := S) d o0 h0) ok_X9_word ⟨⟨(Nat.le_of_ble_eq_true rfl), (Nat.le_of_ble_eq_true rfl)⟩, (Nat.le_of_ble_eq_true rfl), (Nat.le_of_ble_eq_true rfl)⟩ (h0 0 (Nat.le_of_ble_eq_true rfl)) (Nat.le_of_ble_eq_true rfl) rfl rfl rfl (Nat.le_of_ble_eq_true rfl) gX9_stageTold_X9_word rfl rfl 11 rfl dX9_stageTold_8 (fun v32 d33 => ?_)
    refine r_goto 15 rfl dX9_stageTold_11 ?_
    refine r_sub [0, 1] rfl ?_
    exact hJ15 (v32, d33)
def Y_X9_comeTold : z_Y := (RX9, cX9_comeTold, 3, wsX9_comeTold, none, { frames := 4, cells := 0, slots := 0, locals := 86 }, 0, 0)
theorem ok_X9_comeTold : z_Ok yX9_comeTold Y_X9_comeTold 1 := ⟨⟨_, rfl⟩, rfl, rfl, rfl, by decide +kernel, by decide +kernel⟩
theorem w_X9_comeTold_0 : Cond.fieldLink RX9 261 "BunchTimesModel" "fault" "I" ∈ wsX9_comeTold := by decide +kernel
theorem w_X9_comeTold_1 : ∀ w ∈ u_ws RX9 TX9 18, w ∈ wsX9_comeTold := by decide +kernel
theorem w_X9_comeTold_2 : Cond.constant RX9 97 999999 ∈ wsX9_comeTold := by decide +kernel
theorem w_X9_comeTold_3 : Cond.fieldLink RX9 277 "BunchTimesModel" "toldMany" "I" ∈ wsX9_comeTold := by decide +kernel
theorem w_X9_comeTold_4 : Cond.fieldLink RX9 36 "BunchTimesModel" "told" "[I" ∈ wsX9_comeTold := by decide +kernel
def f_X9_comeTold_L0_b (o0 : Nat) (x1 : Int32) (K : z_D → Option z_D) (R : z_D → Option z_D) (d : z_D) : Option z_D := (if (d o0 15) = 0 then z_bX (f_X9_isDigit d o0) (fun v1 d2 => (if v1 = 0 then (K d2) else ((f_X9_lastRider d2 o0).bind fun v3 => ((f_X9_number d2 o0 0 v3).bind fun d4 => ((f_X9_number d4 o0 1 999999).bind fun d5 => (R d5)))))) else (K d))
def f_X9_comeTold_L0 (o0 : Nat) (x1 : Int32) (K : z_D → Option z_D) : Nat → z_D → Option z_D
  | 0 => fun _ => none
  | n + 1 => f_X9_comeTold_L0_b o0 x1 K (f_X9_comeTold_L0 o0 x1 K n)
set_option maxHeartbeats 4000000 in
set_option maxRecDepth 100000 in
theorem g_X9_comeTold_L0 {E : z_E} {l : Launch} {S : z_S} {o0 : Nat} {x1 : Int32} {K : z_D → Option z_D} (h0 : A_Model S o0) (hK : ∀ (d9 : z_D), z_G E l Y_X9_comeTold (cvV S) (K d9) 33 [(0, .ref (E.2.1 + o0)), (1, .int x1)] [] (S, d9) 0 0) : ∀ (n : Nat) (d : z_D), z_G E l Y_X9_comeTold (cvV S) (f_X9_comeTold_L0 o0 x1 K n d) 0 [(0, .ref (E.2.1 + o0)), (1, .int x1)] [] (S, d) 0 0 := by
  intro n
  induction n with
  | zero => intro _; exact r_none
  | succ n ih =>
    intro d
    show z_G E l Y_X9_comeTold (cvV S) (f_X9_comeTold_L0_b o0 x1 K (f_X9_comeTold_L0 o0 x1 K n) d) 0 [(0, .ref (E.2.1 + o0)), (1, .int x1)] [] (S, d) 0 0
    unfold f_X9_comeTold_L0_b
    refine r_aload_n 0 0 rfl rfl 1 rfl dX9_comeTold_0 ?_
    refine r_get (h0 0 (Nat.le_of_ble_eq_true rfl)) rfl (Nat.le_of_ble_eq_true rfl) rfl rfl w_X9_comeTold_1 15 (Nat.le_of_ble_eq_true rfl) rfl w_X9_comeTold_0 (.int (d o0 15)) rfl 4 rfl dX9_comeTold_1 ?_
    refine r_if_ne 33 7 rfl rfl dX9_comeTold_4 ?_ ?_
    · refine r_sub [0, 1] rfl ?_
      exact hK d
    · refine r_aload_n 0 0 rfl rfl 8 rfl dX9_comeTold_7 ?_
      refine r_callV_X (c_X9_isDigit (E := E) (l := l) (S := S) d o0 h0) ok_X9_isDigit ⟨⟨(Nat.le_of_ble_eq_true rfl), (Nat.le_of_ble_eq_true rfl)⟩, (Nat.le_of_ble_eq_true rfl), (Nat.le_of_ble_eq_true rfl)⟩ (h0 0 (Nat.le_of_ble_eq_true rfl)) (Nat.le_of_ble_eq_true rfl) rfl rfl rfl (Nat.le_of_ble_eq_true rfl) gX9_comeTold_X9_isDigit rfl rfl 11 rfl dX9_comeTold_8 (fun v1 d2 => ?_)
      refine r_if_eq 33 14 rfl rfl dX9_comeTold_11 ?_ ?_
      · refine r_sub [0, 1] rfl ?_
        exact hK d2
      · refine r_aload_n 0 0 rfl rfl 15 rfl dX9_comeTold_14 ?_
        refine r_iconst 0 rfl 16 rfl dX9_comeTold_15 ?_
        refine r_aload_n 0 0 rfl rfl 17 rfl dX9_comeTold_16 ?_
        refine r_callV_I (c_X9_lastRider (E := E) (l := l) (S := S) d2 o0 h0) ok_X9_lastRider ⟨⟨(Nat.le_of_ble_eq_true rfl), (Nat.le_of_ble_eq_true rfl)⟩, (Nat.le_of_ble_eq_true rfl), (Nat.le_of_ble_eq_true rfl)⟩ (h0 0 (Nat.le_of_ble_eq_true rfl)) (Nat.le_of_ble_eq_true rfl) rfl rfl rfl (Nat.le_of_ble_eq_true rfl) gX9_comeTold_X9_lastRider rfl rfl 20 rfl dX9_comeTold_17 (fun v3 => ?_)
        refine r_callV_V (c_X9_number (E := E) (l := l) (S := S) d2 o0 h0 0 v3) ok_X9_number ⟨⟨(Nat.le_of_ble_eq_true rfl), (Nat.le_of_ble_eq_true rfl)⟩, (Nat.le_of_ble_eq_true rfl), (Nat.le_of_ble_eq_true rfl)⟩ (h0 0 (Nat.le_of_ble_eq_true rfl)) (Nat.le_of_ble_eq_true rfl) rfl rfl rfl (Nat.le_of_ble_eq_true rfl) gX9_comeTold_X9_number rfl rfl 23 rfl dX9_comeTold_20 (fun d4 => ?_)
        refine r_aload_n 0 0 rfl rfl 24 rfl dX9_comeTold_23 ?_
        refine r_iconst 1 rfl 25 rfl dX9_comeTold_24 ?_
        refine r_ldc (v := 999999) w_X9_comeTold_2 27 rfl dX9_comeTold_25 ?_
        refine r_callV_V (c_X9_number (E := E) (l := l) (S := S) d4 o0 h0 1 999999) ok_X9_number ⟨⟨(Nat.le_of_ble_eq_true rfl), (Nat.le_of_ble_eq_true rfl)⟩, (Nat.le_of_ble_eq_true rfl), (Nat.le_of_ble_eq_true rfl)⟩ (h0 0 (Nat.le_of_ble_eq_true rfl)) (Nat.le_of_ble_eq_true rfl) rfl rfl rfl (Nat.le_of_ble_eq_true rfl) gX9_comeTold_X9_number rfl rfl 30 rfl dX9_comeTold_27 (fun d5 => ?_)
        refine r_goto 0 rfl dX9_comeTold_30 ?_
        refine r_sub [0, 1] rfl ?_
        exact ih d5
def f_X9_comeTold_L43_b (o0 : Nat) (x1 : Int32) (K : z_D → Option z_D) (R : Int32 → z_D → Option z_D) (x2 : Int32) (d : z_D) : Option z_D := (if (d o0 17) ≤ x2 then (K d) else (if (d o0 15) = 0 then z_ald d (o0 + 9) 600 x2 (fun v9 => z_ald d (o0 + 9) 600 (x2 + 1) (fun v10 => z_bX (f_X9_finishes_ d o0 v9 v10) (fun v11 d12 => ((f_X9_can d12 o0 v11 x1).bind fun d13 => (R (x2 + 2) d13))))) else (K d)))
def f_X9_comeTold_L43 (o0 : Nat) (x1 : Int32) (K : z_D → Option z_D) : Nat → Int32 → z_D → Option z_D
  | 0 => fun _ _ => none
  | n + 1 => f_X9_comeTold_L43_b o0 x1 K (f_X9_comeTold_L43 o0 x1 K n)
set_option maxHeartbeats 4000000 in
set_option maxRecDepth 100000 in
theorem g_X9_comeTold_L43 {E : z_E} {l : Launch} {S : z_S} {o0 : Nat} {x1 : Int32} {K : z_D → Option z_D} (h0 : A_Model S o0) (hK : ∀ (d9 : z_D), z_G E l Y_X9_comeTold (cvV S) (K d9) 87 [] [] (S, d9) 0 0) : ∀ (n : Nat) (x2 : Int32) (d : z_D), z_G E l Y_X9_comeTold (cvV S) (f_X9_comeTold_L43 o0 x1 K n x2 d) 43 [(0, .ref (E.2.1 + o0)), (1, .int x1), (2, .int x2)] [] (S, d) 0 0 := by
  intro n
  induction n with
  | zero => intro _ _; exact r_none
  | succ n ih =>
    intro x2 d
    show z_G E l Y_X9_comeTold (cvV S) (f_X9_comeTold_L43_b o0 x1 K (f_X9_comeTold_L43 o0 x1 K n) x2 d) 43 [(0, .ref (E.2.1 + o0)), (1, .int x1), (2, .int x2)] [] (S, d) 0 0
    unfold f_X9_comeTold_L43_b
    refine r_iload_n 2 2 rfl rfl 44 rfl dX9_comeTold_43 ?_
    refine r_aload_n 0 0 rfl rfl 45 rfl dX9_comeTold_44 ?_
    refine r_get (h0 0 (Nat.le_of_ble_eq_true rfl)) rfl (Nat.le_of_ble_eq_true rfl) rfl rfl w_X9_comeTold_1 17 (Nat.le_of_ble_eq_true rfl) rfl w_X9_comeTold_3 (.int (d o0 17)) rfl 48 rfl dX9_comeTold_45 ?_
    refine r_icmp_ge 87 51 rfl rfl dX9_comeTold_48 ?_ ?_
    · refine r_sub [] rfl ?_
      exact hK d
    · refine r_aload_n 0 0 rfl rfl 52 rfl dX9_comeTold_51 ?_
      refine r_get (h0 0 (Nat.le_of_ble_eq_true rfl)) rfl (Nat.le_of_ble_eq_true rfl) rfl rfl w_X9_comeTold_1 15 (Nat.le_of_ble_eq_true rfl) rfl w_X9_comeTold_0 (.int (d o0 15)) rfl 55 rfl dX9_comeTold_52 ?_
      refine r_if_ne 87 58 rfl rfl dX9_comeTold_55 ?_ ?_
      · refine r_sub [] rfl ?_
        exact hK d
      · refine r_aload_n 0 0 rfl rfl 59 rfl dX9_comeTold_58 ?_
        refine r_aload_n 0 0 rfl rfl 60 rfl dX9_comeTold_59 ?_
        refine r_aload_n 0 0 rfl rfl 61 rfl dX9_comeTold_60 ?_
        refine r_get (h0 0 (Nat.le_of_ble_eq_true rfl)) rfl (Nat.le_of_ble_eq_true rfl) rfl rfl w_X9_comeTold_1 16 (Nat.le_of_ble_eq_true rfl) rfl w_X9_comeTold_4 (.ref (E.2.1 + (o0 + 9))) rfl 64 rfl dX9_comeTold_61 ?_
        refine r_iload_n 2 2 rfl rfl 65 rfl dX9_comeTold_64 ?_
        refine r_iald (h0 9 (Nat.le_of_ble_eq_true rfl)) rfl rfl 66 rfl dX9_comeTold_65 (fun v9 => ?_)
        refine r_aload_n 0 0 rfl rfl 67 rfl dX9_comeTold_66 ?_
        refine r_get (h0 0 (Nat.le_of_ble_eq_true rfl)) rfl (Nat.le_of_ble_eq_true rfl) rfl rfl w_X9_comeTold_1 16 (Nat.le_of_ble_eq_true rfl) rfl w_X9_comeTold_4 (.ref (E.2.1 + (o0 + 9))) rfl 70 rfl dX9_comeTold_67 ?_
        refine r_iload_n 2 2 rfl rfl 71 rfl dX9_comeTold_70 ?_
        refine r_iconst 1 rfl 72 rfl dX9_comeTold_71 ?_
        refine r_iadd 73 rfl dX9_comeTold_72 ?_
        refine r_iald (h0 9 (Nat.le_of_ble_eq_true rfl)) rfl rfl 74 rfl dX9_comeTold_73 (fun v10 => ?_)
        refine r_callV_X (c_X9_finishes_ (E := E) (l := l) (S := S) d o0 h0 v9 v10) ok_X9_finishes_ ⟨⟨(Nat.le_of_ble_eq_true rfl), (Nat.le_of_ble_eq_true rfl)⟩, (Nat.le_of_ble_eq_true rfl), (Nat.le_of_ble_eq_true rfl)⟩ (h0 0 (Nat.le_of_ble_eq_true rfl)) (Nat.le_of_ble_eq_true rfl) rfl rfl rfl (Nat.le_of_ble_eq_true rfl) gX9_comeTold_X9_finishes_ rfl rfl 77 rfl dX9_comeTold_74 (fun v11 d12 => ?_)
        refine r_iload_n 1 1 rfl rfl 78 rfl dX9_comeTold_77 ?_
        refine r_callV_V (c_X9_can (E := E) (l := l) (S := S) d12 o0 h0 v11 x1) ok_X9_can ⟨⟨(Nat.le_of_ble_eq_true rfl), (Nat.le_of_ble_eq_true rfl)⟩, (Nat.le_of_ble_eq_true rfl), (Nat.le_of_ble_eq_true rfl)⟩ (h0 0 (Nat.le_of_ble_eq_true rfl)) (Nat.le_of_ble_eq_true rfl) rfl rfl rfl (Nat.le_of_ble_eq_true rfl) gX9_comeTold_X9_can rfl rfl 81 rfl dX9_comeTold_78 (fun d13 => ?_)
        refine r_iinc (x2 + 2) 2 rfl rfl [(2, .int (x2 + 2)), (0, .ref (E.2.1 + o0)), (1, .int x1)] (Nat.le_of_ble_eq_true rfl) rfl 84 rfl dX9_comeTold_81 ?_
        refine r_goto 43 rfl dX9_comeTold_84 ?_
        refine r_sub [1, 2, 0] rfl ?_
        exact ih (x2 + 2) d13
def f_X9_comeTold (d : z_D) (o0 : Nat) (x1 : Int32) : Option z_D := (f_X9_comeTold_L0 o0 x1 (fun d6 => z_bX (f_X9_ends d6 o0) (fun v7 d8 => (if v7 = 0 then (some d8) else (f_X9_comeTold_L43 o0 x1 (fun d14 => (some d14)) z_N 0 d8)))) z_N d)
set_option maxHeartbeats 4000000 in
set_option maxRecDepth 100000 in
theorem c_X9_comeTold {E : z_E} {l : Launch} {S : z_S} (d : z_D) (o0 : Nat) (h0 : A_Model S o0) (x1 : Int32) : z_Sp E l yX9_comeTold Y_X9_comeTold (cvV S) [.ref (E.2.1 + o0), .int x1] (S, d) (f_X9_comeTold d o0 x1) := by
  refine z_entry (lv := [(0, .ref (E.2.1 + o0)), (1, .int x1)]) (by decide) rfl rfl (Nat.le_of_ble_eq_true rfl) rfl ?_
  unfold f_X9_comeTold
  refine r_sub [0, 1] rfl ?_
  refine g_X9_comeTold_L0 h0 (fun d6 => ?_) z_N d
  refine r_aload_n 0 0 rfl rfl 34 rfl dX9_comeTold_33 ?_
  refine r_callV_X (c_X9_ends (E := E) (l := l) (S := S) d6 o0 h0) ok_X9_ends ⟨⟨(Nat.le_of_ble_eq_true rfl), (Nat.le_of_ble_eq_true rfl)⟩, (Nat.le_of_ble_eq_true rfl), (Nat.le_of_ble_eq_true rfl)⟩ (h0 0 (Nat.le_of_ble_eq_true rfl)) (Nat.le_of_ble_eq_true rfl) rfl rfl rfl (Nat.le_of_ble_eq_true rfl) gX9_comeTold_X9_ends rfl rfl 37 rfl dX9_comeTold_34 (fun v7 d8 => ?_)
  refine r_if_ne 41 40 rfl rfl dX9_comeTold_37 ?_ ?_
  · refine r_iconst 0 rfl 42 rfl dX9_comeTold_41 ?_
    refine r_istore_n 2 rfl [(2, .int 0), (0, .ref (E.2.1 + o0)), (1, .int x1)] (Nat.le_of_ble_eq_true rfl) rfl 43 rfl dX9_comeTold_42 ?_
    refine r_sub [1, 2, 0] rfl ?_
    refine g_X9_comeTold_L43 h0 (fun d14 => ?_) z_N 0 d8
    exact r_return rfl rfl (Nat.le_of_ble_eq_true rfl) (Nat.le_of_ble_eq_true rfl) dX9_comeTold_87
  · exact r_return rfl rfl (Nat.le_of_ble_eq_true rfl) (Nat.le_of_ble_eq_true rfl) dX9_comeTold_40
def Y_X9_overTold : z_Y := (RX9, cX9_overTold, 3, wsX9_overTold, none, { frames := 4, cells := 0, slots := 0, locals := 89 }, 0, 0)
theorem ok_X9_overTold : z_Ok yX9_overTold Y_X9_overTold 1 := ⟨⟨_, rfl⟩, rfl, rfl, rfl, by decide +kernel, by decide +kernel⟩
theorem w_X9_overTold_0 : Cond.fieldLink RX9 261 "BunchTimesModel" "fault" "I" ∈ wsX9_overTold := by decide +kernel
theorem w_X9_overTold_1 : ∀ w ∈ u_ws RX9 TX9 18, w ∈ wsX9_overTold := by decide +kernel
theorem w_X9_overTold_2 : Cond.fieldLink RX9 277 "BunchTimesModel" "toldMany" "I" ∈ wsX9_overTold := by decide +kernel
theorem w_X9_overTold_3 : Cond.fieldLink RX9 36 "BunchTimesModel" "told" "[I" ∈ wsX9_overTold := by decide +kernel
theorem w_X9_overTold_4 : Cond.fieldLink RX9 7 "BunchTimesModel" "row" "[I" ∈ wsX9_overTold := by decide +kernel
def f_X9_overTold_L31_b (o0 : Nat) (x1 : Int32) (K : z_D → Option z_D) (R : z_D → Option z_D) (d : z_D) : Option z_D := (if (d o0 15) = 0 then z_bX (f_X9_isDigit d o0) (fun v3 d4 => (if v3 = 0 then (K d4) else ((f_X9_lastRider d4 o0).bind fun v5 => ((f_X9_number d4 o0 0 v5).bind fun d6 => (R d6))))) else (K d))
def f_X9_overTold_L31 (o0 : Nat) (x1 : Int32) (K : z_D → Option z_D) : Nat → z_D → Option z_D
  | 0 => fun _ => none
  | n + 1 => f_X9_overTold_L31_b o0 x1 K (f_X9_overTold_L31 o0 x1 K n)
set_option maxHeartbeats 4000000 in
set_option maxRecDepth 100000 in
theorem g_X9_overTold_L31 {E : z_E} {l : Launch} {S : z_S} {o0 : Nat} {x1 : Int32} {K : z_D → Option z_D} (h0 : A_Model S o0) (hK : ∀ (d9 : z_D), z_G E l Y_X9_overTold (cvV S) (K d9) 57 [(0, .ref (E.2.1 + o0)), (1, .int x1)] [] (S, d9) 0 0) : ∀ (n : Nat) (d : z_D), z_G E l Y_X9_overTold (cvV S) (f_X9_overTold_L31 o0 x1 K n d) 31 [(0, .ref (E.2.1 + o0)), (1, .int x1)] [] (S, d) 0 0 := by
  intro n
  induction n with
  | zero => intro _; exact r_none
  | succ n ih =>
    intro d
    show z_G E l Y_X9_overTold (cvV S) (f_X9_overTold_L31_b o0 x1 K (f_X9_overTold_L31 o0 x1 K n) d) 31 [(0, .ref (E.2.1 + o0)), (1, .int x1)] [] (S, d) 0 0
    unfold f_X9_overTold_L31_b
    refine r_aload_n 0 0 rfl rfl 32 rfl dX9_overTold_31 ?_
    refine r_get (h0 0 (Nat.le_of_ble_eq_true rfl)) rfl (Nat.le_of_ble_eq_true rfl) rfl rfl w_X9_overTold_1 15 (Nat.le_of_ble_eq_true rfl) rfl w_X9_overTold_0 (.int (d o0 15)) rfl 35 rfl dX9_overTold_32 ?_
    refine r_if_ne 57 38 rfl rfl dX9_overTold_35 ?_ ?_
    · refine r_sub [0, 1] rfl ?_
      exact hK d
    · refine r_aload_n 0 0 rfl rfl 39 rfl dX9_overTold_38 ?_
      refine r_callV_X (c_X9_isDigit (E := E) (l := l) (S := S) d o0 h0) ok_X9_isDigit ⟨⟨(Nat.le_of_ble_eq_true rfl), (Nat.le_of_ble_eq_true rfl)⟩, (Nat.le_of_ble_eq_true rfl), (Nat.le_of_ble_eq_true rfl)⟩ (h0 0 (Nat.le_of_ble_eq_true rfl)) (Nat.le_of_ble_eq_true rfl) rfl rfl rfl (Nat.le_of_ble_eq_true rfl) gX9_overTold_X9_isDigit rfl rfl 42 rfl dX9_overTold_39 (fun v3 d4 => ?_)
      refine r_if_eq 57 45 rfl rfl dX9_overTold_42 ?_ ?_
      · refine r_sub [0, 1] rfl ?_
        exact hK d4
      · refine r_aload_n 0 0 rfl rfl 46 rfl dX9_overTold_45 ?_
        refine r_iconst 0 rfl 47 rfl dX9_overTold_46 ?_
        refine r_aload_n 0 0 rfl rfl 48 rfl dX9_overTold_47 ?_
        refine r_callV_I (c_X9_lastRider (E := E) (l := l) (S := S) d4 o0 h0) ok_X9_lastRider ⟨⟨(Nat.le_of_ble_eq_true rfl), (Nat.le_of_ble_eq_true rfl)⟩, (Nat.le_of_ble_eq_true rfl), (Nat.le_of_ble_eq_true rfl)⟩ (h0 0 (Nat.le_of_ble_eq_true rfl)) (Nat.le_of_ble_eq_true rfl) rfl rfl rfl (Nat.le_of_ble_eq_true rfl) gX9_overTold_X9_lastRider rfl rfl 51 rfl dX9_overTold_48 (fun v5 => ?_)
        refine r_callV_V (c_X9_number (E := E) (l := l) (S := S) d4 o0 h0 0 v5) ok_X9_number ⟨⟨(Nat.le_of_ble_eq_true rfl), (Nat.le_of_ble_eq_true rfl)⟩, (Nat.le_of_ble_eq_true rfl), (Nat.le_of_ble_eq_true rfl)⟩ (h0 0 (Nat.le_of_ble_eq_true rfl)) (Nat.le_of_ble_eq_true rfl) rfl rfl rfl (Nat.le_of_ble_eq_true rfl) gX9_overTold_X9_number rfl rfl 54 rfl dX9_overTold_51 (fun d6 => ?_)
        refine r_goto 31 rfl dX9_overTold_54 ?_
        refine r_sub [0, 1] rfl ?_
        exact ih d6
def f_X9_overTold_L67_b (o0 : Nat) (x1 : Int32) (K : z_D → Option z_D) (R : Int32 → z_D → Option z_D) (x2 : Int32) (d : z_D) : Option z_D := (if (d o0 17) ≤ x2 then (K d) else (if (d o0 15) = 0 then z_ald d (o0 + 9) 600 0 (fun v10 => z_ald d (o0 + 9) 600 x2 (fun v11 => z_bX (f_X9_overs d o0 v10 v11) (fun v12 d13 => (if v12 = (-1) then ((f_X9_can d13 o0 0 x1).bind fun d14 => (R (x2 + 1) d14)) else ((f_X9_can d13 o0 1 x1).bind fun d15 => (R (x2 + 1) d15)))))) else (K d)))
def f_X9_overTold_L67 (o0 : Nat) (x1 : Int32) (K : z_D → Option z_D) : Nat → Int32 → z_D → Option z_D
  | 0 => fun _ _ => none
  | n + 1 => f_X9_overTold_L67_b o0 x1 K (f_X9_overTold_L67 o0 x1 K n)
set_option maxHeartbeats 4000000 in
set_option maxRecDepth 100000 in
theorem g_X9_overTold_L67 {E : z_E} {l : Launch} {S : z_S} {o0 : Nat} {x1 : Int32} {K : z_D → Option z_D} (h0 : A_Model S o0) (hK : ∀ (d9 : z_D), z_G E l Y_X9_overTold (cvV S) (K d9) 118 [] [] (S, d9) 0 0) : ∀ (n : Nat) (x2 : Int32) (d : z_D), z_G E l Y_X9_overTold (cvV S) (f_X9_overTold_L67 o0 x1 K n x2 d) 67 [(0, .ref (E.2.1 + o0)), (1, .int x1), (2, .int x2)] [] (S, d) 0 0 := by
  intro n
  induction n with
  | zero => intro _ _; exact r_none
  | succ n ih =>
    intro x2 d
    show z_G E l Y_X9_overTold (cvV S) (f_X9_overTold_L67_b o0 x1 K (f_X9_overTold_L67 o0 x1 K n) x2 d) 67 [(0, .ref (E.2.1 + o0)), (1, .int x1), (2, .int x2)] [] (S, d) 0 0
    unfold f_X9_overTold_L67_b
    refine r_iload_n 2 2 rfl rfl 68 rfl dX9_overTold_67 ?_
    refine r_aload_n 0 0 rfl rfl 69 rfl dX9_overTold_68 ?_
    refine r_get (h0 0 (Nat.le_of_ble_eq_true rfl)) rfl (Nat.le_of_ble_eq_true rfl) rfl rfl w_X9_overTold_1 17 (Nat.le_of_ble_eq_true rfl) rfl w_X9_overTold_2 (.int (d o0 17)) rfl 72 rfl dX9_overTold_69 ?_
    refine r_icmp_ge 118 75 rfl rfl dX9_overTold_72 ?_ ?_
    · refine r_sub [] rfl ?_
      exact hK d
    · refine r_aload_n 0 0 rfl rfl 76 rfl dX9_overTold_75 ?_
      refine r_get (h0 0 (Nat.le_of_ble_eq_true rfl)) rfl (Nat.le_of_ble_eq_true rfl) rfl rfl w_X9_overTold_1 15 (Nat.le_of_ble_eq_true rfl) rfl w_X9_overTold_0 (.int (d o0 15)) rfl 79 rfl dX9_overTold_76 ?_
      refine r_if_ne 118 82 rfl rfl dX9_overTold_79 ?_ ?_
      · refine r_sub [] rfl ?_
        exact hK d
      · refine r_aload_n 0 0 rfl rfl 83 rfl dX9_overTold_82 ?_
        refine r_aload_n 0 0 rfl rfl 84 rfl dX9_overTold_83 ?_
        refine r_aload_n 0 0 rfl rfl 85 rfl dX9_overTold_84 ?_
        refine r_get (h0 0 (Nat.le_of_ble_eq_true rfl)) rfl (Nat.le_of_ble_eq_true rfl) rfl rfl w_X9_overTold_1 16 (Nat.le_of_ble_eq_true rfl) rfl w_X9_overTold_3 (.ref (E.2.1 + (o0 + 9))) rfl 88 rfl dX9_overTold_85 ?_
        refine r_iconst 0 rfl 89 rfl dX9_overTold_88 ?_
        refine r_iald (h0 9 (Nat.le_of_ble_eq_true rfl)) rfl rfl 90 rfl dX9_overTold_89 (fun v10 => ?_)
        refine r_aload_n 0 0 rfl rfl 91 rfl dX9_overTold_90 ?_
        refine r_get (h0 0 (Nat.le_of_ble_eq_true rfl)) rfl (Nat.le_of_ble_eq_true rfl) rfl rfl w_X9_overTold_1 16 (Nat.le_of_ble_eq_true rfl) rfl w_X9_overTold_3 (.ref (E.2.1 + (o0 + 9))) rfl 94 rfl dX9_overTold_91 ?_
        refine r_iload_n 2 2 rfl rfl 95 rfl dX9_overTold_94 ?_
        refine r_iald (h0 9 (Nat.le_of_ble_eq_true rfl)) rfl rfl 96 rfl dX9_overTold_95 (fun v11 => ?_)
        refine r_callV_X (c_X9_overs (E := E) (l := l) (S := S) d o0 h0 v10 v11) ok_X9_overs ⟨⟨(Nat.le_of_ble_eq_true rfl), (Nat.le_of_ble_eq_true rfl)⟩, (Nat.le_of_ble_eq_true rfl), (Nat.le_of_ble_eq_true rfl)⟩ (h0 0 (Nat.le_of_ble_eq_true rfl)) (Nat.le_of_ble_eq_true rfl) rfl rfl rfl (Nat.le_of_ble_eq_true rfl) gX9_overTold_X9_overs rfl rfl 99 rfl dX9_overTold_96 (fun v12 d13 => ?_)
        refine r_iconst (-1) rfl 100 rfl dX9_overTold_99 ?_
        refine r_icmp_eq 107 103 rfl rfl dX9_overTold_100 ?_ ?_
        · refine r_iconst 0 rfl 108 rfl dX9_overTold_107 ?_
          refine r_iload_n 1 1 rfl rfl 109 rfl dX9_overTold_108 ?_
          refine r_callV_V (c_X9_can (E := E) (l := l) (S := S) d13 o0 h0 0 x1) ok_X9_can ⟨⟨(Nat.le_of_ble_eq_true rfl), (Nat.le_of_ble_eq_true rfl)⟩, (Nat.le_of_ble_eq_true rfl), (Nat.le_of_ble_eq_true rfl)⟩ (h0 0 (Nat.le_of_ble_eq_true rfl)) (Nat.le_of_ble_eq_true rfl) rfl rfl rfl (Nat.le_of_ble_eq_true rfl) gX9_overTold_X9_can rfl rfl 112 rfl dX9_overTold_109 (fun d14 => ?_)
          refine r_iinc (x2 + 1) 2 rfl rfl [(2, .int (x2 + 1)), (0, .ref (E.2.1 + o0)), (1, .int x1)] (Nat.le_of_ble_eq_true rfl) rfl 115 rfl dX9_overTold_112 ?_
          refine r_goto 67 rfl dX9_overTold_115 ?_
          refine r_sub [1, 2, 0] rfl ?_
          exact ih (x2 + 1) d14
        · refine r_iconst 1 rfl 104 rfl dX9_overTold_103 ?_
          refine r_goto 108 rfl dX9_overTold_104 ?_
          refine r_iload_n 1 1 rfl rfl 109 rfl dX9_overTold_108 ?_
          refine r_callV_V (c_X9_can (E := E) (l := l) (S := S) d13 o0 h0 1 x1) ok_X9_can ⟨⟨(Nat.le_of_ble_eq_true rfl), (Nat.le_of_ble_eq_true rfl)⟩, (Nat.le_of_ble_eq_true rfl), (Nat.le_of_ble_eq_true rfl)⟩ (h0 0 (Nat.le_of_ble_eq_true rfl)) (Nat.le_of_ble_eq_true rfl) rfl rfl rfl (Nat.le_of_ble_eq_true rfl) gX9_overTold_X9_can rfl rfl 112 rfl dX9_overTold_109 (fun d15 => ?_)
          refine r_iinc (x2 + 1) 2 rfl rfl [(2, .int (x2 + 1)), (0, .ref (E.2.1 + o0)), (1, .int x1)] (Nat.le_of_ble_eq_true rfl) rfl 115 rfl dX9_overTold_112 ?_
          refine r_goto 67 rfl dX9_overTold_115 ?_
          refine r_sub [1, 2, 0] rfl ?_
          exact ih (x2 + 1) d15
def f_X9_overTold (d : z_D) (o0 : Nat) (x1 : Int32) : Option z_D := ((f_X9_latest d o0).bind fun v1 => z_let (fun x_28 : Int32 => ((f_X9_number d o0 0 x_28).bind fun d2 => (f_X9_overTold_L31 o0 x1 (fun d7 => z_bX (f_X9_ends d7 o0) (fun v8 d9 => (if v8 = 0 then (some d9) else (f_X9_overTold_L67 o0 x1 (fun d16 => (some d16)) z_N 1 d9)))) z_N d2))) (fun J28 => (if 0 ≤ v1 then ((f_X9_latest d o0).bind fun v17 => ((f_X9_at v17 2).bind fun v18 => z_ald d (o0 + 1) 2656 v18 (fun v19 => (J28 (v19 - 1))))) else (J28 (-1)))))
set_option maxHeartbeats 4000000 in
set_option maxRecDepth 100000 in
theorem c_X9_overTold {E : z_E} {l : Launch} {S : z_S} (d : z_D) (o0 : Nat) (h0 : A_Model S o0) (x1 : Int32) : z_Sp E l yX9_overTold Y_X9_overTold (cvV S) [.ref (E.2.1 + o0), .int x1] (S, d) (f_X9_overTold d o0 x1) := by
  refine z_entry (lv := [(0, .ref (E.2.1 + o0)), (1, .int x1)]) (by decide) rfl rfl (Nat.le_of_ble_eq_true rfl) rfl ?_
  unfold f_X9_overTold
  refine r_aload_n 0 0 rfl rfl 1 rfl dX9_overTold_0 ?_
  refine r_iconst 0 rfl 2 rfl dX9_overTold_1 ?_
  refine r_aload_n 0 0 rfl rfl 3 rfl dX9_overTold_2 ?_
  refine r_callV_I (c_X9_latest (E := E) (l := l) (S := S) d o0 h0) ok_X9_latest ⟨⟨(Nat.le_of_ble_eq_true rfl), (Nat.le_of_ble_eq_true rfl)⟩, (Nat.le_of_ble_eq_true rfl), (Nat.le_of_ble_eq_true rfl)⟩ (h0 0 (Nat.le_of_ble_eq_true rfl)) (Nat.le_of_ble_eq_true rfl) rfl rfl rfl (Nat.le_of_ble_eq_true rfl) gX9_overTold_X9_latest rfl rfl 6 rfl dX9_overTold_3 (fun v1 => ?_)
  refine r_let 28 (f := fun x_28 : Int32 => [(0, .ref (E.2.1 + o0)), (1, .int x1)]) (g := fun x_28 : Int32 => [.int x_28, .int 0, .ref (E.2.1 + o0)]) (ww := fun x_28 : Int32 => (S, d)) (fun x_28 => ?_) (fun J28 hJ28 => ?_)
  · refine r_callV_V (c_X9_number (E := E) (l := l) (S := S) d o0 h0 0 x_28) ok_X9_number ⟨⟨(Nat.le_of_ble_eq_true rfl), (Nat.le_of_ble_eq_true rfl)⟩, (Nat.le_of_ble_eq_true rfl), (Nat.le_of_ble_eq_true rfl)⟩ (h0 0 (Nat.le_of_ble_eq_true rfl)) (Nat.le_of_ble_eq_true rfl) rfl rfl rfl (Nat.le_of_ble_eq_true rfl) gX9_overTold_X9_number rfl rfl 31 rfl dX9_overTold_28 (fun d2 => ?_)
    refine r_sub [0, 1] rfl ?_
    refine g_X9_overTold_L31 h0 (fun d7 => ?_) z_N d2
    refine r_aload_n 0 0 rfl rfl 58 rfl dX9_overTold_57 ?_
    refine r_callV_X (c_X9_ends (E := E) (l := l) (S := S) d7 o0 h0) ok_X9_ends ⟨⟨(Nat.le_of_ble_eq_true rfl), (Nat.le_of_ble_eq_true rfl)⟩, (Nat.le_of_ble_eq_true rfl), (Nat.le_of_ble_eq_true rfl)⟩ (h0 0 (Nat.le_of_ble_eq_true rfl)) (Nat.le_of_ble_eq_true rfl) rfl rfl rfl (Nat.le_of_ble_eq_true rfl) gX9_overTold_X9_ends rfl rfl 61 rfl dX9_overTold_58 (fun v8 d9 => ?_)
    refine r_if_ne 65 64 rfl rfl dX9_overTold_61 ?_ ?_
    · refine r_iconst 1 rfl 66 rfl dX9_overTold_65 ?_
      refine r_istore_n 2 rfl [(2, .int 1), (0, .ref (E.2.1 + o0)), (1, .int x1)] (Nat.le_of_ble_eq_true rfl) rfl 67 rfl dX9_overTold_66 ?_
      refine r_sub [1, 2, 0] rfl ?_
      refine g_X9_overTold_L67 h0 (fun d16 => ?_) z_N 1 d9
      exact r_return rfl rfl (Nat.le_of_ble_eq_true rfl) (Nat.le_of_ble_eq_true rfl) dX9_overTold_118
    · exact r_return rfl rfl (Nat.le_of_ble_eq_true rfl) (Nat.le_of_ble_eq_true rfl) dX9_overTold_64
  refine r_if_ge 13 9 rfl rfl dX9_overTold_6 ?_ ?_
  · refine r_aload_n 0 0 rfl rfl 14 rfl dX9_overTold_13 ?_
    refine r_get (h0 0 (Nat.le_of_ble_eq_true rfl)) rfl (Nat.le_of_ble_eq_true rfl) rfl rfl w_X9_overTold_1 1 (Nat.le_of_ble_eq_true rfl) rfl w_X9_overTold_4 (.ref (E.2.1 + (o0 + 1))) rfl 17 rfl dX9_overTold_14 ?_
    refine r_aload_n 0 0 rfl rfl 18 rfl dX9_overTold_17 ?_
    refine r_callV_I (c_X9_latest (E := E) (l := l) (S := S) d o0 h0) ok_X9_latest ⟨⟨(Nat.le_of_ble_eq_true rfl), (Nat.le_of_ble_eq_true rfl)⟩, (Nat.le_of_ble_eq_true rfl), (Nat.le_of_ble_eq_true rfl)⟩ (h0 0 (Nat.le_of_ble_eq_true rfl)) (Nat.le_of_ble_eq_true rfl) rfl rfl rfl (Nat.le_of_ble_eq_true rfl) gX9_overTold_X9_latest rfl rfl 21 rfl dX9_overTold_18 (fun v17 => ?_)
    refine r_iconst 2 rfl 22 rfl dX9_overTold_21 ?_
    refine r_callS_I (c_X9_at (E := E) (l := l) (S := S) d v17 2) ok_X9_at ⟨⟨(Nat.le_of_ble_eq_true rfl), (Nat.le_of_ble_eq_true rfl)⟩, (Nat.le_of_ble_eq_true rfl), (Nat.le_of_ble_eq_true rfl)⟩ rfl (Nat.le_of_ble_eq_true rfl) gX9_overTold_X9_at rfl rfl 25 rfl dX9_overTold_22 (fun v18 => ?_)
    refine r_iald (h0 1 (Nat.le_of_ble_eq_true rfl)) rfl rfl 26 rfl dX9_overTold_25 (fun v19 => ?_)
    refine r_iconst 1 rfl 27 rfl dX9_overTold_26 ?_
    refine r_isub 28 rfl dX9_overTold_27 ?_
    refine r_sub [0, 1] rfl ?_
    exact hJ28 (v19 - 1)
  · refine r_iconst (-1) rfl 10 rfl dX9_overTold_9 ?_
    refine r_goto 28 rfl dX9_overTold_10 ?_
    refine r_sub [0, 1] rfl ?_
    exact hJ28 (-1)
def Y_X9_fallTold : z_Y := (RX9, cX9_fallTold, 5, wsX9_fallTold, none, { frames := 4, cells := 0, slots := 0, locals := 88 }, 0, 0)
theorem ok_X9_fallTold : z_Ok yX9_fallTold Y_X9_fallTold 1 := ⟨⟨_, rfl⟩, rfl, rfl, rfl, by decide +kernel, by decide +kernel⟩
theorem w_X9_fallTold_0 : Cond.fieldLink RX9 261 "BunchTimesModel" "fault" "I" ∈ wsX9_fallTold := by decide +kernel
theorem w_X9_fallTold_1 : ∀ w ∈ u_ws RX9 TX9 18, w ∈ wsX9_fallTold := by decide +kernel
theorem w_X9_fallTold_2 : Cond.fieldLink RX9 36 "BunchTimesModel" "told" "[I" ∈ wsX9_fallTold := by decide +kernel
theorem w_X9_fallTold_3 : Cond.constantLong RX9 319 459818 ∈ wsX9_fallTold := by decide +kernel
theorem w_X9_fallTold_4 : Cond.fieldLink RX9 7 "BunchTimesModel" "row" "[I" ∈ wsX9_fallTold := by decide +kernel
def f_X9_fallTold (d : z_D) (o0 : Nat) (x1 : Int32) : Option z_D := ((f_X9_lastRider d o0).bind fun v1 => ((f_X9_number d o0 0 v1).bind fun d2 => ((f_X9_latest d2 o0).bind fun v3 => z_let (fun x_35 : Int32 => ((f_X9_number d2 o0 0 x_35).bind fun d4 => z_let (fun x_60 : Int32 × z_D => z_nam (x_60.1) (fun v5 => z_let (fun x_79 : z_D => z_bX (f_X9_ends x_79 o0) (fun v6 d7 => (if v6 = 0 then (some d7) else z_ald d7 (o0 + 9) 600 0 (fun v8 => z_ald d7 (o0 + 9) 600 1 (fun v9 => (if v5 = 0 then z_bX (f_X9_falls d7 o0 v8 v9 (-1)) (fun v10 d11 => ((f_X9_can d11 o0 v10 x1).bind fun d12 => (some d12))) else z_ald d7 (o0 + 9) 600 2 (fun v13 => z_bX (f_X9_falls d7 o0 v8 v9 v13) (fun v14 d15 => ((f_X9_can d15 o0 v14 x1).bind fun d16 => (some d16)))))))))) (fun J79 => (if v5 = 0 then (J79 (x_60.2)) else z_bY (f_X9_word x_60.2 o0) (fun v17 d18 => ((f_X9_lastRider d18 o0).bind fun v19 => ((f_X9_number d18 o0 0 v19).bind fun d20 => (J79 d20)))))))) (fun J60 => z_let (fun x_59 : z_D => (J60 (0, x_59))) (fun J59 => (if (d4 o0 15) = 0 then z_bX (f_X9_isWord d4 o0 459818) (fun v21 d22 => (if v21 = 0 then (J59 d22) else (J60 (1, d22)))) else (J59 d4)))))) (fun J35 => (if 0 ≤ v3 then ((f_X9_latest d2 o0).bind fun v23 => ((f_X9_at v23 1).bind fun v24 => z_ald d2 (o0 + 1) 2656 v24 (fun v25 => (J35 v25)))) else (J35 0))))))
set_option maxHeartbeats 4000000 in
set_option maxRecDepth 100000 in
theorem c_X9_fallTold {E : z_E} {l : Launch} {S : z_S} (d : z_D) (o0 : Nat) (h0 : A_Model S o0) (x1 : Int32) : z_Sp E l yX9_fallTold Y_X9_fallTold (cvV S) [.ref (E.2.1 + o0), .int x1] (S, d) (f_X9_fallTold d o0 x1) := by
  refine z_entry (lv := [(0, .ref (E.2.1 + o0)), (1, .int x1)]) (by decide) rfl rfl (Nat.le_of_ble_eq_true rfl) rfl ?_
  unfold f_X9_fallTold
  refine r_aload_n 0 0 rfl rfl 1 rfl dX9_fallTold_0 ?_
  refine r_iconst 0 rfl 2 rfl dX9_fallTold_1 ?_
  refine r_aload_n 0 0 rfl rfl 3 rfl dX9_fallTold_2 ?_
  refine r_callV_I (c_X9_lastRider (E := E) (l := l) (S := S) d o0 h0) ok_X9_lastRider ⟨⟨(Nat.le_of_ble_eq_true rfl), (Nat.le_of_ble_eq_true rfl)⟩, (Nat.le_of_ble_eq_true rfl), (Nat.le_of_ble_eq_true rfl)⟩ (h0 0 (Nat.le_of_ble_eq_true rfl)) (Nat.le_of_ble_eq_true rfl) rfl rfl rfl (Nat.le_of_ble_eq_true rfl) gX9_fallTold_X9_lastRider rfl rfl 6 rfl dX9_fallTold_3 (fun v1 => ?_)
  refine r_callV_V (c_X9_number (E := E) (l := l) (S := S) d o0 h0 0 v1) ok_X9_number ⟨⟨(Nat.le_of_ble_eq_true rfl), (Nat.le_of_ble_eq_true rfl)⟩, (Nat.le_of_ble_eq_true rfl), (Nat.le_of_ble_eq_true rfl)⟩ (h0 0 (Nat.le_of_ble_eq_true rfl)) (Nat.le_of_ble_eq_true rfl) rfl rfl rfl (Nat.le_of_ble_eq_true rfl) gX9_fallTold_X9_number rfl rfl 9 rfl dX9_fallTold_6 (fun d2 => ?_)
  refine r_aload_n 0 0 rfl rfl 10 rfl dX9_fallTold_9 ?_
  refine r_iconst 0 rfl 11 rfl dX9_fallTold_10 ?_
  refine r_aload_n 0 0 rfl rfl 12 rfl dX9_fallTold_11 ?_
  refine r_callV_I (c_X9_latest (E := E) (l := l) (S := S) d2 o0 h0) ok_X9_latest ⟨⟨(Nat.le_of_ble_eq_true rfl), (Nat.le_of_ble_eq_true rfl)⟩, (Nat.le_of_ble_eq_true rfl), (Nat.le_of_ble_eq_true rfl)⟩ (h0 0 (Nat.le_of_ble_eq_true rfl)) (Nat.le_of_ble_eq_true rfl) rfl rfl rfl (Nat.le_of_ble_eq_true rfl) gX9_fallTold_X9_latest rfl rfl 15 rfl dX9_fallTold_12 (fun v3 => ?_)
  refine r_let 35 (f := fun x_35 : Int32 => [(0, .ref (E.2.1 + o0)), (1, .int x1)]) (g := fun x_35 : Int32 => [.int x_35, .int 0, .ref (E.2.1 + o0)]) (ww := fun x_35 : Int32 => (S, d2)) (fun x_35 => ?_) (fun J35 hJ35 => ?_)
  · refine r_callV_V (c_X9_number (E := E) (l := l) (S := S) d2 o0 h0 0 x_35) ok_X9_number ⟨⟨(Nat.le_of_ble_eq_true rfl), (Nat.le_of_ble_eq_true rfl)⟩, (Nat.le_of_ble_eq_true rfl), (Nat.le_of_ble_eq_true rfl)⟩ (h0 0 (Nat.le_of_ble_eq_true rfl)) (Nat.le_of_ble_eq_true rfl) rfl rfl rfl (Nat.le_of_ble_eq_true rfl) gX9_fallTold_X9_number rfl rfl 38 rfl dX9_fallTold_35 (fun d4 => ?_)
    refine r_aload_n 0 0 rfl rfl 39 rfl dX9_fallTold_38 ?_
    refine r_get (h0 0 (Nat.le_of_ble_eq_true rfl)) rfl (Nat.le_of_ble_eq_true rfl) rfl rfl w_X9_fallTold_1 15 (Nat.le_of_ble_eq_true rfl) rfl w_X9_fallTold_0 (.int (d4 o0 15)) rfl 42 rfl dX9_fallTold_39 ?_
    refine r_let 60 (f := fun x_60 : Int32 × z_D => [(0, .ref (E.2.1 + o0)), (1, .int x1)]) (g := fun x_60 : Int32 × z_D => [.int (x_60.1)]) (ww := fun x_60 : Int32 × z_D => (S, x_60.2)) (fun x_60 => ?_) (fun J60 hJ60 => ?_)
    · refine r_nami (fun v5 => ?_)
      refine r_istore_n 2 rfl [(2, .int v5), (0, .ref (E.2.1 + o0)), (1, .int x1)] (Nat.le_of_ble_eq_true rfl) rfl 61 rfl dX9_fallTold_60 ?_
      refine r_iload_n 2 0 rfl rfl 62 rfl dX9_fallTold_61 ?_
      refine r_let 79 (f := fun x_79 : z_D => [(0, .ref (E.2.1 + o0)), (1, .int x1), (2, .int v5)]) (g := fun x_79 : z_D => []) (ww := fun x_79 : z_D => (S, x_79)) (fun x_79 => ?_) (fun J79 hJ79 => ?_)
      · refine r_aload_n 0 0 rfl rfl 80 rfl dX9_fallTold_79 ?_
        refine r_callV_X (c_X9_ends (E := E) (l := l) (S := S) x_79 o0 h0) ok_X9_ends ⟨⟨(Nat.le_of_ble_eq_true rfl), (Nat.le_of_ble_eq_true rfl)⟩, (Nat.le_of_ble_eq_true rfl), (Nat.le_of_ble_eq_true rfl)⟩ (h0 0 (Nat.le_of_ble_eq_true rfl)) (Nat.le_of_ble_eq_true rfl) rfl rfl rfl (Nat.le_of_ble_eq_true rfl) gX9_fallTold_X9_ends rfl rfl 83 rfl dX9_fallTold_80 (fun v6 d7 => ?_)
        refine r_if_eq 121 86 rfl rfl dX9_fallTold_83 ?_ ?_
        · exact r_return rfl rfl (Nat.le_of_ble_eq_true rfl) (Nat.le_of_ble_eq_true rfl) dX9_fallTold_121
        · refine r_aload_n 0 0 rfl rfl 87 rfl dX9_fallTold_86 ?_
          refine r_aload_n 0 0 rfl rfl 88 rfl dX9_fallTold_87 ?_
          refine r_aload_n 0 0 rfl rfl 89 rfl dX9_fallTold_88 ?_
          refine r_get (h0 0 (Nat.le_of_ble_eq_true rfl)) rfl (Nat.le_of_ble_eq_true rfl) rfl rfl w_X9_fallTold_1 16 (Nat.le_of_ble_eq_true rfl) rfl w_X9_fallTold_2 (.ref (E.2.1 + (o0 + 9))) rfl 92 rfl dX9_fallTold_89 ?_
          refine r_iconst 0 rfl 93 rfl dX9_fallTold_92 ?_
          refine r_iald (h0 9 (Nat.le_of_ble_eq_true rfl)) rfl rfl 94 rfl dX9_fallTold_93 (fun v8 => ?_)
          refine r_aload_n 0 0 rfl rfl 95 rfl dX9_fallTold_94 ?_
          refine r_get (h0 0 (Nat.le_of_ble_eq_true rfl)) rfl (Nat.le_of_ble_eq_true rfl) rfl rfl w_X9_fallTold_1 16 (Nat.le_of_ble_eq_true rfl) rfl w_X9_fallTold_2 (.ref (E.2.1 + (o0 + 9))) rfl 98 rfl dX9_fallTold_95 ?_
          refine r_iconst 1 rfl 99 rfl dX9_fallTold_98 ?_
          refine r_iald (h0 9 (Nat.le_of_ble_eq_true rfl)) rfl rfl 100 rfl dX9_fallTold_99 (fun v9 => ?_)
          refine r_iload_n 2 2 rfl rfl 101 rfl dX9_fallTold_100 ?_
          refine r_if_eq 113 104 rfl rfl dX9_fallTold_101 ?_ ?_
          · refine r_iconst (-1) rfl 114 rfl dX9_fallTold_113 ?_
            refine r_callV_X (c_X9_falls (E := E) (l := l) (S := S) d7 o0 h0 v8 v9 (-1)) ok_X9_falls ⟨⟨(Nat.le_of_ble_eq_true rfl), (Nat.le_of_ble_eq_true rfl)⟩, (Nat.le_of_ble_eq_true rfl), (Nat.le_of_ble_eq_true rfl)⟩ (h0 0 (Nat.le_of_ble_eq_true rfl)) (Nat.le_of_ble_eq_true rfl) rfl rfl rfl (Nat.le_of_ble_eq_true rfl) gX9_fallTold_X9_falls rfl rfl 117 rfl dX9_fallTold_114 (fun v10 d11 => ?_)
            refine r_iload_n 1 1 rfl rfl 118 rfl dX9_fallTold_117 ?_
            refine r_callV_V (c_X9_can (E := E) (l := l) (S := S) d11 o0 h0 v10 x1) ok_X9_can ⟨⟨(Nat.le_of_ble_eq_true rfl), (Nat.le_of_ble_eq_true rfl)⟩, (Nat.le_of_ble_eq_true rfl), (Nat.le_of_ble_eq_true rfl)⟩ (h0 0 (Nat.le_of_ble_eq_true rfl)) (Nat.le_of_ble_eq_true rfl) rfl rfl rfl (Nat.le_of_ble_eq_true rfl) gX9_fallTold_X9_can rfl rfl 121 rfl dX9_fallTold_118 (fun d12 => ?_)
            exact r_return rfl rfl (Nat.le_of_ble_eq_true rfl) (Nat.le_of_ble_eq_true rfl) dX9_fallTold_121
          · refine r_aload_n 0 0 rfl rfl 105 rfl dX9_fallTold_104 ?_
            refine r_get (h0 0 (Nat.le_of_ble_eq_true rfl)) rfl (Nat.le_of_ble_eq_true rfl) rfl rfl w_X9_fallTold_1 16 (Nat.le_of_ble_eq_true rfl) rfl w_X9_fallTold_2 (.ref (E.2.1 + (o0 + 9))) rfl 108 rfl dX9_fallTold_105 ?_
            refine r_iconst 2 rfl 109 rfl dX9_fallTold_108 ?_
            refine r_iald (h0 9 (Nat.le_of_ble_eq_true rfl)) rfl rfl 110 rfl dX9_fallTold_109 (fun v13 => ?_)
            refine r_goto 114 rfl dX9_fallTold_110 ?_
            refine r_callV_X (c_X9_falls (E := E) (l := l) (S := S) d7 o0 h0 v8 v9 v13) ok_X9_falls ⟨⟨(Nat.le_of_ble_eq_true rfl), (Nat.le_of_ble_eq_true rfl)⟩, (Nat.le_of_ble_eq_true rfl), (Nat.le_of_ble_eq_true rfl)⟩ (h0 0 (Nat.le_of_ble_eq_true rfl)) (Nat.le_of_ble_eq_true rfl) rfl rfl rfl (Nat.le_of_ble_eq_true rfl) gX9_fallTold_X9_falls rfl rfl 117 rfl dX9_fallTold_114 (fun v14 d15 => ?_)
            refine r_iload_n 1 1 rfl rfl 118 rfl dX9_fallTold_117 ?_
            refine r_callV_V (c_X9_can (E := E) (l := l) (S := S) d15 o0 h0 v14 x1) ok_X9_can ⟨⟨(Nat.le_of_ble_eq_true rfl), (Nat.le_of_ble_eq_true rfl)⟩, (Nat.le_of_ble_eq_true rfl), (Nat.le_of_ble_eq_true rfl)⟩ (h0 0 (Nat.le_of_ble_eq_true rfl)) (Nat.le_of_ble_eq_true rfl) rfl rfl rfl (Nat.le_of_ble_eq_true rfl) gX9_fallTold_X9_can rfl rfl 121 rfl dX9_fallTold_118 (fun d16 => ?_)
            exact r_return rfl rfl (Nat.le_of_ble_eq_true rfl) (Nat.le_of_ble_eq_true rfl) dX9_fallTold_121
      refine r_if_eq 79 65 rfl rfl dX9_fallTold_62 ?_ ?_
      · refine r_sub [1, 2, 0] rfl ?_
        exact hJ79 (x_60.2)
      · refine r_aload_n 0 1 rfl rfl 66 rfl dX9_fallTold_65 ?_
        refine r_callV_Y (c_X9_word (E := E) (l := l) (S := S) x_60.2 o0 h0) ok_X9_word ⟨⟨(Nat.le_of_ble_eq_true rfl), (Nat.le_of_ble_eq_true rfl)⟩, (Nat.le_of_ble_eq_true rfl), (Nat.le_of_ble_eq_true rfl)⟩ (h0 0 (Nat.le_of_ble_eq_true rfl)) (Nat.le_of_ble_eq_true rfl) rfl rfl rfl (Nat.le_of_ble_eq_true rfl) gX9_fallTold_X9_word rfl rfl 69 rfl dX9_fallTold_66 (fun v17 d18 => ?_)
        refine r_lstore_n 3 rfl [(3, .long v17), (2, .int v5), (0, .ref (E.2.1 + o0)), (1, .int x1)] (Nat.le_of_ble_eq_true rfl) rfl 70 rfl dX9_fallTold_69 ?_
        refine r_aload_n 0 2 rfl rfl 71 rfl dX9_fallTold_70 ?_
        refine r_iconst 0 rfl 72 rfl dX9_fallTold_71 ?_
        refine r_aload_n 0 2 rfl rfl 73 rfl dX9_fallTold_72 ?_
        refine r_callV_I (c_X9_lastRider (E := E) (l := l) (S := S) d18 o0 h0) ok_X9_lastRider ⟨⟨(Nat.le_of_ble_eq_true rfl), (Nat.le_of_ble_eq_true rfl)⟩, (Nat.le_of_ble_eq_true rfl), (Nat.le_of_ble_eq_true rfl)⟩ (h0 0 (Nat.le_of_ble_eq_true rfl)) (Nat.le_of_ble_eq_true rfl) rfl rfl rfl (Nat.le_of_ble_eq_true rfl) gX9_fallTold_X9_lastRider rfl rfl 76 rfl dX9_fallTold_73 (fun v19 => ?_)
        refine r_callV_V (c_X9_number (E := E) (l := l) (S := S) d18 o0 h0 0 v19) ok_X9_number ⟨⟨(Nat.le_of_ble_eq_true rfl), (Nat.le_of_ble_eq_true rfl)⟩, (Nat.le_of_ble_eq_true rfl), (Nat.le_of_ble_eq_true rfl)⟩ (h0 0 (Nat.le_of_ble_eq_true rfl)) (Nat.le_of_ble_eq_true rfl) rfl rfl rfl (Nat.le_of_ble_eq_true rfl) gX9_fallTold_X9_number rfl rfl 79 rfl dX9_fallTold_76 (fun d20 => ?_)
        refine r_sub [2, 3, 1] rfl ?_
        exact hJ79 d20
    refine r_let 59 (f := fun x_59 : z_D => [(0, .ref (E.2.1 + o0)), (1, .int x1)]) (g := fun x_59 : z_D => []) (ww := fun x_59 : z_D => (S, x_59)) (fun x_59 => ?_) (fun J59 hJ59 => ?_)
    · refine r_iconst 0 rfl 60 rfl dX9_fallTold_59 ?_
      refine r_sub [0, 1] rfl ?_
      exact hJ60 (0, x_59)
    refine r_if_ne 59 45 rfl rfl dX9_fallTold_42 ?_ ?_
    · refine r_sub [0, 1] rfl ?_
      exact hJ59 d4
    · refine r_aload_n 0 0 rfl rfl 46 rfl dX9_fallTold_45 ?_
      refine r_ldc2 (v := 459818) w_X9_fallTold_3 49 rfl dX9_fallTold_46 ?_
      refine r_callV_X (c_X9_isWord (E := E) (l := l) (S := S) d4 o0 h0 459818) ok_X9_isWord ⟨⟨(Nat.le_of_ble_eq_true rfl), (Nat.le_of_ble_eq_true rfl)⟩, (Nat.le_of_ble_eq_true rfl), (Nat.le_of_ble_eq_true rfl)⟩ (h0 0 (Nat.le_of_ble_eq_true rfl)) (Nat.le_of_ble_eq_true rfl) rfl rfl rfl (Nat.le_of_ble_eq_true rfl) gX9_fallTold_X9_isWord rfl rfl 52 rfl dX9_fallTold_49 (fun v21 d22 => ?_)
      refine r_if_eq 59 55 rfl rfl dX9_fallTold_52 ?_ ?_
      · refine r_sub [0, 1] rfl ?_
        exact hJ59 d22
      · refine r_iconst 1 rfl 56 rfl dX9_fallTold_55 ?_
        refine r_goto 60 rfl dX9_fallTold_56 ?_
        refine r_sub [0, 1] rfl ?_
        exact hJ60 (1, d22)
  refine r_if_ge 22 18 rfl rfl dX9_fallTold_15 ?_ ?_
  · refine r_aload_n 0 0 rfl rfl 23 rfl dX9_fallTold_22 ?_
    refine r_get (h0 0 (Nat.le_of_ble_eq_true rfl)) rfl (Nat.le_of_ble_eq_true rfl) rfl rfl w_X9_fallTold_1 1 (Nat.le_of_ble_eq_true rfl) rfl w_X9_fallTold_4 (.ref (E.2.1 + (o0 + 1))) rfl 26 rfl dX9_fallTold_23 ?_
    refine r_aload_n 0 0 rfl rfl 27 rfl dX9_fallTold_26 ?_
    refine r_callV_I (c_X9_latest (E := E) (l := l) (S := S) d2 o0 h0) ok_X9_latest ⟨⟨(Nat.le_of_ble_eq_true rfl), (Nat.le_of_ble_eq_true rfl)⟩, (Nat.le_of_ble_eq_true rfl), (Nat.le_of_ble_eq_true rfl)⟩ (h0 0 (Nat.le_of_ble_eq_true rfl)) (Nat.le_of_ble_eq_true rfl) rfl rfl rfl (Nat.le_of_ble_eq_true rfl) gX9_fallTold_X9_latest rfl rfl 30 rfl dX9_fallTold_27 (fun v23 => ?_)
    refine r_iconst 1 rfl 31 rfl dX9_fallTold_30 ?_
    refine r_callS_I (c_X9_at (E := E) (l := l) (S := S) d2 v23 1) ok_X9_at ⟨⟨(Nat.le_of_ble_eq_true rfl), (Nat.le_of_ble_eq_true rfl)⟩, (Nat.le_of_ble_eq_true rfl), (Nat.le_of_ble_eq_true rfl)⟩ rfl (Nat.le_of_ble_eq_true rfl) gX9_fallTold_X9_at rfl rfl 34 rfl dX9_fallTold_31 (fun v24 => ?_)
    refine r_iald (h0 1 (Nat.le_of_ble_eq_true rfl)) rfl rfl 35 rfl dX9_fallTold_34 (fun v25 => ?_)
    refine r_sub [0, 1] rfl ?_
    exact hJ35 v25
  · refine r_iconst 0 rfl 19 rfl dX9_fallTold_18 ?_
    refine r_goto 35 rfl dX9_fallTold_19 ?_
    refine r_sub [0, 1] rfl ?_
    exact hJ35 0
def Y_X9_riderTold : z_Y := (RX9, cX9_riderTold, 2, wsX9_riderTold, none, { frames := 4, cells := 0, slots := 0, locals := 90 }, 0, 0)
theorem ok_X9_riderTold : z_Ok yX9_riderTold Y_X9_riderTold 1 := ⟨⟨_, rfl⟩, rfl, rfl, rfl, by decide +kernel, by decide +kernel⟩
theorem w_X9_riderTold_0 : Cond.fieldLink RX9 7 "BunchTimesModel" "row" "[I" ∈ wsX9_riderTold := by decide +kernel
theorem w_X9_riderTold_1 : ∀ w ∈ u_ws RX9 TX9 18, w ∈ wsX9_riderTold := by decide +kernel
theorem w_X9_riderTold_2 : Cond.fieldLink RX9 36 "BunchTimesModel" "told" "[I" ∈ wsX9_riderTold := by decide +kernel
def f_X9_riderTold (d : z_D) (o0 : Nat) (x1 : Int32) : Option z_D := z_ald d (o0 + 1) 2656 0 (fun v1 => ((f_X9_number d o0 0 (v1 - 1)).bind fun d2 => ((f_X9_number d2 o0 16 50).bind fun d3 => z_bX (f_X9_ends d3 o0) (fun v4 d5 => (if v4 = 0 then (some d5) else z_ald d5 (o0 + 9) 600 0 (fun v6 => z_ald d5 (o0 + 9) 600 1 (fun v7 => z_bX (f_X9_comes d5 o0 v6 v7) (fun v8 d9 => (if v8 = (-1) then ((f_X9_can d9 o0 0 x1).bind fun d10 => (some d10)) else ((f_X9_can d9 o0 1 x1).bind fun d11 => (some d11)))))))))))
set_option maxHeartbeats 4000000 in
set_option maxRecDepth 100000 in
theorem c_X9_riderTold {E : z_E} {l : Launch} {S : z_S} (d : z_D) (o0 : Nat) (h0 : A_Model S o0) (x1 : Int32) : z_Sp E l yX9_riderTold Y_X9_riderTold (cvV S) [.ref (E.2.1 + o0), .int x1] (S, d) (f_X9_riderTold d o0 x1) := by
  refine z_entry (lv := [(0, .ref (E.2.1 + o0)), (1, .int x1)]) (by decide) rfl rfl (Nat.le_of_ble_eq_true rfl) rfl ?_
  unfold f_X9_riderTold
  refine r_aload_n 0 0 rfl rfl 1 rfl dX9_riderTold_0 ?_
  refine r_iconst 0 rfl 2 rfl dX9_riderTold_1 ?_
  refine r_aload_n 0 0 rfl rfl 3 rfl dX9_riderTold_2 ?_
  refine r_get (h0 0 (Nat.le_of_ble_eq_true rfl)) rfl (Nat.le_of_ble_eq_true rfl) rfl rfl w_X9_riderTold_1 1 (Nat.le_of_ble_eq_true rfl) rfl w_X9_riderTold_0 (.ref (E.2.1 + (o0 + 1))) rfl 6 rfl dX9_riderTold_3 ?_
  refine r_iconst 0 rfl 7 rfl dX9_riderTold_6 ?_
  refine r_iald (h0 1 (Nat.le_of_ble_eq_true rfl)) rfl rfl 8 rfl dX9_riderTold_7 (fun v1 => ?_)
  refine r_iconst 1 rfl 9 rfl dX9_riderTold_8 ?_
  refine r_isub 10 rfl dX9_riderTold_9 ?_
  refine r_callV_V (c_X9_number (E := E) (l := l) (S := S) d o0 h0 0 (v1 - 1)) ok_X9_number ⟨⟨(Nat.le_of_ble_eq_true rfl), (Nat.le_of_ble_eq_true rfl)⟩, (Nat.le_of_ble_eq_true rfl), (Nat.le_of_ble_eq_true rfl)⟩ (h0 0 (Nat.le_of_ble_eq_true rfl)) (Nat.le_of_ble_eq_true rfl) rfl rfl rfl (Nat.le_of_ble_eq_true rfl) gX9_riderTold_X9_number rfl rfl 13 rfl dX9_riderTold_10 (fun d2 => ?_)
  refine r_aload_n 0 0 rfl rfl 14 rfl dX9_riderTold_13 ?_
  refine r_bipush 16 rfl 16 rfl dX9_riderTold_14 ?_
  refine r_bipush 50 rfl 18 rfl dX9_riderTold_16 ?_
  refine r_callV_V (c_X9_number (E := E) (l := l) (S := S) d2 o0 h0 16 50) ok_X9_number ⟨⟨(Nat.le_of_ble_eq_true rfl), (Nat.le_of_ble_eq_true rfl)⟩, (Nat.le_of_ble_eq_true rfl), (Nat.le_of_ble_eq_true rfl)⟩ (h0 0 (Nat.le_of_ble_eq_true rfl)) (Nat.le_of_ble_eq_true rfl) rfl rfl rfl (Nat.le_of_ble_eq_true rfl) gX9_riderTold_X9_number rfl rfl 21 rfl dX9_riderTold_18 (fun d3 => ?_)
  refine r_aload_n 0 0 rfl rfl 22 rfl dX9_riderTold_21 ?_
  refine r_callV_X (c_X9_ends (E := E) (l := l) (S := S) d3 o0 h0) ok_X9_ends ⟨⟨(Nat.le_of_ble_eq_true rfl), (Nat.le_of_ble_eq_true rfl)⟩, (Nat.le_of_ble_eq_true rfl), (Nat.le_of_ble_eq_true rfl)⟩ (h0 0 (Nat.le_of_ble_eq_true rfl)) (Nat.le_of_ble_eq_true rfl) rfl rfl rfl (Nat.le_of_ble_eq_true rfl) gX9_riderTold_X9_ends rfl rfl 25 rfl dX9_riderTold_22 (fun v4 d5 => ?_)
  refine r_if_eq 58 28 rfl rfl dX9_riderTold_25 ?_ ?_
  · exact r_return rfl rfl (Nat.le_of_ble_eq_true rfl) (Nat.le_of_ble_eq_true rfl) dX9_riderTold_58
  · refine r_aload_n 0 0 rfl rfl 29 rfl dX9_riderTold_28 ?_
    refine r_aload_n 0 0 rfl rfl 30 rfl dX9_riderTold_29 ?_
    refine r_aload_n 0 0 rfl rfl 31 rfl dX9_riderTold_30 ?_
    refine r_get (h0 0 (Nat.le_of_ble_eq_true rfl)) rfl (Nat.le_of_ble_eq_true rfl) rfl rfl w_X9_riderTold_1 16 (Nat.le_of_ble_eq_true rfl) rfl w_X9_riderTold_2 (.ref (E.2.1 + (o0 + 9))) rfl 34 rfl dX9_riderTold_31 ?_
    refine r_iconst 0 rfl 35 rfl dX9_riderTold_34 ?_
    refine r_iald (h0 9 (Nat.le_of_ble_eq_true rfl)) rfl rfl 36 rfl dX9_riderTold_35 (fun v6 => ?_)
    refine r_aload_n 0 0 rfl rfl 37 rfl dX9_riderTold_36 ?_
    refine r_get (h0 0 (Nat.le_of_ble_eq_true rfl)) rfl (Nat.le_of_ble_eq_true rfl) rfl rfl w_X9_riderTold_1 16 (Nat.le_of_ble_eq_true rfl) rfl w_X9_riderTold_2 (.ref (E.2.1 + (o0 + 9))) rfl 40 rfl dX9_riderTold_37 ?_
    refine r_iconst 1 rfl 41 rfl dX9_riderTold_40 ?_
    refine r_iald (h0 9 (Nat.le_of_ble_eq_true rfl)) rfl rfl 42 rfl dX9_riderTold_41 (fun v7 => ?_)
    refine r_callV_X (c_X9_comes (E := E) (l := l) (S := S) d5 o0 h0 v6 v7) ok_X9_comes ⟨⟨(Nat.le_of_ble_eq_true rfl), (Nat.le_of_ble_eq_true rfl)⟩, (Nat.le_of_ble_eq_true rfl), (Nat.le_of_ble_eq_true rfl)⟩ (h0 0 (Nat.le_of_ble_eq_true rfl)) (Nat.le_of_ble_eq_true rfl) rfl rfl rfl (Nat.le_of_ble_eq_true rfl) gX9_riderTold_X9_comes rfl rfl 45 rfl dX9_riderTold_42 (fun v8 d9 => ?_)
    refine r_iconst (-1) rfl 46 rfl dX9_riderTold_45 ?_
    refine r_icmp_eq 53 49 rfl rfl dX9_riderTold_46 ?_ ?_
    · refine r_iconst 0 rfl 54 rfl dX9_riderTold_53 ?_
      refine r_iload_n 1 1 rfl rfl 55 rfl dX9_riderTold_54 ?_
      refine r_callV_V (c_X9_can (E := E) (l := l) (S := S) d9 o0 h0 0 x1) ok_X9_can ⟨⟨(Nat.le_of_ble_eq_true rfl), (Nat.le_of_ble_eq_true rfl)⟩, (Nat.le_of_ble_eq_true rfl), (Nat.le_of_ble_eq_true rfl)⟩ (h0 0 (Nat.le_of_ble_eq_true rfl)) (Nat.le_of_ble_eq_true rfl) rfl rfl rfl (Nat.le_of_ble_eq_true rfl) gX9_riderTold_X9_can rfl rfl 58 rfl dX9_riderTold_55 (fun d10 => ?_)
      exact r_return rfl rfl (Nat.le_of_ble_eq_true rfl) (Nat.le_of_ble_eq_true rfl) dX9_riderTold_58
    · refine r_iconst 1 rfl 50 rfl dX9_riderTold_49 ?_
      refine r_goto 54 rfl dX9_riderTold_50 ?_
      refine r_iload_n 1 1 rfl rfl 55 rfl dX9_riderTold_54 ?_
      refine r_callV_V (c_X9_can (E := E) (l := l) (S := S) d9 o0 h0 1 x1) ok_X9_can ⟨⟨(Nat.le_of_ble_eq_true rfl), (Nat.le_of_ble_eq_true rfl)⟩, (Nat.le_of_ble_eq_true rfl), (Nat.le_of_ble_eq_true rfl)⟩ (h0 0 (Nat.le_of_ble_eq_true rfl)) (Nat.le_of_ble_eq_true rfl) rfl rfl rfl (Nat.le_of_ble_eq_true rfl) gX9_riderTold_X9_can rfl rfl 58 rfl dX9_riderTold_55 (fun d11 => ?_)
      exact r_return rfl rfl (Nat.le_of_ble_eq_true rfl) (Nat.le_of_ble_eq_true rfl) dX9_riderTold_58
def Y_X9_juryTold : z_Y := (RX9, cX9_juryTold, 2, wsX9_juryTold, none, { frames := 4, cells := 0, slots := 0, locals := 87 }, 0, 0)
theorem ok_X9_juryTold : z_Ok yX9_juryTold Y_X9_juryTold 1 := ⟨⟨_, rfl⟩, rfl, rfl, rfl, by decide +kernel, by decide +kernel⟩
theorem w_X9_juryTold_0 : Cond.fieldLink RX9 36 "BunchTimesModel" "told" "[I" ∈ wsX9_juryTold := by decide +kernel
theorem w_X9_juryTold_1 : ∀ w ∈ u_ws RX9 TX9 18, w ∈ wsX9_juryTold := by decide +kernel
def f_X9_juryTold (d : z_D) (o0 : Nat) (x1 : Int32) : Option z_D := ((f_X9_lastRider d o0).bind fun v1 => ((f_X9_number d o0 0 v1).bind fun d2 => ((f_X9_number d2 o0 1 3600).bind fun d3 => z_bX (f_X9_ends d3 o0) (fun v4 d5 => (if v4 = 0 then (some d5) else z_ald d5 (o0 + 9) 600 0 (fun v6 => z_ald d5 (o0 + 9) 600 1 (fun v7 => z_bX (f_X9_juries d5 o0 v6 v7) (fun v8 d9 => (if v8 = (-1) then ((f_X9_can d9 o0 0 x1).bind fun d10 => (some d10)) else ((f_X9_can d9 o0 1 x1).bind fun d11 => (some d11)))))))))))
set_option maxHeartbeats 4000000 in
set_option maxRecDepth 100000 in
theorem c_X9_juryTold {E : z_E} {l : Launch} {S : z_S} (d : z_D) (o0 : Nat) (h0 : A_Model S o0) (x1 : Int32) : z_Sp E l yX9_juryTold Y_X9_juryTold (cvV S) [.ref (E.2.1 + o0), .int x1] (S, d) (f_X9_juryTold d o0 x1) := by
  refine z_entry (lv := [(0, .ref (E.2.1 + o0)), (1, .int x1)]) (by decide) rfl rfl (Nat.le_of_ble_eq_true rfl) rfl ?_
  unfold f_X9_juryTold
  refine r_aload_n 0 0 rfl rfl 1 rfl dX9_juryTold_0 ?_
  refine r_iconst 0 rfl 2 rfl dX9_juryTold_1 ?_
  refine r_aload_n 0 0 rfl rfl 3 rfl dX9_juryTold_2 ?_
  refine r_callV_I (c_X9_lastRider (E := E) (l := l) (S := S) d o0 h0) ok_X9_lastRider ⟨⟨(Nat.le_of_ble_eq_true rfl), (Nat.le_of_ble_eq_true rfl)⟩, (Nat.le_of_ble_eq_true rfl), (Nat.le_of_ble_eq_true rfl)⟩ (h0 0 (Nat.le_of_ble_eq_true rfl)) (Nat.le_of_ble_eq_true rfl) rfl rfl rfl (Nat.le_of_ble_eq_true rfl) gX9_juryTold_X9_lastRider rfl rfl 6 rfl dX9_juryTold_3 (fun v1 => ?_)
  refine r_callV_V (c_X9_number (E := E) (l := l) (S := S) d o0 h0 0 v1) ok_X9_number ⟨⟨(Nat.le_of_ble_eq_true rfl), (Nat.le_of_ble_eq_true rfl)⟩, (Nat.le_of_ble_eq_true rfl), (Nat.le_of_ble_eq_true rfl)⟩ (h0 0 (Nat.le_of_ble_eq_true rfl)) (Nat.le_of_ble_eq_true rfl) rfl rfl rfl (Nat.le_of_ble_eq_true rfl) gX9_juryTold_X9_number rfl rfl 9 rfl dX9_juryTold_6 (fun d2 => ?_)
  refine r_aload_n 0 0 rfl rfl 10 rfl dX9_juryTold_9 ?_
  refine r_iconst 1 rfl 11 rfl dX9_juryTold_10 ?_
  refine r_sipush 3600 rfl 14 rfl dX9_juryTold_11 ?_
  refine r_callV_V (c_X9_number (E := E) (l := l) (S := S) d2 o0 h0 1 3600) ok_X9_number ⟨⟨(Nat.le_of_ble_eq_true rfl), (Nat.le_of_ble_eq_true rfl)⟩, (Nat.le_of_ble_eq_true rfl), (Nat.le_of_ble_eq_true rfl)⟩ (h0 0 (Nat.le_of_ble_eq_true rfl)) (Nat.le_of_ble_eq_true rfl) rfl rfl rfl (Nat.le_of_ble_eq_true rfl) gX9_juryTold_X9_number rfl rfl 17 rfl dX9_juryTold_14 (fun d3 => ?_)
  refine r_aload_n 0 0 rfl rfl 18 rfl dX9_juryTold_17 ?_
  refine r_callV_X (c_X9_ends (E := E) (l := l) (S := S) d3 o0 h0) ok_X9_ends ⟨⟨(Nat.le_of_ble_eq_true rfl), (Nat.le_of_ble_eq_true rfl)⟩, (Nat.le_of_ble_eq_true rfl), (Nat.le_of_ble_eq_true rfl)⟩ (h0 0 (Nat.le_of_ble_eq_true rfl)) (Nat.le_of_ble_eq_true rfl) rfl rfl rfl (Nat.le_of_ble_eq_true rfl) gX9_juryTold_X9_ends rfl rfl 21 rfl dX9_juryTold_18 (fun v4 d5 => ?_)
  refine r_if_eq 54 24 rfl rfl dX9_juryTold_21 ?_ ?_
  · exact r_return rfl rfl (Nat.le_of_ble_eq_true rfl) (Nat.le_of_ble_eq_true rfl) dX9_juryTold_54
  · refine r_aload_n 0 0 rfl rfl 25 rfl dX9_juryTold_24 ?_
    refine r_aload_n 0 0 rfl rfl 26 rfl dX9_juryTold_25 ?_
    refine r_aload_n 0 0 rfl rfl 27 rfl dX9_juryTold_26 ?_
    refine r_get (h0 0 (Nat.le_of_ble_eq_true rfl)) rfl (Nat.le_of_ble_eq_true rfl) rfl rfl w_X9_juryTold_1 16 (Nat.le_of_ble_eq_true rfl) rfl w_X9_juryTold_0 (.ref (E.2.1 + (o0 + 9))) rfl 30 rfl dX9_juryTold_27 ?_
    refine r_iconst 0 rfl 31 rfl dX9_juryTold_30 ?_
    refine r_iald (h0 9 (Nat.le_of_ble_eq_true rfl)) rfl rfl 32 rfl dX9_juryTold_31 (fun v6 => ?_)
    refine r_aload_n 0 0 rfl rfl 33 rfl dX9_juryTold_32 ?_
    refine r_get (h0 0 (Nat.le_of_ble_eq_true rfl)) rfl (Nat.le_of_ble_eq_true rfl) rfl rfl w_X9_juryTold_1 16 (Nat.le_of_ble_eq_true rfl) rfl w_X9_juryTold_0 (.ref (E.2.1 + (o0 + 9))) rfl 36 rfl dX9_juryTold_33 ?_
    refine r_iconst 1 rfl 37 rfl dX9_juryTold_36 ?_
    refine r_iald (h0 9 (Nat.le_of_ble_eq_true rfl)) rfl rfl 38 rfl dX9_juryTold_37 (fun v7 => ?_)
    refine r_callV_X (c_X9_juries (E := E) (l := l) (S := S) d5 o0 h0 v6 v7) ok_X9_juries ⟨⟨(Nat.le_of_ble_eq_true rfl), (Nat.le_of_ble_eq_true rfl)⟩, (Nat.le_of_ble_eq_true rfl), (Nat.le_of_ble_eq_true rfl)⟩ (h0 0 (Nat.le_of_ble_eq_true rfl)) (Nat.le_of_ble_eq_true rfl) rfl rfl rfl (Nat.le_of_ble_eq_true rfl) gX9_juryTold_X9_juries rfl rfl 41 rfl dX9_juryTold_38 (fun v8 d9 => ?_)
    refine r_iconst (-1) rfl 42 rfl dX9_juryTold_41 ?_
    refine r_icmp_eq 49 45 rfl rfl dX9_juryTold_42 ?_ ?_
    · refine r_iconst 0 rfl 50 rfl dX9_juryTold_49 ?_
      refine r_iload_n 1 1 rfl rfl 51 rfl dX9_juryTold_50 ?_
      refine r_callV_V (c_X9_can (E := E) (l := l) (S := S) d9 o0 h0 0 x1) ok_X9_can ⟨⟨(Nat.le_of_ble_eq_true rfl), (Nat.le_of_ble_eq_true rfl)⟩, (Nat.le_of_ble_eq_true rfl), (Nat.le_of_ble_eq_true rfl)⟩ (h0 0 (Nat.le_of_ble_eq_true rfl)) (Nat.le_of_ble_eq_true rfl) rfl rfl rfl (Nat.le_of_ble_eq_true rfl) gX9_juryTold_X9_can rfl rfl 54 rfl dX9_juryTold_51 (fun d10 => ?_)
      exact r_return rfl rfl (Nat.le_of_ble_eq_true rfl) (Nat.le_of_ble_eq_true rfl) dX9_juryTold_54
    · refine r_iconst 1 rfl 46 rfl dX9_juryTold_45 ?_
      refine r_goto 50 rfl dX9_juryTold_46 ?_
      refine r_iload_n 1 1 rfl rfl 51 rfl dX9_juryTold_50 ?_
      refine r_callV_V (c_X9_can (E := E) (l := l) (S := S) d9 o0 h0 1 x1) ok_X9_can ⟨⟨(Nat.le_of_ble_eq_true rfl), (Nat.le_of_ble_eq_true rfl)⟩, (Nat.le_of_ble_eq_true rfl), (Nat.le_of_ble_eq_true rfl)⟩ (h0 0 (Nat.le_of_ble_eq_true rfl)) (Nat.le_of_ble_eq_true rfl) rfl rfl rfl (Nat.le_of_ble_eq_true rfl) gX9_juryTold_X9_can rfl rfl 54 rfl dX9_juryTold_51 (fun d11 => ?_)
      exact r_return rfl rfl (Nat.le_of_ble_eq_true rfl) (Nat.le_of_ble_eq_true rfl) dX9_juryTold_54
def Y_X9_oneTold : z_Y := (RX9, cX9_oneTold, 3, wsX9_oneTold, none, { frames := 4, cells := 0, slots := 0, locals := 90 }, 0, 0)
theorem ok_X9_oneTold : z_Ok yX9_oneTold Y_X9_oneTold 2 := ⟨⟨_, rfl⟩, rfl, rfl, rfl, by decide +kernel, by decide +kernel⟩
theorem w_X9_oneTold_0 : Cond.fieldLink RX9 36 "BunchTimesModel" "told" "[I" ∈ wsX9_oneTold := by decide +kernel
theorem w_X9_oneTold_1 : ∀ w ∈ u_ws RX9 TX9 18, w ∈ wsX9_oneTold := by decide +kernel
def f_X9_oneTold (d : z_D) (o0 : Nat) (x1 : Int32) (x2 : Int32) : Option z_D := ((f_X9_lastRider d o0).bind fun v1 => ((f_X9_number d o0 0 v1).bind fun d2 => z_bX (f_X9_ends d2 o0) (fun v3 d4 => (if v3 = 0 then (some d4) else (if x2 = 0 then z_ald d4 (o0 + 9) 600 0 (fun v5 => z_bX (f_X9_quits d4 o0 v5) (fun v6 d7 => ((f_X9_can d7 o0 v6 x1).bind fun d8 => (some d8)))) else z_ald d4 (o0 + 9) 600 0 (fun v9 => z_bX (f_X9_graces d4 o0 v9) (fun v10 d11 => ((f_X9_can d11 o0 v10 x1).bind fun d12 => (some d12)))))))))
set_option maxHeartbeats 4000000 in
set_option maxRecDepth 100000 in
theorem c_X9_oneTold {E : z_E} {l : Launch} {S : z_S} (d : z_D) (o0 : Nat) (h0 : A_Model S o0) (x1 : Int32) (x2 : Int32) : z_Sp E l yX9_oneTold Y_X9_oneTold (cvV S) [.ref (E.2.1 + o0), .int x1, .int x2] (S, d) (f_X9_oneTold d o0 x1 x2) := by
  refine z_entry (lv := [(0, .ref (E.2.1 + o0)), (1, .int x1), (2, .int x2)]) (by decide) rfl rfl (Nat.le_of_ble_eq_true rfl) rfl ?_
  unfold f_X9_oneTold
  refine r_aload_n 0 0 rfl rfl 1 rfl dX9_oneTold_0 ?_
  refine r_iconst 0 rfl 2 rfl dX9_oneTold_1 ?_
  refine r_aload_n 0 0 rfl rfl 3 rfl dX9_oneTold_2 ?_
  refine r_callV_I (c_X9_lastRider (E := E) (l := l) (S := S) d o0 h0) ok_X9_lastRider ⟨⟨(Nat.le_of_ble_eq_true rfl), (Nat.le_of_ble_eq_true rfl)⟩, (Nat.le_of_ble_eq_true rfl), (Nat.le_of_ble_eq_true rfl)⟩ (h0 0 (Nat.le_of_ble_eq_true rfl)) (Nat.le_of_ble_eq_true rfl) rfl rfl rfl (Nat.le_of_ble_eq_true rfl) gX9_oneTold_X9_lastRider rfl rfl 6 rfl dX9_oneTold_3 (fun v1 => ?_)
  refine r_callV_V (c_X9_number (E := E) (l := l) (S := S) d o0 h0 0 v1) ok_X9_number ⟨⟨(Nat.le_of_ble_eq_true rfl), (Nat.le_of_ble_eq_true rfl)⟩, (Nat.le_of_ble_eq_true rfl), (Nat.le_of_ble_eq_true rfl)⟩ (h0 0 (Nat.le_of_ble_eq_true rfl)) (Nat.le_of_ble_eq_true rfl) rfl rfl rfl (Nat.le_of_ble_eq_true rfl) gX9_oneTold_X9_number rfl rfl 9 rfl dX9_oneTold_6 (fun d2 => ?_)
  refine r_aload_n 0 0 rfl rfl 10 rfl dX9_oneTold_9 ?_
  refine r_callV_X (c_X9_ends (E := E) (l := l) (S := S) d2 o0 h0) ok_X9_ends ⟨⟨(Nat.le_of_ble_eq_true rfl), (Nat.le_of_ble_eq_true rfl)⟩, (Nat.le_of_ble_eq_true rfl), (Nat.le_of_ble_eq_true rfl)⟩ (h0 0 (Nat.le_of_ble_eq_true rfl)) (Nat.le_of_ble_eq_true rfl) rfl rfl rfl (Nat.le_of_ble_eq_true rfl) gX9_oneTold_X9_ends rfl rfl 13 rfl dX9_oneTold_10 (fun v3 d4 => ?_)
  refine r_if_eq 48 16 rfl rfl dX9_oneTold_13 ?_ ?_
  · exact r_return rfl rfl (Nat.le_of_ble_eq_true rfl) (Nat.le_of_ble_eq_true rfl) dX9_oneTold_48
  · refine r_aload_n 0 0 rfl rfl 17 rfl dX9_oneTold_16 ?_
    refine r_iload_n 2 2 rfl rfl 18 rfl dX9_oneTold_17 ?_
    refine r_if_eq 34 21 rfl rfl dX9_oneTold_18 ?_ ?_
    · refine r_aload_n 0 0 rfl rfl 35 rfl dX9_oneTold_34 ?_
      refine r_aload_n 0 0 rfl rfl 36 rfl dX9_oneTold_35 ?_
      refine r_get (h0 0 (Nat.le_of_ble_eq_true rfl)) rfl (Nat.le_of_ble_eq_true rfl) rfl rfl w_X9_oneTold_1 16 (Nat.le_of_ble_eq_true rfl) rfl w_X9_oneTold_0 (.ref (E.2.1 + (o0 + 9))) rfl 39 rfl dX9_oneTold_36 ?_
      refine r_iconst 0 rfl 40 rfl dX9_oneTold_39 ?_
      refine r_iald (h0 9 (Nat.le_of_ble_eq_true rfl)) rfl rfl 41 rfl dX9_oneTold_40 (fun v5 => ?_)
      refine r_callV_X (c_X9_quits (E := E) (l := l) (S := S) d4 o0 h0 v5) ok_X9_quits ⟨⟨(Nat.le_of_ble_eq_true rfl), (Nat.le_of_ble_eq_true rfl)⟩, (Nat.le_of_ble_eq_true rfl), (Nat.le_of_ble_eq_true rfl)⟩ (h0 0 (Nat.le_of_ble_eq_true rfl)) (Nat.le_of_ble_eq_true rfl) rfl rfl rfl (Nat.le_of_ble_eq_true rfl) gX9_oneTold_X9_quits rfl rfl 44 rfl dX9_oneTold_41 (fun v6 d7 => ?_)
      refine r_iload_n 1 1 rfl rfl 45 rfl dX9_oneTold_44 ?_
      refine r_callV_V (c_X9_can (E := E) (l := l) (S := S) d7 o0 h0 v6 x1) ok_X9_can ⟨⟨(Nat.le_of_ble_eq_true rfl), (Nat.le_of_ble_eq_true rfl)⟩, (Nat.le_of_ble_eq_true rfl), (Nat.le_of_ble_eq_true rfl)⟩ (h0 0 (Nat.le_of_ble_eq_true rfl)) (Nat.le_of_ble_eq_true rfl) rfl rfl rfl (Nat.le_of_ble_eq_true rfl) gX9_oneTold_X9_can rfl rfl 48 rfl dX9_oneTold_45 (fun d8 => ?_)
      exact r_return rfl rfl (Nat.le_of_ble_eq_true rfl) (Nat.le_of_ble_eq_true rfl) dX9_oneTold_48
    · refine r_aload_n 0 0 rfl rfl 22 rfl dX9_oneTold_21 ?_
      refine r_aload_n 0 0 rfl rfl 23 rfl dX9_oneTold_22 ?_
      refine r_get (h0 0 (Nat.le_of_ble_eq_true rfl)) rfl (Nat.le_of_ble_eq_true rfl) rfl rfl w_X9_oneTold_1 16 (Nat.le_of_ble_eq_true rfl) rfl w_X9_oneTold_0 (.ref (E.2.1 + (o0 + 9))) rfl 26 rfl dX9_oneTold_23 ?_
      refine r_iconst 0 rfl 27 rfl dX9_oneTold_26 ?_
      refine r_iald (h0 9 (Nat.le_of_ble_eq_true rfl)) rfl rfl 28 rfl dX9_oneTold_27 (fun v9 => ?_)
      refine r_callV_X (c_X9_graces (E := E) (l := l) (S := S) d4 o0 h0 v9) ok_X9_graces ⟨⟨(Nat.le_of_ble_eq_true rfl), (Nat.le_of_ble_eq_true rfl)⟩, (Nat.le_of_ble_eq_true rfl), (Nat.le_of_ble_eq_true rfl)⟩ (h0 0 (Nat.le_of_ble_eq_true rfl)) (Nat.le_of_ble_eq_true rfl) rfl rfl rfl (Nat.le_of_ble_eq_true rfl) gX9_oneTold_X9_graces rfl rfl 31 rfl dX9_oneTold_28 (fun v10 d11 => ?_)
      refine r_goto 44 rfl dX9_oneTold_31 ?_
      refine r_iload_n 1 1 rfl rfl 45 rfl dX9_oneTold_44 ?_
      refine r_callV_V (c_X9_can (E := E) (l := l) (S := S) d11 o0 h0 v10 x1) ok_X9_can ⟨⟨(Nat.le_of_ble_eq_true rfl), (Nat.le_of_ble_eq_true rfl)⟩, (Nat.le_of_ble_eq_true rfl), (Nat.le_of_ble_eq_true rfl)⟩ (h0 0 (Nat.le_of_ble_eq_true rfl)) (Nat.le_of_ble_eq_true rfl) rfl rfl rfl (Nat.le_of_ble_eq_true rfl) gX9_oneTold_X9_can rfl rfl 48 rfl dX9_oneTold_45 (fun d12 => ?_)
      exact r_return rfl rfl (Nat.le_of_ble_eq_true rfl) (Nat.le_of_ble_eq_true rfl) dX9_oneTold_48
def Y_X9_ruleTold : z_Y := (RX9, cX9_ruleTold, 4, wsX9_ruleTold, none, { frames := 3, cells := 0, slots := 0, locals := 66 }, 0, 0)
theorem ok_X9_ruleTold : z_Ok yX9_ruleTold Y_X9_ruleTold 3 := ⟨⟨_, rfl⟩, rfl, rfl, rfl, by decide +kernel, by decide +kernel⟩
theorem w_X9_ruleTold_0 : Cond.fieldLink RX9 7 "BunchTimesModel" "row" "[I" ∈ wsX9_ruleTold := by decide +kernel
theorem w_X9_ruleTold_1 : ∀ w ∈ u_ws RX9 TX9 18, w ∈ wsX9_ruleTold := by decide +kernel
theorem w_X9_ruleTold_2 : Cond.fieldLink RX9 36 "BunchTimesModel" "told" "[I" ∈ wsX9_ruleTold := by decide +kernel
def f_X9_ruleTold (d : z_D) (o0 : Nat) (x1 : Int32) (x2 : Int32) (x3 : Int32) : Option z_D := ((f_X9_number d o0 x2 x3).bind fun d1 => z_bX (f_X9_ends d1 o0) (fun v2 d3 => (if v2 = 0 then (some d3) else z_ald d3 (o0 + 9) 600 0 (fun v4 => z_ast d3 (o0 + 1) 2656 (4 + x1) v4 (fun d5 => (some d5))))))
set_option maxHeartbeats 4000000 in
set_option maxRecDepth 100000 in
theorem c_X9_ruleTold {E : z_E} {l : Launch} {S : z_S} (d : z_D) (o0 : Nat) (h0 : A_Model S o0) (x1 : Int32) (x2 : Int32) (x3 : Int32) : z_Sp E l yX9_ruleTold Y_X9_ruleTold (cvV S) [.ref (E.2.1 + o0), .int x1, .int x2, .int x3] (S, d) (f_X9_ruleTold d o0 x1 x2 x3) := by
  refine z_entry (lv := [(0, .ref (E.2.1 + o0)), (1, .int x1), (2, .int x2), (3, .int x3)]) (by decide) rfl rfl (Nat.le_of_ble_eq_true rfl) rfl ?_
  unfold f_X9_ruleTold
  refine r_aload_n 0 0 rfl rfl 1 rfl dX9_ruleTold_0 ?_
  refine r_iload_n 2 2 rfl rfl 2 rfl dX9_ruleTold_1 ?_
  refine r_iload_n 3 3 rfl rfl 3 rfl dX9_ruleTold_2 ?_
  refine r_callV_V (c_X9_number (E := E) (l := l) (S := S) d o0 h0 x2 x3) ok_X9_number ⟨⟨(Nat.le_of_ble_eq_true rfl), (Nat.le_of_ble_eq_true rfl)⟩, (Nat.le_of_ble_eq_true rfl), (Nat.le_of_ble_eq_true rfl)⟩ (h0 0 (Nat.le_of_ble_eq_true rfl)) (Nat.le_of_ble_eq_true rfl) rfl rfl rfl (Nat.le_of_ble_eq_true rfl) gX9_ruleTold_X9_number rfl rfl 6 rfl dX9_ruleTold_3 (fun d1 => ?_)
  refine r_aload_n 0 0 rfl rfl 7 rfl dX9_ruleTold_6 ?_
  refine r_callV_X (c_X9_ends (E := E) (l := l) (S := S) d1 o0 h0) ok_X9_ends ⟨⟨(Nat.le_of_ble_eq_true rfl), (Nat.le_of_ble_eq_true rfl)⟩, (Nat.le_of_ble_eq_true rfl), (Nat.le_of_ble_eq_true rfl)⟩ (h0 0 (Nat.le_of_ble_eq_true rfl)) (Nat.le_of_ble_eq_true rfl) rfl rfl rfl (Nat.le_of_ble_eq_true rfl) gX9_ruleTold_X9_ends rfl rfl 10 rfl dX9_ruleTold_7 (fun v2 d3 => ?_)
  refine r_if_eq 27 13 rfl rfl dX9_ruleTold_10 ?_ ?_
  · exact r_return rfl rfl (Nat.le_of_ble_eq_true rfl) (Nat.le_of_ble_eq_true rfl) dX9_ruleTold_27
  · refine r_aload_n 0 0 rfl rfl 14 rfl dX9_ruleTold_13 ?_
    refine r_get (h0 0 (Nat.le_of_ble_eq_true rfl)) rfl (Nat.le_of_ble_eq_true rfl) rfl rfl w_X9_ruleTold_1 1 (Nat.le_of_ble_eq_true rfl) rfl w_X9_ruleTold_0 (.ref (E.2.1 + (o0 + 1))) rfl 17 rfl dX9_ruleTold_14 ?_
    refine r_iconst 4 rfl 18 rfl dX9_ruleTold_17 ?_
    refine r_iload_n 1 1 rfl rfl 19 rfl dX9_ruleTold_18 ?_
    refine r_iadd 20 rfl dX9_ruleTold_19 ?_
    refine r_aload_n 0 0 rfl rfl 21 rfl dX9_ruleTold_20 ?_
    refine r_get (h0 0 (Nat.le_of_ble_eq_true rfl)) rfl (Nat.le_of_ble_eq_true rfl) rfl rfl w_X9_ruleTold_1 16 (Nat.le_of_ble_eq_true rfl) rfl w_X9_ruleTold_2 (.ref (E.2.1 + (o0 + 9))) rfl 24 rfl dX9_ruleTold_21 ?_
    refine r_iconst 0 rfl 25 rfl dX9_ruleTold_24 ?_
    refine r_iald (h0 9 (Nat.le_of_ble_eq_true rfl)) rfl rfl 26 rfl dX9_ruleTold_25 (fun v4 => ?_)
    refine r_iast (h0 1 (Nat.le_of_ble_eq_true rfl)) rfl rfl 27 rfl dX9_ruleTold_26 (fun d5 => ?_)
    exact r_return rfl rfl (Nat.le_of_ble_eq_true rfl) (Nat.le_of_ble_eq_true rfl) dX9_ruleTold_27
def Y_X9_statement : z_Y := (RX9, cX9_statement, 4, wsX9_statement, none, { frames := 6, cells := 0, slots := 0, locals := 141 }, 0, 0)
theorem ok_X9_statement : z_Ok yX9_statement Y_X9_statement 0 := ⟨⟨_, rfl⟩, rfl, rfl, rfl, by decide +kernel, by decide +kernel⟩
theorem w_X9_statement_0 : Cond.fieldLink RX9 277 "BunchTimesModel" "toldMany" "I" ∈ wsX9_statement := by decide +kernel
theorem w_X9_statement_1 : ∀ w ∈ u_ws RX9 TX9 18, w ∈ wsX9_statement := by decide +kernel
theorem w_X9_statement_2 : Cond.fieldLink RX9 270 "BunchTimesModel" "from" "I" ∈ wsX9_statement := by decide +kernel
theorem w_X9_statement_3 : Cond.constantLong RX9 321 397345 ∈ wsX9_statement := by decide +kernel
theorem w_X9_statement_4 : Cond.constantLong RX9 323 9746154 ∈ wsX9_statement := by decide +kernel
theorem w_X9_statement_5 : Cond.constantLong RX9 328 10491962 ∈ wsX9_statement := by decide +kernel
theorem w_X9_statement_6 : Cond.constantLong RX9 333 70340 ∈ wsX9_statement := by decide +kernel
theorem w_X9_statement_7 : Cond.constantLong RX9 338 311436 ∈ wsX9_statement := by decide +kernel
theorem w_X9_statement_8 : Cond.constantLong RX9 343 119163 ∈ wsX9_statement := by decide +kernel
theorem w_X9_statement_9 : Cond.constantLong RX9 348 212650 ∈ wsX9_statement := by decide +kernel
theorem w_X9_statement_10 : Cond.constantLong RX9 353 4075196 ∈ wsX9_statement := by decide +kernel
theorem w_X9_statement_11 : Cond.constantLong RX9 359 350183 ∈ wsX9_statement := by decide +kernel
theorem w_X9_statement_12 : Cond.constantLong RX9 361 5146 ∈ wsX9_statement := by decide +kernel
theorem w_X9_statement_13 : Cond.constantLong RX9 367 523076 ∈ wsX9_statement := by decide +kernel
theorem w_X9_statement_14 : Cond.constantLong RX9 369 1841972 ∈ wsX9_statement := by decide +kernel
def f_X9_statement (d : z_D) (o0 : Nat) : Option z_D := z_put d o0 17 0 (fun d1 => z_bY (f_X9_word d1 o0) (fun v2 d3 => z_nam (d3 o0 14) (fun v4 => (if (lg_cmp v2 397345) = 0 then z_bX (f_X9_ends d3 o0) (fun v22 d23 => (if v22 = 0 then (some d23) else z_bX (f_X9_teams d23 o0) (fun v24 d25 => (if v24 = (-1) then ((f_X9_can d25 o0 0 v4).bind fun d26 => (some d26)) else ((f_X9_can d25 o0 1 v4).bind fun d27 => (some d27)))))) else (if (lg_cmp v2 9746154) = 0 then ((f_X9_riderTold d3 o0 v4).bind fun d21 => (some d21)) else (if (lg_cmp v2 10491962) = 0 then ((f_X9_stageTold d3 o0 v4).bind fun d20 => (some d20)) else (if (lg_cmp v2 70340) = 0 then ((f_X9_comeTold d3 o0 v4).bind fun d19 => (some d19)) else (if (lg_cmp v2 311436) = 0 then ((f_X9_overTold d3 o0 v4).bind fun d18 => (some d18)) else (if (lg_cmp v2 119163) = 0 then ((f_X9_fallTold d3 o0 v4).bind fun d17 => (some d17)) else (if (lg_cmp v2 212650) = 0 then ((f_X9_juryTold d3 o0 v4).bind fun d16 => (some d16)) else (if (lg_cmp v2 4075196) = 0 then ((f_X9_oneTold d3 o0 v4 1).bind fun d15 => (some d15)) else (if (lg_cmp v2 350183) = 0 then ((f_X9_oneTold d3 o0 v4 0).bind fun d14 => (some d14)) else (if (lg_cmp v2 5146) = 0 then ((f_X9_ruleTold d3 o0 0 1 99).bind fun d13 => (some d13)) else (if (lg_cmp v2 523076) = 0 then ((f_X9_ruleTold d3 o0 1 0 9).bind fun d12 => (some d12)) else (if (lg_cmp v2 1841972) = 0 then z_bX (f_X9_ends d3 o0) (fun v6 d7 => (if v6 = 0 then (some d7) else z_bX (f_X9_closes d7 o0) (fun v8 d9 => (if v8 = (-1) then ((f_X9_can d9 o0 0 v4).bind fun d10 => (some d10)) else ((f_X9_can d9 o0 1 v4).bind fun d11 => (some d11)))))) else ((f_X9_fails d3 o0 1 v4).bind fun d5 => (some d5)))))))))))))))))
set_option maxHeartbeats 4000000 in
set_option maxRecDepth 100000 in
theorem c_X9_statement {E : z_E} {l : Launch} {S : z_S} (d : z_D) (o0 : Nat) (h0 : A_Model S o0) : z_Sp E l yX9_statement Y_X9_statement (cvV S) [.ref (E.2.1 + o0)] (S, d) (f_X9_statement d o0) := by
  refine z_entry (lv := [(0, .ref (E.2.1 + o0))]) (by decide) rfl rfl (Nat.le_of_ble_eq_true rfl) rfl ?_
  unfold f_X9_statement
  refine r_aload_n 0 0 rfl rfl 1 rfl dX9_statement_0 ?_
  refine r_iconst 0 rfl 2 rfl dX9_statement_1 ?_
  refine r_put (h0 0 (Nat.le_of_ble_eq_true rfl)) rfl (Nat.le_of_ble_eq_true rfl) rfl rfl w_X9_statement_1 tyX9 tyX9_ok nmX9 (Nat.le_of_ble_eq_true rfl) rfl w_X9_statement_0 rfl rfl rfl rfl rfl 5 rfl dX9_statement_2 (fun d1 => ?_)
  refine r_aload_n 0 0 rfl rfl 6 rfl dX9_statement_5 ?_
  refine r_callV_Y (c_X9_word (E := E) (l := l) (S := S) d1 o0 h0) ok_X9_word ⟨⟨(Nat.le_of_ble_eq_true rfl), (Nat.le_of_ble_eq_true rfl)⟩, (Nat.le_of_ble_eq_true rfl), (Nat.le_of_ble_eq_true rfl)⟩ (h0 0 (Nat.le_of_ble_eq_true rfl)) (Nat.le_of_ble_eq_true rfl) rfl rfl rfl (Nat.le_of_ble_eq_true rfl) gX9_statement_X9_word rfl rfl 9 rfl dX9_statement_6 (fun v2 d3 => ?_)
  refine r_lstore_n 1 rfl [(1, .long v2), (0, .ref (E.2.1 + o0))] (Nat.le_of_ble_eq_true rfl) rfl 10 rfl dX9_statement_9 ?_
  refine r_aload_n 0 1 rfl rfl 11 rfl dX9_statement_10 ?_
  refine r_get (h0 0 (Nat.le_of_ble_eq_true rfl)) rfl (Nat.le_of_ble_eq_true rfl) rfl rfl w_X9_statement_1 14 (Nat.le_of_ble_eq_true rfl) rfl w_X9_statement_2 (.int (d3 o0 14)) rfl 14 rfl dX9_statement_11 ?_
  refine r_nami (fun v4 => ?_)
  refine r_istore_n 3 rfl [(3, .int v4), (1, .long v2), (0, .ref (E.2.1 + o0))] (Nat.le_of_ble_eq_true rfl) rfl 15 rfl dX9_statement_14 ?_
  refine r_lload_n 1 1 rfl rfl 16 rfl dX9_statement_15 ?_
  refine r_ldc2 (v := 397345) w_X9_statement_3 19 rfl dX9_statement_16 ?_
  refine r_lcmp 20 rfl dX9_statement_19 ?_
  refine r_if_ne 51 23 rfl rfl dX9_statement_20 ?_ ?_
  · refine r_lload_n 1 1 rfl rfl 52 rfl dX9_statement_51 ?_
    refine r_ldc2 (v := 9746154) w_X9_statement_4 55 rfl dX9_statement_52 ?_
    refine r_lcmp 56 rfl dX9_statement_55 ?_
    refine r_if_ne 67 59 rfl rfl dX9_statement_56 ?_ ?_
    · refine r_lload_n 1 1 rfl rfl 68 rfl dX9_statement_67 ?_
      refine r_ldc2 (v := 10491962) w_X9_statement_5 71 rfl dX9_statement_68 ?_
      refine r_lcmp 72 rfl dX9_statement_71 ?_
      refine r_if_ne 83 75 rfl rfl dX9_statement_72 ?_ ?_
      · refine r_lload_n 1 1 rfl rfl 84 rfl dX9_statement_83 ?_
        refine r_ldc2 (v := 70340) w_X9_statement_6 87 rfl dX9_statement_84 ?_
        refine r_lcmp 88 rfl dX9_statement_87 ?_
        refine r_if_ne 99 91 rfl rfl dX9_statement_88 ?_ ?_
        · refine r_lload_n 1 1 rfl rfl 100 rfl dX9_statement_99 ?_
          refine r_ldc2 (v := 311436) w_X9_statement_7 103 rfl dX9_statement_100 ?_
          refine r_lcmp 104 rfl dX9_statement_103 ?_
          refine r_if_ne 115 107 rfl rfl dX9_statement_104 ?_ ?_
          · refine r_lload_n 1 1 rfl rfl 116 rfl dX9_statement_115 ?_
            refine r_ldc2 (v := 119163) w_X9_statement_8 119 rfl dX9_statement_116 ?_
            refine r_lcmp 120 rfl dX9_statement_119 ?_
            refine r_if_ne 131 123 rfl rfl dX9_statement_120 ?_ ?_
            · refine r_lload_n 1 1 rfl rfl 132 rfl dX9_statement_131 ?_
              refine r_ldc2 (v := 212650) w_X9_statement_9 135 rfl dX9_statement_132 ?_
              refine r_lcmp 136 rfl dX9_statement_135 ?_
              refine r_if_ne 147 139 rfl rfl dX9_statement_136 ?_ ?_
              · refine r_lload_n 1 1 rfl rfl 148 rfl dX9_statement_147 ?_
                refine r_ldc2 (v := 4075196) w_X9_statement_10 151 rfl dX9_statement_148 ?_
                refine r_lcmp 152 rfl dX9_statement_151 ?_
                refine r_if_ne 164 155 rfl rfl dX9_statement_152 ?_ ?_
                · refine r_lload_n 1 1 rfl rfl 165 rfl dX9_statement_164 ?_
                  refine r_ldc2 (v := 350183) w_X9_statement_11 168 rfl dX9_statement_165 ?_
                  refine r_lcmp 169 rfl dX9_statement_168 ?_
                  refine r_if_ne 181 172 rfl rfl dX9_statement_169 ?_ ?_
                  · refine r_lload_n 1 1 rfl rfl 182 rfl dX9_statement_181 ?_
                    refine r_ldc2 (v := 5146) w_X9_statement_12 185 rfl dX9_statement_182 ?_
                    refine r_lcmp 186 rfl dX9_statement_185 ?_
                    refine r_if_ne 200 189 rfl rfl dX9_statement_186 ?_ ?_
                    · refine r_lload_n 1 1 rfl rfl 201 rfl dX9_statement_200 ?_
                      refine r_ldc2 (v := 523076) w_X9_statement_13 204 rfl dX9_statement_201 ?_
                      refine r_lcmp 205 rfl dX9_statement_204 ?_
                      refine r_if_ne 219 208 rfl rfl dX9_statement_205 ?_ ?_
                      · refine r_lload_n 1 1 rfl rfl 220 rfl dX9_statement_219 ?_
                        refine r_ldc2 (v := 1841972) w_X9_statement_14 223 rfl dX9_statement_220 ?_
                        refine r_lcmp 224 rfl dX9_statement_223 ?_
                        refine r_if_ne 255 227 rfl rfl dX9_statement_224 ?_ ?_
                        · refine r_aload_n 0 2 rfl rfl 256 rfl dX9_statement_255 ?_
                          refine r_iconst 1 rfl 257 rfl dX9_statement_256 ?_
                          refine r_iload_n 3 0 rfl rfl 258 rfl dX9_statement_257 ?_
                          refine r_callV_V (c_X9_fails (E := E) (l := l) (S := S) d3 o0 h0 1 v4) ok_X9_fails ⟨⟨(Nat.le_of_ble_eq_true rfl), (Nat.le_of_ble_eq_true rfl)⟩, (Nat.le_of_ble_eq_true rfl), (Nat.le_of_ble_eq_true rfl)⟩ (h0 0 (Nat.le_of_ble_eq_true rfl)) (Nat.le_of_ble_eq_true rfl) rfl rfl rfl (Nat.le_of_ble_eq_true rfl) gX9_statement_X9_fails rfl rfl 261 rfl dX9_statement_258 (fun d5 => ?_)
                          exact r_return rfl rfl (Nat.le_of_ble_eq_true rfl) (Nat.le_of_ble_eq_true rfl) dX9_statement_261
                        · refine r_aload_n 0 2 rfl rfl 228 rfl dX9_statement_227 ?_
                          refine r_callV_X (c_X9_ends (E := E) (l := l) (S := S) d3 o0 h0) ok_X9_ends ⟨⟨(Nat.le_of_ble_eq_true rfl), (Nat.le_of_ble_eq_true rfl)⟩, (Nat.le_of_ble_eq_true rfl), (Nat.le_of_ble_eq_true rfl)⟩ (h0 0 (Nat.le_of_ble_eq_true rfl)) (Nat.le_of_ble_eq_true rfl) rfl rfl rfl (Nat.le_of_ble_eq_true rfl) gX9_statement_X9_ends rfl rfl 231 rfl dX9_statement_228 (fun v6 d7 => ?_)
                          refine r_if_eq 261 234 rfl rfl dX9_statement_231 ?_ ?_
                          · exact r_return rfl rfl (Nat.le_of_ble_eq_true rfl) (Nat.le_of_ble_eq_true rfl) dX9_statement_261
                          · refine r_aload_n 0 2 rfl rfl 235 rfl dX9_statement_234 ?_
                            refine r_aload_n 0 2 rfl rfl 236 rfl dX9_statement_235 ?_
                            refine r_callV_X (c_X9_closes (E := E) (l := l) (S := S) d7 o0 h0) ok_X9_closes ⟨⟨(Nat.le_of_ble_eq_true rfl), (Nat.le_of_ble_eq_true rfl)⟩, (Nat.le_of_ble_eq_true rfl), (Nat.le_of_ble_eq_true rfl)⟩ (h0 0 (Nat.le_of_ble_eq_true rfl)) (Nat.le_of_ble_eq_true rfl) rfl rfl rfl (Nat.le_of_ble_eq_true rfl) gX9_statement_X9_closes rfl rfl 239 rfl dX9_statement_236 (fun v8 d9 => ?_)
                            refine r_iconst (-1) rfl 240 rfl dX9_statement_239 ?_
                            refine r_icmp_eq 247 243 rfl rfl dX9_statement_240 ?_ ?_
                            · refine r_iconst 0 rfl 248 rfl dX9_statement_247 ?_
                              refine r_iload_n 3 0 rfl rfl 249 rfl dX9_statement_248 ?_
                              refine r_callV_V (c_X9_can (E := E) (l := l) (S := S) d9 o0 h0 0 v4) ok_X9_can ⟨⟨(Nat.le_of_ble_eq_true rfl), (Nat.le_of_ble_eq_true rfl)⟩, (Nat.le_of_ble_eq_true rfl), (Nat.le_of_ble_eq_true rfl)⟩ (h0 0 (Nat.le_of_ble_eq_true rfl)) (Nat.le_of_ble_eq_true rfl) rfl rfl rfl (Nat.le_of_ble_eq_true rfl) gX9_statement_X9_can rfl rfl 252 rfl dX9_statement_249 (fun d10 => ?_)
                              refine r_goto 261 rfl dX9_statement_252 ?_
                              exact r_return rfl rfl (Nat.le_of_ble_eq_true rfl) (Nat.le_of_ble_eq_true rfl) dX9_statement_261
                            · refine r_iconst 1 rfl 244 rfl dX9_statement_243 ?_
                              refine r_goto 248 rfl dX9_statement_244 ?_
                              refine r_iload_n 3 0 rfl rfl 249 rfl dX9_statement_248 ?_
                              refine r_callV_V (c_X9_can (E := E) (l := l) (S := S) d9 o0 h0 1 v4) ok_X9_can ⟨⟨(Nat.le_of_ble_eq_true rfl), (Nat.le_of_ble_eq_true rfl)⟩, (Nat.le_of_ble_eq_true rfl), (Nat.le_of_ble_eq_true rfl)⟩ (h0 0 (Nat.le_of_ble_eq_true rfl)) (Nat.le_of_ble_eq_true rfl) rfl rfl rfl (Nat.le_of_ble_eq_true rfl) gX9_statement_X9_can rfl rfl 252 rfl dX9_statement_249 (fun d11 => ?_)
                              refine r_goto 261 rfl dX9_statement_252 ?_
                              exact r_return rfl rfl (Nat.le_of_ble_eq_true rfl) (Nat.le_of_ble_eq_true rfl) dX9_statement_261
                      · refine r_aload_n 0 2 rfl rfl 209 rfl dX9_statement_208 ?_
                        refine r_iconst 1 rfl 210 rfl dX9_statement_209 ?_
                        refine r_iconst 0 rfl 211 rfl dX9_statement_210 ?_
                        refine r_bipush 9 rfl 213 rfl dX9_statement_211 ?_
                        refine r_callV_V (c_X9_ruleTold (E := E) (l := l) (S := S) d3 o0 h0 1 0 9) ok_X9_ruleTold ⟨⟨(Nat.le_of_ble_eq_true rfl), (Nat.le_of_ble_eq_true rfl)⟩, (Nat.le_of_ble_eq_true rfl), (Nat.le_of_ble_eq_true rfl)⟩ (h0 0 (Nat.le_of_ble_eq_true rfl)) (Nat.le_of_ble_eq_true rfl) rfl rfl rfl (Nat.le_of_ble_eq_true rfl) gX9_statement_X9_ruleTold rfl rfl 216 rfl dX9_statement_213 (fun d12 => ?_)
                        refine r_goto 261 rfl dX9_statement_216 ?_
                        exact r_return rfl rfl (Nat.le_of_ble_eq_true rfl) (Nat.le_of_ble_eq_true rfl) dX9_statement_261
                    · refine r_aload_n 0 2 rfl rfl 190 rfl dX9_statement_189 ?_
                      refine r_iconst 0 rfl 191 rfl dX9_statement_190 ?_
                      refine r_iconst 1 rfl 192 rfl dX9_statement_191 ?_
                      refine r_bipush 99 rfl 194 rfl dX9_statement_192 ?_
                      refine r_callV_V (c_X9_ruleTold (E := E) (l := l) (S := S) d3 o0 h0 0 1 99) ok_X9_ruleTold ⟨⟨(Nat.le_of_ble_eq_true rfl), (Nat.le_of_ble_eq_true rfl)⟩, (Nat.le_of_ble_eq_true rfl), (Nat.le_of_ble_eq_true rfl)⟩ (h0 0 (Nat.le_of_ble_eq_true rfl)) (Nat.le_of_ble_eq_true rfl) rfl rfl rfl (Nat.le_of_ble_eq_true rfl) gX9_statement_X9_ruleTold rfl rfl 197 rfl dX9_statement_194 (fun d13 => ?_)
                      refine r_goto 261 rfl dX9_statement_197 ?_
                      exact r_return rfl rfl (Nat.le_of_ble_eq_true rfl) (Nat.le_of_ble_eq_true rfl) dX9_statement_261
                  · refine r_aload_n 0 2 rfl rfl 173 rfl dX9_statement_172 ?_
                    refine r_iload_n 3 0 rfl rfl 174 rfl dX9_statement_173 ?_
                    refine r_iconst 0 rfl 175 rfl dX9_statement_174 ?_
                    refine r_callV_V (c_X9_oneTold (E := E) (l := l) (S := S) d3 o0 h0 v4 0) ok_X9_oneTold ⟨⟨(Nat.le_of_ble_eq_true rfl), (Nat.le_of_ble_eq_true rfl)⟩, (Nat.le_of_ble_eq_true rfl), (Nat.le_of_ble_eq_true rfl)⟩ (h0 0 (Nat.le_of_ble_eq_true rfl)) (Nat.le_of_ble_eq_true rfl) rfl rfl rfl (Nat.le_of_ble_eq_true rfl) gX9_statement_X9_oneTold rfl rfl 178 rfl dX9_statement_175 (fun d14 => ?_)
                    refine r_goto 261 rfl dX9_statement_178 ?_
                    exact r_return rfl rfl (Nat.le_of_ble_eq_true rfl) (Nat.le_of_ble_eq_true rfl) dX9_statement_261
                · refine r_aload_n 0 2 rfl rfl 156 rfl dX9_statement_155 ?_
                  refine r_iload_n 3 0 rfl rfl 157 rfl dX9_statement_156 ?_
                  refine r_iconst 1 rfl 158 rfl dX9_statement_157 ?_
                  refine r_callV_V (c_X9_oneTold (E := E) (l := l) (S := S) d3 o0 h0 v4 1) ok_X9_oneTold ⟨⟨(Nat.le_of_ble_eq_true rfl), (Nat.le_of_ble_eq_true rfl)⟩, (Nat.le_of_ble_eq_true rfl), (Nat.le_of_ble_eq_true rfl)⟩ (h0 0 (Nat.le_of_ble_eq_true rfl)) (Nat.le_of_ble_eq_true rfl) rfl rfl rfl (Nat.le_of_ble_eq_true rfl) gX9_statement_X9_oneTold rfl rfl 161 rfl dX9_statement_158 (fun d15 => ?_)
                  refine r_goto 261 rfl dX9_statement_161 ?_
                  exact r_return rfl rfl (Nat.le_of_ble_eq_true rfl) (Nat.le_of_ble_eq_true rfl) dX9_statement_261
              · refine r_aload_n 0 2 rfl rfl 140 rfl dX9_statement_139 ?_
                refine r_iload_n 3 0 rfl rfl 141 rfl dX9_statement_140 ?_
                refine r_callV_V (c_X9_juryTold (E := E) (l := l) (S := S) d3 o0 h0 v4) ok_X9_juryTold ⟨⟨(Nat.le_of_ble_eq_true rfl), (Nat.le_of_ble_eq_true rfl)⟩, (Nat.le_of_ble_eq_true rfl), (Nat.le_of_ble_eq_true rfl)⟩ (h0 0 (Nat.le_of_ble_eq_true rfl)) (Nat.le_of_ble_eq_true rfl) rfl rfl rfl (Nat.le_of_ble_eq_true rfl) gX9_statement_X9_juryTold rfl rfl 144 rfl dX9_statement_141 (fun d16 => ?_)
                refine r_goto 261 rfl dX9_statement_144 ?_
                exact r_return rfl rfl (Nat.le_of_ble_eq_true rfl) (Nat.le_of_ble_eq_true rfl) dX9_statement_261
            · refine r_aload_n 0 2 rfl rfl 124 rfl dX9_statement_123 ?_
              refine r_iload_n 3 0 rfl rfl 125 rfl dX9_statement_124 ?_
              refine r_callV_V (c_X9_fallTold (E := E) (l := l) (S := S) d3 o0 h0 v4) ok_X9_fallTold ⟨⟨(Nat.le_of_ble_eq_true rfl), (Nat.le_of_ble_eq_true rfl)⟩, (Nat.le_of_ble_eq_true rfl), (Nat.le_of_ble_eq_true rfl)⟩ (h0 0 (Nat.le_of_ble_eq_true rfl)) (Nat.le_of_ble_eq_true rfl) rfl rfl rfl (Nat.le_of_ble_eq_true rfl) gX9_statement_X9_fallTold rfl rfl 128 rfl dX9_statement_125 (fun d17 => ?_)
              refine r_goto 261 rfl dX9_statement_128 ?_
              exact r_return rfl rfl (Nat.le_of_ble_eq_true rfl) (Nat.le_of_ble_eq_true rfl) dX9_statement_261
          · refine r_aload_n 0 2 rfl rfl 108 rfl dX9_statement_107 ?_
            refine r_iload_n 3 0 rfl rfl 109 rfl dX9_statement_108 ?_
            refine r_callV_V (c_X9_overTold (E := E) (l := l) (S := S) d3 o0 h0 v4) ok_X9_overTold ⟨⟨(Nat.le_of_ble_eq_true rfl), (Nat.le_of_ble_eq_true rfl)⟩, (Nat.le_of_ble_eq_true rfl), (Nat.le_of_ble_eq_true rfl)⟩ (h0 0 (Nat.le_of_ble_eq_true rfl)) (Nat.le_of_ble_eq_true rfl) rfl rfl rfl (Nat.le_of_ble_eq_true rfl) gX9_statement_X9_overTold rfl rfl 112 rfl dX9_statement_109 (fun d18 => ?_)
            refine r_goto 261 rfl dX9_statement_112 ?_
            exact r_return rfl rfl (Nat.le_of_ble_eq_true rfl) (Nat.le_of_ble_eq_true rfl) dX9_statement_261
        · refine r_aload_n 0 2 rfl rfl 92 rfl dX9_statement_91 ?_
          refine r_iload_n 3 0 rfl rfl 93 rfl dX9_statement_92 ?_
          refine r_callV_V (c_X9_comeTold (E := E) (l := l) (S := S) d3 o0 h0 v4) ok_X9_comeTold ⟨⟨(Nat.le_of_ble_eq_true rfl), (Nat.le_of_ble_eq_true rfl)⟩, (Nat.le_of_ble_eq_true rfl), (Nat.le_of_ble_eq_true rfl)⟩ (h0 0 (Nat.le_of_ble_eq_true rfl)) (Nat.le_of_ble_eq_true rfl) rfl rfl rfl (Nat.le_of_ble_eq_true rfl) gX9_statement_X9_comeTold rfl rfl 96 rfl dX9_statement_93 (fun d19 => ?_)
          refine r_goto 261 rfl dX9_statement_96 ?_
          exact r_return rfl rfl (Nat.le_of_ble_eq_true rfl) (Nat.le_of_ble_eq_true rfl) dX9_statement_261
      · refine r_aload_n 0 2 rfl rfl 76 rfl dX9_statement_75 ?_
        refine r_iload_n 3 0 rfl rfl 77 rfl dX9_statement_76 ?_
        refine r_callV_V (c_X9_stageTold (E := E) (l := l) (S := S) d3 o0 h0 v4) ok_X9_stageTold ⟨⟨(Nat.le_of_ble_eq_true rfl), (Nat.le_of_ble_eq_true rfl)⟩, (Nat.le_of_ble_eq_true rfl), (Nat.le_of_ble_eq_true rfl)⟩ (h0 0 (Nat.le_of_ble_eq_true rfl)) (Nat.le_of_ble_eq_true rfl) rfl rfl rfl (Nat.le_of_ble_eq_true rfl) gX9_statement_X9_stageTold rfl rfl 80 rfl dX9_statement_77 (fun d20 => ?_)
        refine r_goto 261 rfl dX9_statement_80 ?_
        exact r_return rfl rfl (Nat.le_of_ble_eq_true rfl) (Nat.le_of_ble_eq_true rfl) dX9_statement_261
    · refine r_aload_n 0 2 rfl rfl 60 rfl dX9_statement_59 ?_
      refine r_iload_n 3 0 rfl rfl 61 rfl dX9_statement_60 ?_
      refine r_callV_V (c_X9_riderTold (E := E) (l := l) (S := S) d3 o0 h0 v4) ok_X9_riderTold ⟨⟨(Nat.le_of_ble_eq_true rfl), (Nat.le_of_ble_eq_true rfl)⟩, (Nat.le_of_ble_eq_true rfl), (Nat.le_of_ble_eq_true rfl)⟩ (h0 0 (Nat.le_of_ble_eq_true rfl)) (Nat.le_of_ble_eq_true rfl) rfl rfl rfl (Nat.le_of_ble_eq_true rfl) gX9_statement_X9_riderTold rfl rfl 64 rfl dX9_statement_61 (fun d21 => ?_)
      refine r_goto 261 rfl dX9_statement_64 ?_
      exact r_return rfl rfl (Nat.le_of_ble_eq_true rfl) (Nat.le_of_ble_eq_true rfl) dX9_statement_261
  · refine r_aload_n 0 2 rfl rfl 24 rfl dX9_statement_23 ?_
    refine r_callV_X (c_X9_ends (E := E) (l := l) (S := S) d3 o0 h0) ok_X9_ends ⟨⟨(Nat.le_of_ble_eq_true rfl), (Nat.le_of_ble_eq_true rfl)⟩, (Nat.le_of_ble_eq_true rfl), (Nat.le_of_ble_eq_true rfl)⟩ (h0 0 (Nat.le_of_ble_eq_true rfl)) (Nat.le_of_ble_eq_true rfl) rfl rfl rfl (Nat.le_of_ble_eq_true rfl) gX9_statement_X9_ends rfl rfl 27 rfl dX9_statement_24 (fun v22 d23 => ?_)
    refine r_if_eq 261 30 rfl rfl dX9_statement_27 ?_ ?_
    · exact r_return rfl rfl (Nat.le_of_ble_eq_true rfl) (Nat.le_of_ble_eq_true rfl) dX9_statement_261
    · refine r_aload_n 0 2 rfl rfl 31 rfl dX9_statement_30 ?_
      refine r_aload_n 0 2 rfl rfl 32 rfl dX9_statement_31 ?_
      refine r_callV_X (c_X9_teams (E := E) (l := l) (S := S) d23 o0 h0) ok_X9_teams ⟨⟨(Nat.le_of_ble_eq_true rfl), (Nat.le_of_ble_eq_true rfl)⟩, (Nat.le_of_ble_eq_true rfl), (Nat.le_of_ble_eq_true rfl)⟩ (h0 0 (Nat.le_of_ble_eq_true rfl)) (Nat.le_of_ble_eq_true rfl) rfl rfl rfl (Nat.le_of_ble_eq_true rfl) gX9_statement_X9_teams rfl rfl 35 rfl dX9_statement_32 (fun v24 d25 => ?_)
      refine r_iconst (-1) rfl 36 rfl dX9_statement_35 ?_
      refine r_icmp_eq 43 39 rfl rfl dX9_statement_36 ?_ ?_
      · refine r_iconst 0 rfl 44 rfl dX9_statement_43 ?_
        refine r_iload_n 3 0 rfl rfl 45 rfl dX9_statement_44 ?_
        refine r_callV_V (c_X9_can (E := E) (l := l) (S := S) d25 o0 h0 0 v4) ok_X9_can ⟨⟨(Nat.le_of_ble_eq_true rfl), (Nat.le_of_ble_eq_true rfl)⟩, (Nat.le_of_ble_eq_true rfl), (Nat.le_of_ble_eq_true rfl)⟩ (h0 0 (Nat.le_of_ble_eq_true rfl)) (Nat.le_of_ble_eq_true rfl) rfl rfl rfl (Nat.le_of_ble_eq_true rfl) gX9_statement_X9_can rfl rfl 48 rfl dX9_statement_45 (fun d26 => ?_)
        refine r_goto 261 rfl dX9_statement_48 ?_
        exact r_return rfl rfl (Nat.le_of_ble_eq_true rfl) (Nat.le_of_ble_eq_true rfl) dX9_statement_261
      · refine r_iconst 1 rfl 40 rfl dX9_statement_39 ?_
        refine r_goto 44 rfl dX9_statement_40 ?_
        refine r_iload_n 3 0 rfl rfl 45 rfl dX9_statement_44 ?_
        refine r_callV_V (c_X9_can (E := E) (l := l) (S := S) d25 o0 h0 1 v4) ok_X9_can ⟨⟨(Nat.le_of_ble_eq_true rfl), (Nat.le_of_ble_eq_true rfl)⟩, (Nat.le_of_ble_eq_true rfl), (Nat.le_of_ble_eq_true rfl)⟩ (h0 0 (Nat.le_of_ble_eq_true rfl)) (Nat.le_of_ble_eq_true rfl) rfl rfl rfl (Nat.le_of_ble_eq_true rfl) gX9_statement_X9_can rfl rfl 48 rfl dX9_statement_45 (fun d27 => ?_)
        refine r_goto 261 rfl dX9_statement_48 ?_
        exact r_return rfl rfl (Nat.le_of_ble_eq_true rfl) (Nat.le_of_ble_eq_true rfl) dX9_statement_261
def Y_X9_tell : z_Y := (RX9, cX9_tell, 3, wsX9_tell, (some .int), { frames := 7, cells := 0, slots := 0, locals := 164 }, 0, 0)
theorem ok_X9_tell : z_Ok yX9_tell Y_X9_tell 0 := ⟨⟨_, rfl⟩, rfl, rfl, rfl, by decide +kernel, by decide +kernel⟩
theorem w_X9_tell_0 : Cond.fieldLink RX9 39 "BunchTimesModel" "thrown" "I" ∈ wsX9_tell := by decide +kernel
theorem w_X9_tell_1 : ∀ w ∈ u_ws RX9 TX9 18, w ∈ wsX9_tell := by decide +kernel
theorem w_X9_tell_2 : Cond.fieldLink RX9 179 "BunchTimesModel" "taped" "I" ∈ wsX9_tell := by decide +kernel
theorem w_X9_tell_3 : Cond.fieldLink RX9 258 "BunchTimesModel" "length" "I" ∈ wsX9_tell := by decide +kernel
theorem w_X9_tell_4 : Cond.fieldLink RX9 255 "BunchTimesModel" "place" "I" ∈ wsX9_tell := by decide +kernel
theorem w_X9_tell_5 : Cond.fieldLink RX9 261 "BunchTimesModel" "fault" "I" ∈ wsX9_tell := by decide +kernel
theorem w_X9_tell_6 : Cond.fieldLink RX9 16 "BunchTimesModel" "before" "[I" ∈ wsX9_tell := by decide +kernel
theorem w_X9_tell_7 : Cond.fieldLink RX9 7 "BunchTimesModel" "row" "[I" ∈ wsX9_tell := by decide +kernel
def f_X9_tell_L30_b (o0 : Nat) (K : z_D → Option (Int32 × z_D)) (R : Int32 → z_D → Option (Int32 × z_D)) (x1 : Int32) (d : z_D) : Option (Int32 × z_D) := (if 2656 ≤ x1 then (K d) else z_ald d (o0 + 1) 2656 x1 (fun v6 => z_ast d (o0 + 3) 2656 x1 v6 (fun d7 => (R (x1 + 1) d7))))
def f_X9_tell_L30 (o0 : Nat) (K : z_D → Option (Int32 × z_D)) : Nat → Int32 → z_D → Option (Int32 × z_D)
  | 0 => fun _ _ => none
  | n + 1 => f_X9_tell_L30_b o0 K (f_X9_tell_L30 o0 K n)
set_option maxHeartbeats 4000000 in
set_option maxRecDepth 100000 in
theorem g_X9_tell_L30 {E : z_E} {l : Launch} {S : z_S} {o0 : Nat} {K : z_D → Option (Int32 × z_D)} (h0 : A_Model S o0) (hK : ∀ (d9 : z_D), z_G E l Y_X9_tell (cvX S) (K d9) 55 [(0, .ref (E.2.1 + o0))] [] (S, d9) 0 0) : ∀ (n : Nat) (x1 : Int32) (d : z_D), z_G E l Y_X9_tell (cvX S) (f_X9_tell_L30 o0 K n x1 d) 30 [(0, .ref (E.2.1 + o0)), (1, .int x1)] [] (S, d) 0 0 := by
  intro n
  induction n with
  | zero => intro _ _; exact r_none
  | succ n ih =>
    intro x1 d
    show z_G E l Y_X9_tell (cvX S) (f_X9_tell_L30_b o0 K (f_X9_tell_L30 o0 K n) x1 d) 30 [(0, .ref (E.2.1 + o0)), (1, .int x1)] [] (S, d) 0 0
    unfold f_X9_tell_L30_b
    refine r_iload_n 1 1 rfl rfl 31 rfl dX9_tell_30 ?_
    refine r_sipush 2656 rfl 34 rfl dX9_tell_31 ?_
    refine r_icmp_ge 55 37 rfl rfl dX9_tell_34 ?_ ?_
    · refine r_sub [0] rfl ?_
      exact hK d
    · refine r_aload_n 0 0 rfl rfl 38 rfl dX9_tell_37 ?_
      refine r_get (h0 0 (Nat.le_of_ble_eq_true rfl)) rfl (Nat.le_of_ble_eq_true rfl) rfl rfl w_X9_tell_1 3 (Nat.le_of_ble_eq_true rfl) rfl w_X9_tell_6 (.ref (E.2.1 + (o0 + 3))) rfl 41 rfl dX9_tell_38 ?_
      refine r_iload_n 1 1 rfl rfl 42 rfl dX9_tell_41 ?_
      refine r_aload_n 0 0 rfl rfl 43 rfl dX9_tell_42 ?_
      refine r_get (h0 0 (Nat.le_of_ble_eq_true rfl)) rfl (Nat.le_of_ble_eq_true rfl) rfl rfl w_X9_tell_1 1 (Nat.le_of_ble_eq_true rfl) rfl w_X9_tell_7 (.ref (E.2.1 + (o0 + 1))) rfl 46 rfl dX9_tell_43 ?_
      refine r_iload_n 1 1 rfl rfl 47 rfl dX9_tell_46 ?_
      refine r_iald (h0 1 (Nat.le_of_ble_eq_true rfl)) rfl rfl 48 rfl dX9_tell_47 (fun v6 => ?_)
      refine r_iast (h0 3 (Nat.le_of_ble_eq_true rfl)) rfl rfl 49 rfl dX9_tell_48 (fun d7 => ?_)
      refine r_iinc (x1 + 1) 1 rfl rfl [(1, .int (x1 + 1)), (0, .ref (E.2.1 + o0))] (Nat.le_of_ble_eq_true rfl) rfl 52 rfl dX9_tell_49 ?_
      refine r_goto 30 rfl dX9_tell_52 ?_
      refine r_sub [1, 0] rfl ?_
      exact ih (x1 + 1) d7
def f_X9_tell_L57_b (o0 : Nat) (K : Int32 → z_D → Option (Int32 × z_D)) (R : Int32 → z_D → Option (Int32 × z_D)) (x1 : Int32) (d : z_D) : Option (Int32 × z_D) := (if (d o0 15) = 0 then z_bX (f_X9_here d o0) (fun v9 d10 => (if v9 = (-1) then (K x1 d10) else ((f_X9_statement d10 o0).bind fun d11 => (R (x1 + 1) d11)))) else (K x1 d))
def f_X9_tell_L57 (o0 : Nat) (K : Int32 → z_D → Option (Int32 × z_D)) : Nat → Int32 → z_D → Option (Int32 × z_D)
  | 0 => fun _ _ => none
  | n + 1 => f_X9_tell_L57_b o0 K (f_X9_tell_L57 o0 K n)
set_option maxHeartbeats 4000000 in
set_option maxRecDepth 100000 in
theorem g_X9_tell_L57 {E : z_E} {l : Launch} {S : z_S} {o0 : Nat} {K : Int32 → z_D → Option (Int32 × z_D)} (h0 : A_Model S o0) (hK : ∀ (y1 : Int32) (d9 : z_D), z_G E l Y_X9_tell (cvX S) (K y1 d9) 82 [(0, .ref (E.2.1 + o0)), (1, .int y1)] [] (S, d9) 0 0) : ∀ (n : Nat) (x1 : Int32) (d : z_D), z_G E l Y_X9_tell (cvX S) (f_X9_tell_L57 o0 K n x1 d) 57 [(0, .ref (E.2.1 + o0)), (1, .int x1)] [] (S, d) 0 0 := by
  intro n
  induction n with
  | zero => intro _ _; exact r_none
  | succ n ih =>
    intro x1 d
    show z_G E l Y_X9_tell (cvX S) (f_X9_tell_L57_b o0 K (f_X9_tell_L57 o0 K n) x1 d) 57 [(0, .ref (E.2.1 + o0)), (1, .int x1)] [] (S, d) 0 0
    unfold f_X9_tell_L57_b
    refine r_aload_n 0 0 rfl rfl 58 rfl dX9_tell_57 ?_
    refine r_get (h0 0 (Nat.le_of_ble_eq_true rfl)) rfl (Nat.le_of_ble_eq_true rfl) rfl rfl w_X9_tell_1 15 (Nat.le_of_ble_eq_true rfl) rfl w_X9_tell_5 (.int (d o0 15)) rfl 61 rfl dX9_tell_58 ?_
    refine r_if_ne 82 64 rfl rfl dX9_tell_61 ?_ ?_
    · refine r_sub [0, 1] rfl ?_
      exact hK x1 d
    · refine r_aload_n 0 0 rfl rfl 65 rfl dX9_tell_64 ?_
      refine r_callV_X (c_X9_here (E := E) (l := l) (S := S) d o0 h0) ok_X9_here ⟨⟨(Nat.le_of_ble_eq_true rfl), (Nat.le_of_ble_eq_true rfl)⟩, (Nat.le_of_ble_eq_true rfl), (Nat.le_of_ble_eq_true rfl)⟩ (h0 0 (Nat.le_of_ble_eq_true rfl)) (Nat.le_of_ble_eq_true rfl) rfl rfl rfl (Nat.le_of_ble_eq_true rfl) gX9_tell_X9_here rfl rfl 68 rfl dX9_tell_65 (fun v9 d10 => ?_)
      refine r_iconst (-1) rfl 69 rfl dX9_tell_68 ?_
      refine r_icmp_eq 82 72 rfl rfl dX9_tell_69 ?_ ?_
      · refine r_sub [0, 1] rfl ?_
        exact hK x1 d10
      · refine r_aload_n 0 0 rfl rfl 73 rfl dX9_tell_72 ?_
        refine r_callV_V (c_X9_statement (E := E) (l := l) (S := S) d10 o0 h0) ok_X9_statement ⟨⟨(Nat.le_of_ble_eq_true rfl), (Nat.le_of_ble_eq_true rfl)⟩, (Nat.le_of_ble_eq_true rfl), (Nat.le_of_ble_eq_true rfl)⟩ (h0 0 (Nat.le_of_ble_eq_true rfl)) (Nat.le_of_ble_eq_true rfl) rfl rfl rfl (Nat.le_of_ble_eq_true rfl) gX9_tell_X9_statement rfl rfl 76 rfl dX9_tell_73 (fun d11 => ?_)
        refine r_iinc (x1 + 1) 1 rfl rfl [(1, .int (x1 + 1)), (0, .ref (E.2.1 + o0))] (Nat.le_of_ble_eq_true rfl) rfl 79 rfl dX9_tell_76 ?_
        refine r_goto 57 rfl dX9_tell_79 ?_
        refine r_sub [1, 0] rfl ?_
        exact ih (x1 + 1) d11
def f_X9_tell_L93_b (o0 : Nat) (K : z_D → Option (Int32 × z_D)) (R : Int32 → z_D → Option (Int32 × z_D)) (x2 : Int32) (d : z_D) : Option (Int32 × z_D) := (if 2656 ≤ x2 then (K d) else z_ald d (o0 + 3) 2656 x2 (fun v14 => z_ast d (o0 + 1) 2656 x2 v14 (fun d15 => (R (x2 + 1) d15))))
def f_X9_tell_L93 (o0 : Nat) (K : z_D → Option (Int32 × z_D)) : Nat → Int32 → z_D → Option (Int32 × z_D)
  | 0 => fun _ _ => none
  | n + 1 => f_X9_tell_L93_b o0 K (f_X9_tell_L93 o0 K n)
set_option maxHeartbeats 4000000 in
set_option maxRecDepth 100000 in
theorem g_X9_tell_L93 {E : z_E} {l : Launch} {S : z_S} {o0 : Nat} {K : z_D → Option (Int32 × z_D)} (h0 : A_Model S o0) (hK : ∀ (d9 : z_D), z_G E l Y_X9_tell (cvX S) (K d9) 118 [] [] (S, d9) 0 0) : ∀ (n : Nat) (x2 : Int32) (d : z_D), z_G E l Y_X9_tell (cvX S) (f_X9_tell_L93 o0 K n x2 d) 93 [(0, .ref (E.2.1 + o0)), (2, .int x2)] [] (S, d) 0 0 := by
  intro n
  induction n with
  | zero => intro _ _; exact r_none
  | succ n ih =>
    intro x2 d
    show z_G E l Y_X9_tell (cvX S) (f_X9_tell_L93_b o0 K (f_X9_tell_L93 o0 K n) x2 d) 93 [(0, .ref (E.2.1 + o0)), (2, .int x2)] [] (S, d) 0 0
    unfold f_X9_tell_L93_b
    refine r_iload_n 2 1 rfl rfl 94 rfl dX9_tell_93 ?_
    refine r_sipush 2656 rfl 97 rfl dX9_tell_94 ?_
    refine r_icmp_ge 118 100 rfl rfl dX9_tell_97 ?_ ?_
    · refine r_sub [] rfl ?_
      exact hK d
    · refine r_aload_n 0 0 rfl rfl 101 rfl dX9_tell_100 ?_
      refine r_get (h0 0 (Nat.le_of_ble_eq_true rfl)) rfl (Nat.le_of_ble_eq_true rfl) rfl rfl w_X9_tell_1 1 (Nat.le_of_ble_eq_true rfl) rfl w_X9_tell_7 (.ref (E.2.1 + (o0 + 1))) rfl 104 rfl dX9_tell_101 ?_
      refine r_iload_n 2 1 rfl rfl 105 rfl dX9_tell_104 ?_
      refine r_aload_n 0 0 rfl rfl 106 rfl dX9_tell_105 ?_
      refine r_get (h0 0 (Nat.le_of_ble_eq_true rfl)) rfl (Nat.le_of_ble_eq_true rfl) rfl rfl w_X9_tell_1 3 (Nat.le_of_ble_eq_true rfl) rfl w_X9_tell_6 (.ref (E.2.1 + (o0 + 3))) rfl 109 rfl dX9_tell_106 ?_
      refine r_iload_n 2 1 rfl rfl 110 rfl dX9_tell_109 ?_
      refine r_iald (h0 3 (Nat.le_of_ble_eq_true rfl)) rfl rfl 111 rfl dX9_tell_110 (fun v14 => ?_)
      refine r_iast (h0 1 (Nat.le_of_ble_eq_true rfl)) rfl rfl 112 rfl dX9_tell_111 (fun d15 => ?_)
      refine r_iinc (x2 + 1) 1 rfl rfl [(2, .int (x2 + 1)), (0, .ref (E.2.1 + o0))] (Nat.le_of_ble_eq_true rfl) rfl 115 rfl dX9_tell_112 ?_
      refine r_goto 93 rfl dX9_tell_115 ?_
      refine r_sub [1, 0] rfl ?_
      exact ih (x2 + 1) d15
def f_X9_tell (d : z_D) (o0 : Nat) : Option (Int32 × z_D) := z_put d o0 0 0 (fun d1 => z_put d1 o0 12 (d1 o0 11) (fun d2 => z_put d2 o0 11 0 (fun d3 => z_put d3 o0 13 0 (fun d4 => z_put d4 o0 15 0 (fun d5 => (f_X9_tell_L30 o0 (fun d8 => (f_X9_tell_L57 o0 (fun v13 d12 => (if (d12 o0 15) = 0 then (some (v13, d12)) else (f_X9_tell_L93 o0 (fun d16 => (some ((-1), d16))) z_N 0 d12))) z_N 0 d8)) z_N 0 d5))))))
set_option maxHeartbeats 4000000 in
set_option maxRecDepth 100000 in
theorem c_X9_tell {E : z_E} {l : Launch} {S : z_S} (d : z_D) (o0 : Nat) (h0 : A_Model S o0) : z_Sp E l yX9_tell Y_X9_tell (cvX S) [.ref (E.2.1 + o0)] (S, d) (f_X9_tell d o0) := by
  refine z_entry (lv := [(0, .ref (E.2.1 + o0))]) (by decide) rfl rfl (Nat.le_of_ble_eq_true rfl) rfl ?_
  unfold f_X9_tell
  refine r_aload_n 0 0 rfl rfl 1 rfl dX9_tell_0 ?_
  refine r_iconst 0 rfl 2 rfl dX9_tell_1 ?_
  refine r_put (h0 0 (Nat.le_of_ble_eq_true rfl)) rfl (Nat.le_of_ble_eq_true rfl) rfl rfl w_X9_tell_1 tyX9 tyX9_ok nmX9 (Nat.le_of_ble_eq_true rfl) rfl w_X9_tell_0 rfl rfl rfl rfl rfl 5 rfl dX9_tell_2 (fun d1 => ?_)
  refine r_aload_n 0 0 rfl rfl 6 rfl dX9_tell_5 ?_
  refine r_aload_n 0 0 rfl rfl 7 rfl dX9_tell_6 ?_
  refine r_get (h0 0 (Nat.le_of_ble_eq_true rfl)) rfl (Nat.le_of_ble_eq_true rfl) rfl rfl w_X9_tell_1 11 (Nat.le_of_ble_eq_true rfl) rfl w_X9_tell_2 (.int (d1 o0 11)) rfl 10 rfl dX9_tell_7 ?_
  refine r_put (h0 0 (Nat.le_of_ble_eq_true rfl)) rfl (Nat.le_of_ble_eq_true rfl) rfl rfl w_X9_tell_1 tyX9 tyX9_ok nmX9 (Nat.le_of_ble_eq_true rfl) rfl w_X9_tell_3 rfl rfl rfl rfl rfl 13 rfl dX9_tell_10 (fun d2 => ?_)
  refine r_aload_n 0 0 rfl rfl 14 rfl dX9_tell_13 ?_
  refine r_iconst 0 rfl 15 rfl dX9_tell_14 ?_
  refine r_put (h0 0 (Nat.le_of_ble_eq_true rfl)) rfl (Nat.le_of_ble_eq_true rfl) rfl rfl w_X9_tell_1 tyX9 tyX9_ok nmX9 (Nat.le_of_ble_eq_true rfl) rfl w_X9_tell_2 rfl rfl rfl rfl rfl 18 rfl dX9_tell_15 (fun d3 => ?_)
  refine r_aload_n 0 0 rfl rfl 19 rfl dX9_tell_18 ?_
  refine r_iconst 0 rfl 20 rfl dX9_tell_19 ?_
  refine r_put (h0 0 (Nat.le_of_ble_eq_true rfl)) rfl (Nat.le_of_ble_eq_true rfl) rfl rfl w_X9_tell_1 tyX9 tyX9_ok nmX9 (Nat.le_of_ble_eq_true rfl) rfl w_X9_tell_4 rfl rfl rfl rfl rfl 23 rfl dX9_tell_20 (fun d4 => ?_)
  refine r_aload_n 0 0 rfl rfl 24 rfl dX9_tell_23 ?_
  refine r_iconst 0 rfl 25 rfl dX9_tell_24 ?_
  refine r_put (h0 0 (Nat.le_of_ble_eq_true rfl)) rfl (Nat.le_of_ble_eq_true rfl) rfl rfl w_X9_tell_1 tyX9 tyX9_ok nmX9 (Nat.le_of_ble_eq_true rfl) rfl w_X9_tell_5 rfl rfl rfl rfl rfl 28 rfl dX9_tell_25 (fun d5 => ?_)
  refine r_iconst 0 rfl 29 rfl dX9_tell_28 ?_
  refine r_istore_n 1 rfl [(1, .int 0), (0, .ref (E.2.1 + o0))] (Nat.le_of_ble_eq_true rfl) rfl 30 rfl dX9_tell_29 ?_
  refine r_sub [1, 0] rfl ?_
  refine g_X9_tell_L30 h0 (fun d8 => ?_) z_N 0 d5
  refine r_iconst 0 rfl 56 rfl dX9_tell_55 ?_
  refine r_istore_n 1 rfl [(1, .int 0), (0, .ref (E.2.1 + o0))] (Nat.le_of_ble_eq_true rfl) rfl 57 rfl dX9_tell_56 ?_
  refine r_sub [1, 0] rfl ?_
  refine g_X9_tell_L57 h0 (fun v13 d12 => ?_) z_N 0 d8
  refine r_aload_n 0 0 rfl rfl 83 rfl dX9_tell_82 ?_
  refine r_get (h0 0 (Nat.le_of_ble_eq_true rfl)) rfl (Nat.le_of_ble_eq_true rfl) rfl rfl w_X9_tell_1 15 (Nat.le_of_ble_eq_true rfl) rfl w_X9_tell_5 (.int (d12 o0 15)) rfl 86 rfl dX9_tell_83 ?_
  refine r_if_ne 91 89 rfl rfl dX9_tell_86 ?_ ?_
  · refine r_iconst 0 rfl 92 rfl dX9_tell_91 ?_
    refine r_istore_n 2 rfl [(2, .int 0), (0, .ref (E.2.1 + o0)), (1, .int v13)] (Nat.le_of_ble_eq_true rfl) rfl 93 rfl dX9_tell_92 ?_
    refine r_sub [1, 0] rfl ?_
    refine g_X9_tell_L93 h0 (fun d16 => ?_) z_N 0 d12
    refine r_iconst (-1) rfl 119 rfl dX9_tell_118 ?_
    exact r_ireturn rfl rfl (Nat.le_of_ble_eq_true rfl) (Nat.le_of_ble_eq_true rfl) dX9_tell_119
  · refine r_iload_n 1 1 rfl rfl 90 rfl dX9_tell_89 ?_
    exact r_ireturn rfl rfl (Nat.le_of_ble_eq_true rfl) (Nat.le_of_ble_eq_true rfl) dX9_tell_90
def Y_X9_fault : z_Y := (RX9, cX9_fault, 1, wsX9_fault, (some .int), { frames := 0, cells := 0, slots := 0, locals := 0 }, 0, 0)
theorem ok_X9_fault : z_Ok yX9_fault Y_X9_fault 0 := ⟨⟨_, rfl⟩, rfl, rfl, rfl, by decide +kernel, by decide +kernel⟩
theorem w_X9_fault_0 : Cond.fieldLink RX9 39 "BunchTimesModel" "thrown" "I" ∈ wsX9_fault := by decide +kernel
theorem w_X9_fault_1 : ∀ w ∈ u_ws RX9 TX9 18, w ∈ wsX9_fault := by decide +kernel
theorem w_X9_fault_2 : Cond.fieldLink RX9 261 "BunchTimesModel" "fault" "I" ∈ wsX9_fault := by decide +kernel
def f_X9_fault (d : z_D) (o0 : Nat) : Option (Int32 × z_D) := z_put d o0 0 0 (fun d1 => (some ((d1 o0 15), d1)))
set_option maxHeartbeats 4000000 in
set_option maxRecDepth 100000 in
theorem c_X9_fault {E : z_E} {l : Launch} {S : z_S} (d : z_D) (o0 : Nat) (h0 : A_Model S o0) : z_Sp E l yX9_fault Y_X9_fault (cvX S) [.ref (E.2.1 + o0)] (S, d) (f_X9_fault d o0) := by
  refine z_entry (lv := [(0, .ref (E.2.1 + o0))]) (by decide) rfl rfl (Nat.le_of_ble_eq_true rfl) rfl ?_
  unfold f_X9_fault
  refine r_aload_n 0 0 rfl rfl 1 rfl dX9_fault_0 ?_
  refine r_iconst 0 rfl 2 rfl dX9_fault_1 ?_
  refine r_put (h0 0 (Nat.le_of_ble_eq_true rfl)) rfl (Nat.le_of_ble_eq_true rfl) rfl rfl w_X9_fault_1 tyX9 tyX9_ok nmX9 (Nat.le_of_ble_eq_true rfl) rfl w_X9_fault_0 rfl rfl rfl rfl rfl 5 rfl dX9_fault_2 (fun d1 => ?_)
  refine r_aload_n 0 0 rfl rfl 6 rfl dX9_fault_5 ?_
  refine r_get (h0 0 (Nat.le_of_ble_eq_true rfl)) rfl (Nat.le_of_ble_eq_true rfl) rfl rfl w_X9_fault_1 15 (Nat.le_of_ble_eq_true rfl) rfl w_X9_fault_2 (.int (d1 o0 15)) rfl 9 rfl dX9_fault_6 ?_
  exact r_ireturn rfl rfl (Nat.le_of_ble_eq_true rfl) (Nat.le_of_ble_eq_true rfl) dX9_fault_9
