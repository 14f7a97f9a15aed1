/-! 9a.loop: the law's switch and its loop -/
theorem lw_and (a b : Nat) : nI a &&& nI b = nI (a &&& b) := by
  apply Int32.toBitVec_inj.1
  show BitVec.ofNat 32 a &&& BitVec.ofNat 32 b = BitVec.ofNat 32 (a &&& b)
  apply BitVec.eq_of_getLsbD_eq
  intro i hi
  simp [hi]
theorem lw_mask (x : Int32) : ∃ j, j < 64 ∧ x &&& 63 = nI j := by
  have e : x = nI x.toBitVec.toNat := by
    apply Int32.toBitVec_inj.1
    show x.toBitVec = BitVec.ofNat 32 x.toBitVec.toNat
    simp
  refine ⟨x.toBitVec.toNat % 64, Nat.mod_lt _ (by omega), ?_⟩
  have h : nI x.toBitVec.toNat &&& nI 63 = nI (x.toBitVec.toNat % 64) := by
    rw [lw_and, show (63 : Nat) = 2 ^ 6 - 1 from rfl, Nat.and_two_pow_sub_one_eq_mod]
  rw [← e] at h
  exact h
theorem lw_rc : room_1.cells = 187488 := rfl
theorem lw_rs : room_1.slots = 8533642 := rfl
theorem lw_step {n a r M : Nat} (h : n + a * (r + 1) ≤ M) : n + a ≤ M ∧ (n + a) + a * r ≤ M := by
  rw [Nat.mul_add, Nat.mul_one] at h
  have e : n + a + a * r = n + (a * r + a) := by rw [Nat.add_assoc, Nat.add_comm a]
  exact ⟨Nat.le_trans (Nat.add_le_add_left (Nat.le_add_left a (a * r)) n) h, by rw [e]; exact h⟩
theorem lw_small : ∀ L, L < 6 → ∀ i, i < 6 → nI L - 6 < nI i := by decide +kernel
theorem lw_more {i L : Nat} (hL : L ≤ 3072) (hi : i ≤ L) (h : ¬ nI L - 6 < nI i) : i + 6 ≤ L := by
  rcases Nat.lt_or_ge L 6 with q | q
  · exact absurd (lw_small L q i (by omega)) h
  · have e : nI L - 6 = nI (L - 6) := x_subL L 6 q
    rw [e, nI_ltI (by omega) (by omega)] at h
    omega
section
variable {E : z_E} {l : Launch} {p : Program} {e : Env} {s : State} {m : MethodId} {below : List Frame} {meth : Method} {c : Code} {b L i : Nat} {xs : Nat → Int32} {Q : State → Prop} {H : Heap} {locs : List Loc} {k n : Nat} {ls : Array Slot} {S : z_S} {d : z_D} {rf : Nat → Option Nat}
/-- a branch of the switch -/
theorem lw_sw (j : Nat) {dflt : Int} {offs : Array Int} {len : Nat} {off : Int} (tgt : Nat) (F : lw_C E p s m c b L xs) (hj : j ≤ 33) (hd : decode cL_law 40 = .ok (.tableswitch dflt 0 33 offs, len)) (ho : offs[j]? = some off) (ht : ((40 : Nat) : Int) + off = (tgt : Int)) (K : W p l e room_1 s m #[Value.ref b] below meth c H locs k n Q (F0 m tgt ls [])) : W p l e room_1 s m #[Value.ref b] below meth c H locs k n Q (F0 m 40 ls [.int (nI j)]) := by
  have e1 : (nI j).toInt = (j : Int) := nI_toInt (by omega)
  refine lv_tableIn F.1.1 F.1.2.1 hd (by rw [e1]; omega) (by rw [e1]; omega) (by rw [e1, Int.sub_zero]; exact ho) ht K
theorem lw_swD (j : Nat) {dflt : Int} {offs : Array Int} {len : Nat} (tgt : Nat) (F : lw_C E p s m c b L xs) (hj : 33 < j) (h64 : j < 64) (hd : decode cL_law 40 = .ok (.tableswitch dflt 0 33 offs, len)) (ht : ((40 : Nat) : Int) + dflt = (tgt : Int)) (K : W p l e room_1 s m #[Value.ref b] below meth c H locs k n Q (F0 m tgt ls [])) : W p l e room_1 s m #[Value.ref b] below meth c H locs k n Q (F0 m 40 ls [.int (nI j)]) := by
  have e1 : (nI j).toInt = (j : Int) := nI_toInt (by omega)
  refine lv_tableOut F.1.1 F.1.2.1 hd (Or.inr (by rw [e1]; omega)) ht K
/-- one call of the script -/
theorem lw_case (hlf : l.stackTraces = false) (hX : z_X E s s.heap) (F : lw_C E p s m c b L xs) (hI : z_I S d rf) (hi : i + 6 ≤ L) (hkn : k + 173 ≤ room_1.cells ∧ n + 3010 ≤ room_1.slots) (hH : z_H E (S, d) H) (hS : va_S (z_A E) s.heap H locs) (hl : lv_has ls 7 (lw_lv E b i)) (K : ∀ (S2 : z_S) (d2 : z_D) (rf2 : Nat → Option Nat) (H1 : Heap) (locs1 : List Loc) (ls2 : Array Slot), z_I S2 d2 rf2 → z_H E (S2, d2) H1 → va_S (z_A E) s.heap H1 locs1 → lv_has ls2 7 (lw_lv E b i) → W p l e room_1 s m #[Value.ref b] below meth c H1 locs1 (k + 173) (n + 3010) Q (F0 m 1405 ls2 [])) : W p l e room_1 s m #[Value.ref b] below meth c H locs k n Q (F0 m 33 ls []) := by
  have hL := F.2.2.2.2.2.2
  have hbA : ¬ z_A E b := by
    show ¬ E.2.1 ≤ b
    rw [F.2.2.2.1]
    exact Nat.not_le.mpr F.2.2.2.2.2.1
  have hk0 : k ≤ room_1.cells ∧ n ≤ room_1.slots := ⟨by omega, by omega⟩
  have hk1 : k + 1 ≤ room_1.cells ∧ n + 6 ≤ room_1.slots := ⟨by omega, by omega⟩
  have K0 : ∀ (d2 : z_D) (H1 : Heap) (locs1 : List Loc), z_I S d2 rf → z_H E (S, d2) H1 → va_S (z_A E) s.heap H1 locs1 → W p l e room_1 s m #[Value.ref b] below meth c H1 locs1 k n Q (F0 m 1405 ls []) := fun d2 H1 locs1 h1 h2 h3 => W.widen (Nat.le_add_right _ _) (Nat.le_add_right _ _) (K S d2 rf H1 locs1 ls h1 h2 h3 hl)
  refine lv_aload_n F.1.1 F.1.2.1 dL_law_33 rfl (lv_at hl 0 rfl) ?_
  refine lv_iload F.1.1 F.1.2.1 dL_law_34 (lv_at hl 4 rfl) ?_
  refine va_sld F.1.1 F.1.2.1 F.2.2.2.2.1 F.2.2.2.2.2.1 hbA hS (vp_in_nI (show i < L by omega) (by omega)) dL_law_36 ?_
  refine lv_bipush (v := 63) F.1.1 F.1.2.1 dL_law_37 rfl ?_
  refine lv_iand F.1.1 F.1.2.1 dL_law_39 ?_
  obtain ⟨j, hj, ej⟩ := lw_mask (xs (nI i).toNatClampNeg)
  rw [ej]
  show W p l e room_1 s m #[Value.ref b] below meth c H locs k n Q (F0 m 40 ls [.int (nI j)])
  rcases Nat.lt_or_ge 33 j with h33 | h33
  · exact lw_swD j 1405 F h33 hj dL_law_40 rfl (K0 _ _ _ hI hH hS)
  · rcases (show j = 0 ∨ j = 1 ∨ j = 2 ∨ j = 3 ∨ j = 4 ∨ j = 5 ∨ j = 6 ∨ j = 7 ∨ j = 8 ∨ j = 9 ∨ j = 10 ∨ j = 11 ∨ j = 12 ∨ j = 13 ∨ j = 14 ∨ j = 15 ∨ j = 16 ∨ j = 17 ∨ j = 18 ∨ j = 19 ∨ j = 20 ∨ j = 21 ∨ j = 22 ∨ j = 23 ∨ j = 24 ∨ j = 25 ∨ j = 26 ∨ j = 27 ∨ j = 28 ∨ j = 29 ∨ j = 30 ∨ j = 31 ∨ j = 32 ∨ j = 33 by omega) with rfl | rfl | rfl | rfl | rfl | rfl | rfl | rfl | rfl | rfl | rfl | rfl | rfl | rfl | rfl | rfl | rfl | rfl | rfl | rfl | rfl | rfl | rfl | rfl | rfl | rfl | rfl | rfl | rfl | rfl | rfl | rfl | rfl | rfl
    · exact lw_sw 0 192 F (by decide) dL_law_40 rfl rfl (lc_feed F hI hi hk0 hH hS hl K0)
    · exact lw_sw 1 265 F (by decide) dL_law_40 rfl rfl (lc_end F hI hi hk0 hH hS hl K0)
    · exact lw_sw 2 290 F (by decide) dL_law_40 rfl rfl (lc_tell F hI hi hk0 hH hS hl K0)
    · exact lw_sw 3 303 F (by decide) dL_law_40 rfl rfl (lc_fault F hI hi hk0 hH hS hl K0)
    · exact lw_sw 4 316 F (by decide) dL_law_40 rfl rfl (lc_team F hI hi hk0 hH hS hl K0)
    · exact lw_sw 5 329 F (by decide) dL_law_40 rfl rfl (lc_rider F hI hi hk0 hH hS hl K0)
    · exact lw_sw 6 366 F (by decide) dL_law_40 rfl rfl (lc_stage F hI hi hk0 hH hS hl K0)
    · exact lw_sw 7 403 F (by decide) dL_law_40 rfl rfl (lc_mark F hI hi hk0 hH hS hl K0)
    · exact lw_sw 8 440 F (by decide) dL_law_40 rfl rfl (lc_finish F hI hi hk0 hH hS hl K0)
    · exact lw_sw 9 477 F (by decide) dL_law_40 rfl rfl (lc_over F hI hi hk0 hH hS hl K0)
    · exact lw_sw 10 514 F (by decide) dL_law_40 rfl rfl (lc_fall F hI hi hk0 hH hS hl K0)
    · exact lw_sw 11 563 F (by decide) dL_law_40 rfl rfl (lc_jury F hI hi hk0 hH hS hl K0)
    · exact lw_sw 12 600 F (by decide) dL_law_40 rfl rfl (lc_grace F hI hi hk0 hH hS hl K0)
    · exact lw_sw 13 625 F (by decide) dL_law_40 rfl rfl (lc_quit F hI hi hk0 hH hS hl K0)
    · exact lw_sw 14 650 F (by decide) dL_law_40 rfl rfl (lc_rule F hI hi hk0 hH hS hl K0)
    · exact lw_sw 15 687 F (by decide) dL_law_40 rfl rfl (lc_close F hI hi hk0 hH hS hl K0)
    · exact lw_sw 16 700 F (by decide) dL_law_40 rfl rfl (lc_keep F hI hi hkn hH hS hl (fun S2 d2 rf2 H1 locs1 h1 h2 h3 => K S2 d2 rf2 H1 locs1 ls h1 h2 h3 hl))
    · exact lw_sw 17 725 F (by decide) dL_law_40 rfl rfl (lc_back F hI hi hk0 hH hS hl K0)
    · exact lw_sw 18 750 F (by decide) dL_law_40 rfl rfl (lc_count F hI hi hk0 hH hS hl K0)
    · exact lw_sw 19 775 F (by decide) dL_law_40 rfl rfl (lc_of hlf hX F hI hi hk1 hH hS hl (fun S2 d2 H1 locs1 ls2 h1 h2 h3 h4 => W.widen (by omega) (by omega) (K S2 d2 rf H1 locs1 ls2 h1 h2 h3 h4)))
    · exact lw_sw 20 843 F (by decide) dL_law_40 rfl rfl (lc_told F hI hi hk0 hH hS hl K0)
    · exact lw_sw 21 880 F (by decide) dL_law_40 rfl rfl (lc_order F hI hi hk0 hH hS hl K0)
    · exact lw_sw 22 917 F (by decide) dL_law_40 rfl rfl (lc_result F hI hi hk0 hH hS hl K0)
    · exact lw_sw 23 966 F (by decide) dL_law_40 rfl rfl (lc_parted F hI hi hk0 hH hS hl K0)
    · exact lw_sw 24 1003 F (by decide) dL_law_40 rfl rfl (lc_together F hI hi hk0 hH hS hl K0)
    · exact lw_sw 25 1028 F (by decide) dL_law_40 rfl rfl (lc_escaped F hI hi hk0 hH hS hl K0)
    · exact lw_sw 26 1053 F (by decide) dL_law_40 rfl rfl (lc_list F hI hi hk0 hH hS hl K0)
    · exact lw_sw 27 1090 F (by decide) dL_law_40 rfl rfl (lc_total F hI hi hk0 hH hS hl K0)
    · exact lw_sw 28 1143 F (by decide) dL_law_40 rfl rfl (lc_jersey F hI hi hk0 hH hS hl K0)
    · exact lw_sw 29 1196 F (by decide) dL_law_40 rfl rfl (lc_needs F hI hi hk0 hH hS hl K0)
    · exact lw_sw 30 1221 F (by decide) dL_law_40 rfl rfl (lc_without F hI hi hk0 hH hS hl K0)
    · exact lw_sw 31 1246 F (by decide) dL_law_40 rfl rfl (lc_caught F hI hi hk0 hH hS hl K0)
    · exact lw_sw 32 1307 F (by decide) dL_law_40 rfl rfl (lc_holds F hI hi hk0 hH hS hl K0)
    · exact lw_sw 33 1356 F (by decide) dL_law_40 rfl rfl (lc_chase F hI hi hk0 hH hS hl K0)
/-- the law's loop -/
theorem lw_loop (hlf : l.stackTraces = false) (hX : z_X E s s.heap) (F : lw_C E p s m c b L xs) (hr : meth.sig.returnType = ret) (hlk : meth.locks = false) : ∀ (r i : Nat) (S : z_S) (d : z_D) (rf : Nat → Option Nat) (H : Heap) (locs : List Loc) (k n : Nat) (ls : Array Slot), L < i + 6 * r → i ≤ L → k + 173 * r ≤ 187488 → n + 3010 * r ≤ 8533642 → z_I S d rf → z_H E (S, d) H → va_S (z_A E) s.heap H locs → lv_has ls 7 (lw_lv E b i) → W p l e room_1 s m #[Value.ref b] below meth c H locs k n (lw_Z below #[Value.ref b] s) (F0 m 23 ls []) := by
  intro r
  induction r with
  | zero => intro i S d rf H locs k n ls h1 h2; omega
  | succ r ih =>
    intro i S d rf H locs k n ls h1 h2 h3 h4 hI hH hS hl
    have hL := F.2.2.2.2.2.2
    have hbA : ¬ z_A E b := by
      show ¬ E.2.1 ≤ b
      rw [F.2.2.2.1]
      exact Nat.not_le.mpr F.2.2.2.2.2.1
    refine lv_iload F.1.1 F.1.2.1 dL_law_23 (lv_at hl 4 rfl) ?_
    refine lv_aload_n F.1.1 F.1.2.1 dL_law_25 rfl (lv_at hl 0 rfl) ?_
    refine va_slen F.1.1 F.1.2.1 F.2.2.2.2.1 F.2.2.2.2.2.1 hbA hS dL_law_26 ?_
    refine lv_bipush (v := 6) F.1.1 F.1.2.1 dL_law_27 rfl ?_
    refine lv_isub F.1.1 F.1.2.1 dL_law_29 ?_
    refine lv_icmp_gt (tgt := 1411) F.1.1 F.1.2.1 dL_law_30 (by decide) (fun _ => ?_) (fun hc => ?_)
    · refine lv_iconst (v := 1) F.1.1 F.1.2.1 dL_law_1411 rfl ?_
      refine va_forget (fun q hq => by have := hS.2.2 q hq; rw [← F.2.2.2.1]; exact this) ?_
      refine W.widen (k := 187488) (n := 8533642) (Nat.le_trans (Nat.le_add_right _ _) h3) (Nat.le_trans (Nat.le_add_right _ _) h4) ?_
      exact lw_ret F.1.1 F.1.2.1 hr hlk dL_law_1412
    · have hi : i + 6 ≤ L := lw_more hL h2 hc
      refine lw_case hlf hX F hI hi ⟨by rw [lw_rc]; exact (lw_step h3).1, by rw [lw_rs]; exact (lw_step h4).1⟩ hH hS hl (fun S2 d2 rf2 H1 locs1 ls2 g1 g2 g3 g4 => ?_)
      refine lv_iinc (v := nI (i + 6)) (lv' := [(4, .int (nI (i + 6))), (0, .ref b), (1, .ref (E.2.1 + 0)), (2, .ref (E.2.1 + 355)), (3, .ref (E.2.1 + 365))]) F.1.1 F.1.2.1 dL_law_1405 g4 (k := 4) rfl (nI_add i 6) (by decide) rfl (fun ls3 hl3 => ?_)
      refine lv_goto (tgt := 23) F.1.1 F.1.2.1 dL_law_1408 (by decide) ?_
      exact ih (i + 6) S2 d2 rf2 H1 locs1 (k + 173) (n + 3010) ls3 (by omega) hi (lw_step h3).2 (lw_step h4).2 g1 g2 g3 (lv_sub hl3 [1, 2, 3, 4, 0] rfl)
end
