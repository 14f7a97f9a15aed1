/-! 7b.lists: the lists of riders, by class and model alike -/
def Pls (ρ : Nat → Int32) (cl l r : Nat) : Bool := if l = 0 then Pon ρ 50 r else if l = 3 then Pon ρ 25 r else if l = 1 then Pon ρ 50 r && decide (1 ≤ gtv ρ 10 r cl) else Pon ρ 50 r && decide (1 ≤ gtv ρ 11 r cl)
def Tls (ρ : Nat → Int32) (cl l : Nat) : Nat → Nat → Bool := if l = 1 then T3 (fun r => gtv ρ 10 r cl) (T2 (fun r => smB (ntv ρ r) (-1) cl) (fun r => smB (plv ρ r) (-1) cl)) else if l = 2 then T3 (fun r => gtv ρ 11 r cl) (T2 (fun r => smB (ntv ρ r) (-1) cl) (fun r => smB (plv ρ r) (-1) cl)) else T2 (fun r => smB (ntv ρ r) (-1) cl) (fun r => smB (plv ρ r) (-1) cl)
theorem Tls_sto (ρ : Nat → Int32) (cl l : Nat) : STO (Tls ρ cl l) := by
  unfold Tls
  split
  · exact T3_sto (T2_sto _ _)
  · split
    · exact T3_sto (T2_sto _ _)
    · exact T2_sto _ _
theorem i_01 {v : Int32} : 0 < v ↔ 1 ≤ v := by
  rw [fa_lt, fa_le]
  have h0 : (0 : Int32).toInt = 0 := rfl
  have h1 : (1 : Int32).toInt = 1 := rfl
  omega
theorem m_isOn {d dc : z_D} {o b t n s cl l r : Nat} (h : St dc b (d (o + 1)) t n s) (hl : l ≤ 3) (hr : r < n) (hc : d (o + 1) 2 - d (o + 1) 3 = nI cl) (h8 : cl ≤ 8) : f_X9_isOn d o (nI l) (nI r) = some (b01 (Pls (d (o + 1)) cl l r = true)) := by
  have hn16 := h.1.2.1.2
  have hth := m_isThere h.1 (nI r)
  have hp50 := Pon_50 h hr
  have hthi : th (d (o + 1)) (nI r) ↔ d (o + 1) (10 + 3 * r) = 1 := by
    rw [th_iff h.1.2.1.1 hn16]
    constructor
    · rintro ⟨q, q1, q2, q3⟩
      have := (nI_eq (by omega) (by omega)).mp q2
      subst this
      exact q3
    · intro h9
      exact ⟨r, hr, rfl, h9⟩
  have g10 : f_X9_allOf d o (nI r) 10 = some (gtv (d (o + 1)) 10 r cl) := m_allOf (w := 10) (by omega) (by omega) hc h8
  have g11 : f_X9_allOf d o (nI r) 11 = some (gtv (d (o + 1)) 11 r cl) := m_allOf (w := 11) (by omega) (by omega) hc h8
  unfold f_X9_isOn
  rw [hth, x_ob, x_ifb0]
  by_cases hin : d (o + 1) (10 + 3 * r) = 1
  rotate_left
  · rw [if_neg (fun h9 => hin (hthi.mp h9)), b01_f]
    unfold Pls Pon
    intro h9
    split at h9
    · exact hin (of_decide_eq_true h9).1
    · split at h9
      · exact hin (of_decide_eq_true h9).1
      · split at h9
        · rw [Bool.and_eq_true] at h9
          exact hin (of_decide_eq_true h9.1).1
        · rw [Bool.and_eq_true] at h9
          exact hin (of_decide_eq_true h9.1).1
  rw [if_pos (hthi.mpr hin)]
  have h50 := hp50.mpr hin
  unfold Pls
  by_cases l0 : l = 0
  · rw [if_pos (show nI l = 0 by rw [l0, nI_0]), if_pos l0, b01_t h50]
  rw [if_neg (nI_ne0 (by omega) (by omega)), if_neg l0, x_let]
  by_cases l3 : l = 3
  · rw [if_pos (show nI l = 3 by rw [l3]; rfl), if_pos l3, q_r3, x_addL, x_ald _ (by omega) (by omega), show d (o + 1) (8 + 3 * r + 1) = d (o + 1) (9 + 3 * r) by rw [show 8 + 3 * r + 1 = 9 + 3 * r by omega]]
    by_cases ha : d (o + 1) (9 + 3 * r) ≤ 25
    · rw [if_pos ha, b01_t (show Pon (d (o + 1)) 25 r = true from decide_eq_true ⟨hin, fun h9 => absurd ha (Int32.not_le.mpr h9)⟩)]
    · rw [if_neg ha, x_let, if_neg (show ¬ nI l = 1 by rw [l3]; decide), if_neg (show ¬ nI l = 2 by rw [l3]; decide), b01_f (fun h9 => (of_decide_eq_true h9).2 (Int32.not_le.mp ha))]
  rw [if_neg (show ¬ nI l = 3 from fun h9 => l3 ((nI_eq (b := 3) (by omega) (by omega)).mp h9)), if_neg l3, x_let]
  by_cases l1 : l = 1
  · rw [if_pos (show nI l = 1 by rw [l1]; rfl), if_pos l1, g10, x_ob, h50]
    by_cases hg : 0 < gtv (d (o + 1)) 10 r cl
    · rw [if_pos hg, b01_t (by rw [Bool.true_and]; exact decide_eq_true (i_01.mp hg))]
    · rw [if_neg hg, if_neg (show ¬ nI l = 2 by rw [l1]; decide), b01_f (by rw [Bool.true_and]; exact fun h9 => hg (i_01.mpr (of_decide_eq_true h9)))]
  · have l2 : l = 2 := by omega
    rw [if_neg (show ¬ nI l = 1 by rw [l2]; decide), if_neg l1, if_pos (show nI l = 2 by rw [l2]; rfl), g11, x_ob, h50]
    by_cases hg : gtv (d (o + 1)) 11 r cl ≤ 0
    · rw [if_pos hg, b01_f (by rw [Bool.true_and]; exact fun h9 => absurd hg (Int32.not_le.mpr (i_01.mpr (of_decide_eq_true h9))))]
    · rw [if_neg hg, b01_t (by rw [Bool.true_and]; exact decide_eq_true (i_01.mp (Int32.not_le.mp hg)))]
theorem m_isBefore {d dc : z_D} {o b t n s cl l r x : Nat} (h : St dc b (d (o + 1)) t n s) (hl : l ≤ 3) (hr : r < 16) (hx : x < 16) (hc : d (o + 1) 2 - d (o + 1) 3 = nI cl) (hcs : cl ≤ s) : f_X9_isBefore d o (nI l) (nI r) (nI x) = some (b01 (Tls (d (o + 1)) cl l r x = true)) := by
  have hs8 := h.1.2.2.1.2
  have hah : f_X9_isAhead d o (nI r) (nI x) 0 (-1) = some (b01 (T2 (fun r => smB (ntv (d (o + 1)) r) (-1) cl) (fun r => smB (plv (d (o + 1)) r) (-1) cl) r x = true)) := by
    rw [m_isAhead hr hx hc (by omega) (fun q j hq hj => h.fpos q j hq (by omega)), Int32.sub_zero]
    rfl
  have g : ∀ w q, q < 16 → w < 12 → f_X9_allOf d o (nI q) (nI w) = some (gtv (d (o + 1)) w q cl) := fun w q hq hw => m_allOf hq hw hc (by omega)
  have fin : ∀ w, w < 12 → (l = 1 ∨ l = 2) → ok ((f_X9_isIn (nI l) 1 2).bind fun v1 => z_let (fun x_63 : Unit => ((f_X9_isAhead d o (nI r) (nI x) 0 (-1)).bind fun v2 => (z_bool v2 (some v2)))) (fun J63 => (if v1 = 0 then (J63 ()) else ((f_X9_allOf d o (nI r) (nI w)).bind fun v3 => ((f_X9_allOf d o (nI x) (nI w)).bind fun v4 => (if v3 = v4 then (J63 ()) else ((f_X9_allOf d o (nI r) (nI w)).bind fun v5 => ((f_X9_allOf d o (nI x) (nI w)).bind fun v6 => (if v5 ≤ v6 then (some 0) else (some 1))))))))))  (fun v => v = b01 (T3 (fun r => gtv (d (o + 1)) w r cl) (T2 (fun r => smB (ntv (d (o + 1)) r) (-1) cl) (fun r => smB (plv (d (o + 1)) r) (-1) cl)) r x = true)) := by
    intro w hw hl2
    rw [x_wi, x_ob, x_let, x_ifb0, if_pos (show 1 ≤ nI l ∧ nI l ≤ 2 from ⟨(nI_leI (a := 1) (by omega) (by omega)).mpr (by omega), (nI_leI (b := 2) (by omega) (by omega)).mpr (by omega)⟩), g w r hr hw, x_ob, g w x hx hw, x_ob]
    unfold T3
    show ok (if gtv (d (o + 1)) w r cl = gtv (d (o + 1)) w x cl then _ else _) (fun v => v = b01 ((if gtv (d (o + 1)) w r cl = gtv (d (o + 1)) w x cl then _ else decide (gtv (d (o + 1)) w x cl < gtv (d (o + 1)) w r cl)) = true))
    by_cases he : gtv (d (o + 1)) w r cl = gtv (d (o + 1)) w x cl
    · rw [if_pos he, if_pos he, hah, x_ob, x_bl b01_b, ok_s]
    · rw [if_neg he, if_neg he, x_ob, x_ob]
      by_cases hle : gtv (d (o + 1)) w r cl ≤ gtv (d (o + 1)) w x cl
      · rw [if_pos hle, ok_s, b01_f (by rw [decide_eq_true_iff]; exact Int32.not_lt.mpr hle)]
      · rw [if_neg hle, ok_s, b01_t (by rw [decide_eq_true_iff]; exact Int32.not_le.mp hle)]
  rw [← ok_e]
  unfold f_X9_isBefore
  rw [x_let]
  by_cases l1 : l = 1
  · rw [if_pos (show nI l = 1 by rw [l1]; rfl)]
    have := fin 10 (by omega) (Or.inl l1)
    unfold Tls
    rw [if_pos l1]
    exact this
  rw [if_neg (show ¬ nI l = 1 from fun h9 => l1 ((nI_eq (b := 1) (by omega) (by omega)).mp h9))]
  by_cases l2 : l = 2
  · have := fin 11 (by omega) (Or.inr l2)
    unfold Tls
    rw [if_neg l1, if_pos l2]
    exact this
  · unfold Tls
    rw [if_neg l1, if_neg l2]
    show ok ((f_X9_isIn (nI l) 1 2).bind _) _
    rw [x_wi, x_ob, x_let, x_ifb0, if_neg (show ¬ (1 ≤ nI l ∧ nI l ≤ 2) from fun h9 => by
      have a := (nI_leI (a := 1) (by omega) (by omega)).mp h9.1
      have b := (nI_leI (b := 2) (by omega) (by omega)).mp h9.2
      omega)]
    rw [hah, x_ob, x_bl b01_b, ok_s]
