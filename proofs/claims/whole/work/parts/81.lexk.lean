/-! 81.lexk: the class's tape -/
theorem k_kindAt {d : z_D} {c L p : Nat} {B : Nat → Int32} (hB : ∀ i, i < 600 → d (c + 1) i = B i) (hL : L ≤ 600) (h1 : d c 1 = nI L) (hp : p ≤ 600) : f_X6_kindAt d c (nI p) = some (nI (kA B L p)) := by
  unfold f_X6_kindAt
  rw [h1]
  by_cases h : p < L
  rotate_left
  · rw [if_neg (fun h9 => h ((nI_ltI (by omega) (by omega)).mp h9)), kA_out h]
    exact congrArg some nI_0.symm
  rw [if_pos ((nI_ltI (by omega) (by omega)).mpr h), x_ald _ (by omega) (by omega), kA_in h, hB p (by omega)]
  generalize B p = x
  unfold kd
  by_cases b1 : x = 32
  · rw [if_pos b1, if_pos (Or.inl b1)]
    rfl
  by_cases b2 : x = 10
  · rw [if_neg b1, if_pos b2, if_pos (Or.inr b2)]
    rfl
  have b12 : ¬ (x = 32 ∨ x = 10) := fun h9 => h9.elim b1 b2
  rw [if_neg b1, if_neg b2, if_neg b12, x_let]
  have J : ¬ (97 ≤ x ∧ x ≤ 122) → (z_let (fun x_59 : Unit => (if x = 59 then (some (3 : Int32)) else (some 5))) (fun J59 => (if x < 48 then (J59 ()) else (if 57 < x then (J59 ()) else (some 2))))) = some (nI (if 97 ≤ x ∧ x ≤ 122 then 1 else if 48 ≤ x ∧ x ≤ 57 then 2 else if x = 59 then 3 else 5)) := fun hn => by
    rw [if_neg hn, x_let]
    have J2 : ¬ (48 ≤ x ∧ x ≤ 57) → (if x = 59 then (some (3 : Int32)) else (some 5)) = some (nI (if 48 ≤ x ∧ x ≤ 57 then 2 else if x = 59 then 3 else 5)) := fun hn2 => by
      rw [if_neg hn2]
      by_cases b3 : x = 59
      · rw [if_pos b3, if_pos b3]
        rfl
      · rw [if_neg b3, if_neg b3]
        rfl
    by_cases b4 : x < 48
    · rw [if_pos b4]
      exact J2 (fun h9 => absurd b4 (Int32.not_lt.mpr h9.1))
    · rw [if_neg b4]
      by_cases b5 : 57 < x
      · rw [if_pos b5]
        exact J2 (fun h9 => absurd b5 (Int32.not_lt.mpr h9.2))
      · rw [if_neg b5, if_pos ⟨Int32.not_lt.mp b4, Int32.not_lt.mp b5⟩]
        rfl
  by_cases b6 : x < 97
  · rw [if_pos b6]
    exact J (fun h9 => absurd b6 (Int32.not_lt.mpr h9.1))
  · rw [if_neg b6]
    by_cases b7 : 122 < x
    · rw [if_pos b7]
      exact J (fun h9 => absurd b7 (Int32.not_lt.mpr h9.2))
    · rw [if_neg b7, if_pos ⟨Int32.not_lt.mp b6, Int32.not_lt.mp b7⟩]
      rfl
/-- what reading the tape may change -/
def Ft (c : Nat) (d d' : z_D) : Prop := (∀ a, ¬ a = c → d' a = d a) ∧ ∀ k, ¬ k = 2 → ¬ k = 3 → ¬ k = 4 → ¬ k = 5 → d' c k = d c k
theorem Ft.rf {c : Nat} {d : z_D} : Ft c d d := ⟨fun _ _ => rfl, fun _ _ _ _ _ => rfl⟩
theorem Ft.tr {c : Nat} {d d' d'' : z_D} (h : Ft c d d') (h2 : Ft c d' d'') : Ft c d d'' := ⟨fun a ha => by rw [h2.1 a ha, h.1 a ha], fun k a b e f => by rw [h2.2 k a b e f, h.2 k a b e f]⟩
theorem Ft.u {c k : Nat} {d : z_D} {v : Int32} (h : k = 2 ∨ k = 3 ∨ k = 4 ∨ k = 5) : Ft c d (z_up d c k v) := ⟨fun a ha => u_a ha, fun j a b e f => u_k (by omega)⟩
/-- the tape stands at what begins at q -/
def TK (d : z_D) (c : Nat) (B : Nat → Int32) (L q : Nat) : Prop := q ≤ L ∧ ¬ kA B L q = 4 ∧ d c 3 = nI q ∧ d c 2 = nI (tk B L q) ∧ d c 4 = nI (nx B L q)
theorem TK.congr {d d' : z_D} {c L q : Nat} {B : Nat → Int32} (h : TK d c B L q) (e : d' c = d c) : TK d' c B L q := by
  unfold TK
  rw [e]
  exact h
theorem k_adv0 {d : z_D} {c L p : Nat} {B : Nat → Int32} {K : z_D → Option z_D} {Q : z_D → Prop} (hB : ∀ i, i < 600 → d (c + 1) i = B i) (hL : L ≤ 600) (h1 : d c 1 = nI L) (h4 : d c 4 = nI p) (hp : p ≤ L) (hK : ∀ e : z_D, (∀ a k, ¬ (a = c ∧ k = 4) → e a k = d a k) → e c 4 = nI (rk 4 B L p) → ok (K e) Q) : ok (f_X6_advance_L0 c K z_N d) Q := by
  refine zl1 (f_X6_advance_L0_b c K) (fun _ => rfl) (fun m e => ∃ i, m + i = L ∧ rk 4 B L i = rk 4 B L p ∧ e c 4 = nI i ∧ ∀ a k, ¬ (a = c ∧ k = 4) → e a k = d a k) ?_ (L - p) z_N _ ⟨p, by omega, rfl, h4, fun _ _ _ => rfl⟩ (ltz (by omega))
  rintro R m e ⟨i, hm, hr, e4, f1⟩ ih
  unfold f_X6_advance_L0_b
  have e1 : e c 1 = nI L := by rw [f1 _ _ (by omega), h1]
  have eB : ∀ i, i < 600 → e (c + 1) i = B i := fun i hi => by rw [f1 _ _ (by omega), hB i hi]
  rw [e1, e4]
  by_cases hi : i = L
  · subst hi
    rw [if_pos ((nI_leI (by omega) (by omega)).mpr (Nat.le_refl _))]
    refine hK e f1 ?_
    rw [e4, ← hr, rk_x (by rw [kA_out (by omega)]; omega)]
  have hin : i < L := by omega
  rw [if_neg (nI_ge (by omega) (by omega)), k_kindAt eB hL e1 (by omega), x_ob]
  by_cases h : kA B L i = 4
  · rw [if_pos (show nI (kA B L i) = 4 by rw [h]; rfl), x_put, x_addL]
    refine ih (m - 1) _ (by omega) ⟨i + 1, by omega, ?_, u_s _ _ _ _, fun a k hk => ?_⟩
    · rw [← hr, rk_s (p := i) (by omega) h]
    · rw [x_un hk, f1 a k hk]
  · have := kA_5 B L i
    rw [if_neg (show ¬ nI (kA B L i) = 4 from fun h9 => h ((nI_eq (b := 4) (by omega) (by omega)).mp h9))]
    refine hK e f1 ?_
    rw [e4, ← hr, rk_x h]
theorem k_adv93 {d : z_D} {c L p t : Nat} {B : Nat → Int32} {K : z_D → Option z_D} {Q : z_D → Prop} (hB : ∀ i, i < 600 → d (c + 1) i = B i) (hL : L ≤ 600) (h1 : d c 1 = nI L) (h4 : d c 4 = nI p) (h2 : d c 2 = nI t) (ht : 0 < t) (ht5 : t ≤ 5) (hp : p ≤ L) (hK : ∀ e : z_D, (∀ a k, ¬ (a = c ∧ k = 4) → e a k = d a k) → e c 4 = nI (rk t B L p) → ok (K e) Q) : ok (f_X6_advance_L93 c K z_N d) Q := by
  refine zl1 (f_X6_advance_L93_b c K) (fun _ => rfl) (fun m e => ∃ i, m + i = L ∧ rk t B L i = rk t B L p ∧ e c 4 = nI i ∧ ∀ a k, ¬ (a = c ∧ k = 4) → e a k = d a k) ?_ (L - p) z_N _ ⟨p, by omega, rfl, h4, fun _ _ _ => rfl⟩ (ltz (by omega))
  rintro R m e ⟨i, hm, hr, e4, f1⟩ ih
  unfold f_X6_advance_L93_b
  have e1 : e c 1 = nI L := by rw [f1 _ _ (by omega), h1]
  have e2 : e c 2 = nI t := by rw [f1 _ _ (by omega), h2]
  have eB : ∀ i, i < 600 → e (c + 1) i = B i := fun i hi => by rw [f1 _ _ (by omega), hB i hi]
  rw [e1, e4, e2]
  by_cases hi : i = L
  · subst hi
    rw [if_pos ((nI_leI (by omega) (by omega)).mpr (Nat.le_refl _))]
    refine hK e f1 ?_
    rw [e4, ← hr, rk_x (by rw [kA_out (by omega)]; omega)]
  have hin : i < L := by omega
  rw [if_neg (nI_ge (by omega) (by omega)), k_kindAt eB hL e1 (by omega), x_ob]
  have := kA_5 B L i
  by_cases h : kA B L i = t
  · rw [if_pos (by rw [h]), x_put, x_addL]
    refine ih (m - 1) _ (by omega) ⟨i + 1, by omega, ?_, u_s _ _ _ _, fun a k hk => ?_⟩
    · rw [← hr, rk_s (p := i) (by omega) h]
    · rw [x_un hk, f1 a k hk]
  · rw [if_neg (fun h9 => h ((nI_eq (by omega) (by omega)).mp h9))]
    refine hK e f1 ?_
    rw [e4, ← hr, rk_x h]
theorem k_advance {d : z_D} {c L p : Nat} {B : Nat → Int32} (hB : ∀ i, i < 600 → d (c + 1) i = B i) (hL : L ≤ 600) (h1 : d c 1 = nI L) (h4 : d c 4 = nI p) (hp : p ≤ L) : ok (f_X6_advance d c) (fun d' => Ft c d d' ∧ d' c 5 = d c 5 ∧ TK d' c B L (rk 4 B L p)) := by
  unfold f_X6_advance
  refine k_adv0 hB hL h1 h4 hp (fun e f1 e4 => ?_)
  have hr := rk_i (k := 4) (B := B) (L := L) (p := p) (by omega)
  have hq := hr.2.1 hp
  have hn4 := hr.2.2.2
  generalize rk 4 B L p = q at *
  have k5 := kA_5 B L q
  have hE1 : (z_up e c 3 (nI q)) c 1 = nI L := by rw [x_un (by omega), f1 _ _ (by omega), h1]
  have hEB : ∀ i, i < 600 → (z_up e c 3 (nI q)) (c + 1) i = B i := fun i hi => by rw [u_a (by omega), f1 _ _ (by omega), hB i hi]
  rw [x_put, e4]
  have hkq := k_kindAt (d := z_up e c 3 (nI q)) (c := c) (L := L) (p := q) hEB hL hE1 (by omega)
  rw [u_s, hkq, x_ob, x_put, x_let]
  generalize hd6 : z_up (z_up e c 3 (nI q)) c 2 (nI (kA B L q)) = d6
  have g1 : ∀ a k, ¬ (a = c ∧ (k = 2 ∨ k = 3 ∨ k = 4)) → d6 a k = d a k := fun a k hk => by rw [← hd6, x_un (by omega), x_un (by omega), f1 _ _ (by omega)]
  have g2 : d6 c 2 = nI (kA B L q) := by rw [← hd6]; exact u_s _ _ _ _
  have g3 : d6 c 3 = nI q := by rw [← hd6, x_un (by omega)]; exact u_s _ _ _ _
  have g4 : d6 c 4 = nI q := by rw [← hd6, x_un (by omega), x_un (by omega)]; exact e4
  have g6 : d6 c 1 = nI L := by rw [g1 _ _ (by omega), h1]
  have gB : ∀ i, i < 600 → d6 (c + 1) i = B i := fun i hi => by rw [g1 _ _ (by omega), hB i hi]
  have fin : ∀ x : z_D, (∀ a k, ¬ (a = c ∧ k = 4) → x a k = d6 a k) → x c 4 = nI (nx B L q) → ok (if x c 2 = 2 then (if x c 4 - x c 3 ≤ 6 then some x else z_put x c 2 5 (fun d7 => some d7)) else some x) (fun d' => Ft c d d' ∧ d' c 5 = d c 5 ∧ TK d' c B L q) := fun x hx x4 => by
    have x2 : x c 2 = nI (kA B L q) := by rw [hx _ _ (by omega), g2]
    have x3 : x c 3 = nI q := by rw [hx _ _ (by omega), g3]
    have hnl := nx_le (B := B) (L := L) (q := q) hq
    have fr : Ft c d x := ⟨fun a ha => by funext k; rw [hx _ _ (by omega), g1 _ _ (by omega)], fun k a b e' f => by rw [hx _ _ (by omega), g1 _ _ (by omega)]⟩
    have x5 : x c 5 = d c 5 := by rw [hx _ _ (by omega), g1 _ _ (by omega)]
    rw [x2, x3, x4, pk_sub hnl.1]
    by_cases b1 : kA B L q = 2
    · rw [if_pos (show nI (kA B L q) = 2 by rw [b1]; rfl)]
      by_cases b2 : nx B L q - q ≤ 6
      · rw [if_pos (show nI (nx B L q - q) ≤ 6 from (nI_leI (b := 6) (by omega) (by omega)).mpr b2), ok_s]
        exact ⟨fr, x5, hq, hn4, x3, by rw [x2, tk_n (fun h9 => by omega)], x4⟩
      · rw [if_neg (show ¬ nI (nx B L q - q) ≤ 6 from fun h9 => b2 ((nI_leI (b := 6) (by omega) (by omega)).mp h9)), x_put, ok_s]
        exact ⟨fr.tr (Ft.u (Or.inl rfl)), by rw [u_k (by omega), x5], hq, hn4, by rw [u_k (by omega), x3], by rw [u_s, tk_y b1 (by omega)]; rfl, by rw [u_k (by omega), x4]⟩
    · rw [if_neg (show ¬ nI (kA B L q) = 2 from fun h9 => b1 ((nI_eq (b := 2) (by omega) (by omega)).mp h9)), ok_s]
      exact ⟨fr, x5, hq, hn4, x3, by rw [x2, tk_n (fun h9 => b1 h9.1)], x4⟩
  rw [g2]
  by_cases b3 : kA B L q = 3
  · rw [if_pos (show nI (kA B L q) = 3 by rw [b3]; rfl), x_put]
    refine fin _ (fun a k hk => x_un hk) ?_
    rw [u_s, g4, nI_1, nx_3 b3]
  rw [if_neg (show ¬ nI (kA B L q) = 3 from fun h9 => b3 ((nI_eq (b := 3) (by omega) (by omega)).mp h9))]
  by_cases b1 : kA B L q = 1
  · rw [if_pos (show nI (kA B L q) = 1 by rw [b1]; rfl)]
    refine k_adv93 gB hL g6 g4 (t := 1) (by rw [g2, b1]) (by omega) (by omega) hq (fun x hx x4 => fin x hx ?_)
    rw [x4, nx_1 b1]
  rw [if_neg (show ¬ nI (kA B L q) = 1 from fun h9 => b1 ((nI_eq (b := 1) (by omega) (by omega)).mp h9))]
  by_cases b2 : kA B L q = 2
  · rw [if_pos (show nI (kA B L q) = 2 by rw [b2]; rfl)]
    refine k_adv93 gB hL g6 g4 (t := 2) (by rw [g2, b2]) (by omega) (by omega) hq (fun x hx x4 => fin x hx ?_)
    rw [x4, nx_2 b2]
  rw [if_neg (show ¬ nI (kA B L q) = 2 from fun h9 => b2 ((nI_eq (b := 2) (by omega) (by omega)).mp h9))]
  exact fin d6 (fun _ _ _ => rfl) (by rw [g4, nx_0 b3 b1 b2])
/-- behind what begins at q -/
def sx (B : Nat → Int32) (L q : Nat) : Nat := rk 4 B L (nx B L q)
theorem k_next {d : z_D} {c L q : Nat} {B : Nat → Int32} (hL : L ≤ 600) (h1 : d c 1 = nI L) (hB : ∀ i, i < 600 → d (c + 1) i = B i) (h : TK d c B L q) : ok (f_X6_advance d c) (fun d' => Ft c d d' ∧ d' c 5 = d c 5 ∧ TK d' c B L (sx B L q)) := by
  have hn := nx_le (B := B) (L := L) (q := q) h.1
  exact k_advance hB hL h1 h.2.2.2.2 hn.2
theorem k_takes0 {d : z_D} {c w : Nat} (h5 : ¬ d c 5 = 0) : f_X6_takes d c w = some (0, d) := by
  unfold f_X6_takes
  rw [if_neg h5]
theorem k_takes {d : z_D} {c L q w : Nat} {B : Nat → Int32} (hw : w < 20) (hL : L ≤ 600) (h1 : d c 1 = nI L) (hB : ∀ i, i < 600 → d (c + 1) i = B i) (h : TK d c B L q) (h5 : d c 5 = 0) : ok (f_X6_takes d c w) (fun v => (isW B L q w ∧ v.1 = 1 ∧ Ft c d v.2 ∧ v.2 c 5 = 0 ∧ TK v.2 c B L (sx B L q)) ∨ (¬ isW B L q w ∧ v = (0, d))) := by
  obtain ⟨hq, t4, t3, t2, tn⟩ := id h
  obtain ⟨z1, z2, z3⟩ := wz_all w hw
  have hn := nx_le (B := B) (L := L) (q := q) hq
  have hk5 := tk_5 B L q
  unfold f_X6_takes
  rw [if_pos h5, t2]
  by_cases b1 : kA B L q = 1
  rotate_left
  · rw [if_neg (show ¬ nI (tk B L q) = 1 from fun h9 => b1 (tk_1.mp ((nI_eq (b := 1) (by omega) (by omega)).mp h9))), ok_s]
    exact Or.inr ⟨fun h9 => b1 h9.1, rfl⟩
  rw [if_pos (show nI (tk B L q) = 1 by rw [tk_1.mpr b1]; rfl)]
  unfold z_slen
  rw [x_ob, tn, t3, pk_sub hn.1, nx_1 b1]
  rw [nx_1 b1] at hn
  show ok (if nI (rk 1 B L q - q) = nI (wl w) then _ else _) _
  by_cases b2 : rk 1 B L q - q = wl w
  rotate_left
  · rw [if_neg (fun h9 => b2 ((nI_eq (by omega) (by omega)).mp h9)), ok_s]
    exact Or.inr ⟨fun h9 => b2 h9.2.1, rfl⟩
  rw [if_pos (by rw [b2])]
  refine zl1 (f_X6_takes_L35_b d c w _) (fun _ => rfl) (fun m x2 => ∃ i, m + i = wl w ∧ x2 = nI i ∧ ∀ j, j < i → B (q + j) = z_chr w (nI j)) ?_ (wl w) z_N _ ⟨0, by omega, rfl, fun j hj => by omega⟩ (ltz (by omega))
  rintro R m x2 ⟨i, hm, rfl, hall⟩ ih
  unfold f_X6_takes_L35_b z_slen
  rw [x_ob]
  show ok (if nI (wl w) ≤ nI i then _ else _) _
  by_cases hi : i = wl w
  · rw [if_pos ((nI_leI (by omega) (by omega)).mpr (by omega)), ok_b]
    refine ok_m (k_next hL h1 hB h) (fun d' hd' => ?_)
    rw [ok_s]
    exact Or.inl ⟨⟨b1, b2, by rw [← hi]; exact hall⟩, rfl, hd'.1, hd'.2.1.trans h5, hd'.2.2⟩
  rw [if_neg (nI_ge (by omega) (by omega)), t3, nI_add, x_ald _ (by omega) (by omega), hB _ (by omega)]
  have hsc : z_sch w (nI i) = some (z_chr w (nI i)) := by
    unfold z_sch
    rw [nI_clamp (by omega), if_neg (fun h9 => by
      rcases h9 with h9 | h9
      · exact nI_pos (by omega) h9
      · have : wl w ≤ i := h9
        omega)]
  rw [hsc, x_ob]
  by_cases hc : B (q + i) = z_chr w (nI i)
  · rw [if_pos hc, x_addL]
    refine ih (m - 1) _ (by omega) ⟨i + 1, by omega, rfl, fun j hj => ?_⟩
    by_cases hji : j = i
    · rw [hji]; exact hc
    · exact hall j (by omega)
  · rw [if_neg hc, ok_s]
    exact Or.inr ⟨fun h9 => hc (h9.2.2 i (by omega)), rfl⟩
theorem k_cannot {d : z_D} {c q : Nat} (h3 : d c 3 = nI q) (h5 : d c 5 = 0) : f_X6_cannotStand d c = some (-1, z_up d c 5 (nI (1 + 8 * q))) := by
  unfold f_X6_cannotStand
  rw [if_pos h5, x_put, h3, x_Lmul, x_Ladd]
theorem k_cannot0 {d : z_D} {c : Nat} (h5 : ¬ d c 5 = 0) : f_X6_cannotStand d c = some (-1, d) := by
  unfold f_X6_cannotStand
  rw [if_neg h5]
theorem k_takeInt0 {d : z_D} {c : Nat} {x y : Int32} (h5 : ¬ d c 5 = 0) : f_X6_takeInt d c x y = some (-1, d) := by
  unfold f_X6_takeInt
  rw [if_neg h5, k_cannot0 h5, x_bX]
theorem k_takeInt {d : z_D} {c L q : Nat} {B : Nat → Int32} (x y : Int32) (hL : L ≤ 600) (h1 : d c 1 = nI L) (hB : ∀ i, i < 600 → d (c + 1) i = B i) (h : TK d c B L q) (h5 : d c 5 = 0) : ok (f_X6_takeInt d c x y) (fun v => (¬ tk B L q = 2 ∧ v = (-1, z_up d c 5 (nI (1 + 8 * q)))) ∨ (tk B L q = 2 ∧ ¬ (x ≤ nI (nv B L q) ∧ nI (nv B L q) ≤ y) ∧ v = (-1, z_up d c 5 (nI (2 + 8 * q)))) ∨ (tk B L q = 2 ∧ (x ≤ nI (nv B L q) ∧ nI (nv B L q) ≤ y) ∧ v.1 = nI (nv B L q) ∧ Ft c d v.2 ∧ v.2 c 5 = 0 ∧ TK v.2 c B L (sx B L q))) := by
  obtain ⟨hq, t4, t3, t2, tn⟩ := id h
  have hn := nx_le (B := B) (L := L) (q := q) hq
  have hk5 := tk_5 B L q
  unfold f_X6_takeInt
  rw [if_pos h5, t2]
  by_cases b2 : tk B L q = 2
  rotate_left
  · rw [if_neg (show ¬ nI (tk B L q) = 2 from fun h9 => b2 ((nI_eq (b := 2) (by omega) (by omega)).mp h9)), k_cannot t3 h5, x_bX, ok_s]
    exact Or.inl ⟨b2, rfl⟩
  rw [if_pos (show nI (tk B L q) = 2 by rw [b2]; rfl), x_nam, t3]
  have h26 := tk_2.mp b2
  have hkA : kA B L q = 2 := by
    by_cases h9 : kA B L q = 2
    · exact h9
    · rw [rk_x h9] at h26
      omega
  rw [nx_2 hkA] at hn tn
  have hnv : nv B L q = iN (dg B q) (rk 2 B L q - q) := by
    unfold nv
    rw [Nat.min_eq_left (by omega)]
  have hdg : ∀ i, i < rk 2 B L q - q → B (q + i) = nI (48 + dg B q i) ∧ dg B q i ≤ 9 := fun i hi => dg_e ((rk_i (k := 2) (B := B) (L := L) (p := q) (by omega)).2.2.1 (q + i) (by omega) (by omega)).2
  refine zl2 (f_X6_takeInt_L28_b d c x y _) (fun _ => rfl) (fun m x3 x4 => ∃ i, m + i = rk 2 B L q - q ∧ x4 = nI (q + i) ∧ x3 = nI (iN (dg B q) i)) ?_ (rk 2 B L q - q) z_N _ _ ⟨0, by omega, rfl, rfl⟩ (ltz (by omega))
  rintro R m x3 x4 ⟨i, hm, rfl, rfl⟩ ih
  unfold f_X6_takeInt_L28_b
  rw [tn]
  by_cases hi : i = rk 2 B L q - q
  · rw [if_pos ((nI_leI (by omega) (by omega)).mpr (by omega)), hi, ← hnv]
    show ok ((f_X8_within (nI (nv B L q)) x y).bind _) _
    rw [x_w, x_ob, x_ifb0]
    by_cases hx : x ≤ nI (nv B L q) ∧ nI (nv B L q) ≤ y
    · rw [if_pos hx, ok_b]
      refine ok_m (k_next hL h1 hB h) (fun d' hd' => ?_)
      rw [ok_s]
      exact Or.inr (Or.inr ⟨b2, hx, rfl, hd'.1, hd'.2.1.trans h5, hd'.2.2⟩)
    · rw [if_neg hx, x_put, x_Lmul, x_Ladd, ok_s]
      exact Or.inr (Or.inl ⟨b2, hx, rfl⟩)
  · have hd := hdg i (by omega)
    rw [if_neg (nI_ge (by omega) (by omega)), x_ald _ (by omega) (by omega), x_nam, hB _ (by omega), hd.1, x_subL _ _ (show 48 ≤ 48 + dg B q i by omega), x_mulL, nI_add, x_addL]
    refine ih (m - 1) _ _ (by omega) ⟨i + 1, by omega, congrArg nI (by omega), ?_⟩
    show nI (iN (dg B q) i * 10 + (48 + dg B q i - 48)) = nI (iN (dg B q) i * 10 + dg B q i)
    exact congrArg nI (by omega)
theorem k_end0 {d : z_D} {c : Nat} {x y : Int32} (h5 : ¬ d c 5 = 0) : f_X6_endStatement d c x y = some d := by
  unfold f_X6_endStatement
  rw [if_neg h5, k_cannot0 h5, x_bX]
theorem k_end {d : z_D} {c L q p : Nat} {B : Nat → Int32} (y : Int32) (hL : L ≤ 600) (h1 : d c 1 = nI L) (hB : ∀ i, i < 600 → d (c + 1) i = B i) (h : TK d c B L q) (h5 : d c 5 = 0) : ok (f_X6_endStatement d c (nI p) y) (fun v => (¬ kA B L q = 3 ∧ v = z_up d c 5 (nI (1 + 8 * q))) ∨ (kA B L q = 3 ∧ y = 0 ∧ v = z_up d c 5 (nI (3 + 8 * p))) ∨ (kA B L q = 3 ∧ ¬ y = 0 ∧ Ft c d v ∧ v c 5 = 0 ∧ TK v c B L (sx B L q))) := by
  obtain ⟨hq, t4, t3, t2, tn⟩ := id h
  have hk5 := tk_5 B L q
  unfold f_X6_endStatement
  rw [if_pos h5, t2]
  by_cases b2 : kA B L q = 3
  rotate_left
  · rw [if_neg (show ¬ nI (tk B L q) = 3 from fun h9 => b2 (tk_3.mp ((nI_eq (b := 3) (by omega) (by omega)).mp h9))), k_cannot t3 h5, x_bX, ok_s]
    exact Or.inl ⟨b2, rfl⟩
  rw [if_pos (show nI (tk B L q) = 3 by rw [tk_3.mpr b2]; rfl)]
  by_cases hy : y = 0
  · rw [if_pos hy, x_put, x_Lmul, x_Ladd, ok_s]
    exact Or.inr (Or.inl ⟨b2, hy, rfl⟩)
  · rw [if_neg hy, ok_b]
    refine ok_m (k_next hL h1 hB h) (fun d' hd' => ?_)
    rw [ok_s]
    exact Or.inr (Or.inr ⟨b2, hy, hd'.1, hd'.2.1.trans h5, hd'.2.2⟩)
