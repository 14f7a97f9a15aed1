/-! 82.lexm: the model's tape -/
theorem ok_bY {α : Type} {p : Option (Int64 × z_D)} {f : Int64 → z_D → Option α} {Q : α → Prop} : ok (z_bY p f) Q ↔ ok p (fun x => ok (f x.1 x.2) Q) := ok_b
/-- what reading may change in the model: place, from, fault, told -/
def Fl (o : Nat) (d d' : z_D) : Prop := (∀ a, ¬ a = o → ¬ a = o + 9 → d' a = d a) ∧ ∀ k, ¬ k = 13 → ¬ k = 14 → ¬ k = 15 → ¬ k = 17 → d' o k = d o k
theorem Fl.rf {o : Nat} {d : z_D} : Fl o d d := ⟨fun _ _ _ => rfl, fun _ _ _ _ _ => rfl⟩
theorem Fl.tr {o : Nat} {d d' d'' : z_D} (h : Fl o d d') (h2 : Fl o d' d'') : Fl o d d'' := ⟨fun a a1 a2 => by rw [h2.1 a a1 a2, h.1 a a1 a2], fun k a b e f => by rw [h2.2 k a b e f, h.2 k a b e f]⟩
theorem Fl.u {o k : Nat} {d : z_D} {v : Int32} (h : k = 13 ∨ k = 14 ∨ k = 15 ∨ k = 17) : Fl o d (z_up d o k v) := ⟨fun a ha _ => u_a ha, fun j a b e f => u_k (by omega)⟩
/-- only the place has changed -/
def Fp (o : Nat) (d d' : z_D) : Prop := ∀ a k, ¬ (a = o ∧ k = 13) → d' a k = d a k
theorem Fp.fl {o : Nat} {d d' : z_D} (h : Fp o d d') : Fl o d d' := ⟨fun a a1 _ => by funext k; exact h a k (by omega), fun k a _ _ _ => h o k (by omega)⟩
theorem m_here {d : z_D} {o L p : Nat} (hL : L ≤ 600) (h12 : d o 12 = nI L) (h13 : d o 13 = nI p) (hp : p ≤ L) : ok (f_X9_here d o) (fun w => Fp o d w.2 ∧ w.2 o 13 = nI (rk 4 (d (o + 8)) L p) ∧ w.1 = if rk 4 (d (o + 8)) L p < L then d (o + 8) (rk 4 (d (o + 8)) L p) &&& 255 else -1) := by
  unfold f_X9_here
  refine zl1 (f_X9_here_L0_b o _) (fun _ => rfl) (fun m e => ∃ i, m + i = L ∧ rk 4 (d (o + 8)) L i = rk 4 (d (o + 8)) L p ∧ e o 13 = nI i ∧ Fp o d e) ?_ (L - p) z_N _ ⟨p, by omega, rfl, h13, fun _ _ _ => rfl⟩ (ltz (by omega))
  rintro R m e ⟨i, hm, hr, e4, f1⟩ ih
  unfold f_X9_here_L0_b
  have e1 : e o 12 = nI L := by rw [f1 _ _ (by omega), h12]
  have eB : ∀ k, e (o + 8) k = d (o + 8) k := fun k => f1 _ _ (by omega)
  rw [e1, e4]
  by_cases hi : i = L
  · subst hi
    rw [if_pos ((nI_leI (by omega) (by omega)).mpr (Nat.le_refl _))]
    show ok (if e o 12 ≤ e o 13 then some (-1, e) else _) _
    have hrr : rk 4 (d (o + 8)) i p = i := by rw [← hr, rk_x (by rw [kA_out (by omega)]; omega)]
    rw [e1, e4, if_pos ((nI_leI (by omega) (by omega)).mpr (Nat.le_refl _)), ok_s, hrr, if_neg (by omega)]
    exact ⟨f1, e4, rfl⟩
  have hin : i < L := by omega
  rw [if_neg (nI_ge (by omega) (by omega)), x_ald _ (by omega) (by omega), eB, x_let]
  have go : kd (d (o + 8) i) = 4 → ok (z_put e o 13 (nI i + 1) (fun d2 => R d2)) (fun w => Fp o d w.2 ∧ w.2 o 13 = nI (rk 4 (d (o + 8)) L p) ∧ w.1 = if rk 4 (d (o + 8)) L p < L then d (o + 8) (rk 4 (d (o + 8)) L p) &&& 255 else -1) := fun h9 => by
    rw [x_put, x_addL]
    refine ih (m - 1) _ (by omega) ⟨i + 1, by omega, ?_, u_s _ _ _ _, fun a k hk => ?_⟩
    · rw [← hr, rk_s (p := i) (by omega) (by rw [kA_in hin, h9])]
    · rw [x_un hk, f1 a k hk]
  by_cases b1 : d (o + 8) i = 32
  · rw [if_pos b1]
    exact go (kd_4.mpr (Or.inl b1))
  rw [if_neg b1, x_ald _ (by omega) (by omega), eB]
  by_cases b2 : d (o + 8) i = 10
  · rw [if_pos b2]
    exact go (kd_4.mpr (Or.inr b2))
  rw [if_neg b2]
  have hrr : rk 4 (d (o + 8)) L p = i := by rw [← hr, rk_x (by rw [kA_in hin, kd_4]; exact fun h9 => h9.elim b1 b2)]
  show ok (if e o 12 ≤ e o 13 then some (-1, e) else _) _
  rw [e1, e4, if_neg (nI_ge (by omega) (by omega)), x_ald _ (by omega) (by omega), ok_s, hrr, if_pos hin, eB]
  exact ⟨f1, e4, rfl⟩
theorem a255 {x : Int32} (h : -128 ≤ x ∧ x ≤ 127) : ((x &&& 255) = 59 ↔ x = 59) ∧ ((48 ≤ (x &&& 255) ∧ (x &&& 255) ≤ 57) ↔ (48 ≤ x ∧ x ≤ 57)) ∧ ¬ (x &&& 255) = -1 := by
  obtain ⟨y, hy, rfl⟩ : ∃ y : Nat, y < 256 ∧ x = nI y - 128 := by
    have h1 := (fa_le _ _).mp h.1
    have h2 := (fa_le _ _).mp h.2
    have e1 : (-128 : Int32).toInt = -128 := rfl
    have e2 : (127 : Int32).toInt = 127 := rfl
    refine ⟨(x.toInt + 128).toNat, by omega, ?_⟩
    rw [fa_eq]
    have e3 : (nI (x.toInt + 128).toNat).toInt = x.toInt + 128 := by
      rw [nI_toInt (by omega)]
      omega
    have e4 : (128 : Int32).toInt = 128 := rfl
    rw [fb_subI (by omega) (by omega), e3, e4]
    omega
  clear h
  revert y
  decide +kernel
/-- place and from have changed -/
def Fzp (o : Nat) (d d' : z_D) : Prop := ∀ a k, ¬ (a = o ∧ (k = 13 ∨ k = 14)) → d' a k = d a k
theorem Fzp.fl {o : Nat} {d d' : z_D} (h : Fzp o d d') : Fl o d d' := ⟨fun a a1 _ => by funext k; exact h a k (by omega), fun k a b _ _ => h o k (by omega)⟩
theorem Fp.fz {o : Nat} {d d' : z_D} (h : Fp o d d') : Fzp o d d' := fun a k hk => h a k (by omega)
theorem m_word {d : z_D} {o L p : Nat} (hL : L ≤ 600) (h12 : d o 12 = nI L) (h13 : d o 13 = nI p) (hp : p ≤ L) : ok (f_X9_word d o) (fun w => w.1 = lN (wv (d (o + 8)) L (rk 4 (d (o + 8)) L p)) ∧ Fzp o d w.2 ∧ w.2 o 14 = nI (rk 4 (d (o + 8)) L p) ∧ w.2 o 13 = nI (rk 1 (d (o + 8)) L (rk 4 (d (o + 8)) L p))) := by
  unfold f_X9_word
  rw [ok_bX]
  refine ok_m (m_here hL h12 h13 hp) (fun w hw => ?_)
  obtain ⟨w1, w2, -⟩ := hw
  have hr := rk_i (k := 4) (B := d (o + 8)) (L := L) (p := p) (by omega)
  have hq := hr.2.1 hp
  generalize rk 4 (d (o + 8)) L p = q at *
  rw [x_put, w2]
  have hr1 := rk_i (k := 1) (B := d (o + 8)) (L := L) (p := q) (by omega)
  have hq1 := hr1.2.1 hq
  have B0 : ∀ k, w.2 (o + 8) k = d (o + 8) k := fun k => w1 _ _ (by omega)
  generalize hB : d (o + 8) = B at *
  have hlg : ∀ i, i < rk 1 B L q - q → B (q + i) = nI (96 + lg B q i) ∧ 1 ≤ lg B q i ∧ lg B q i ≤ 26 := fun i hi => lg_e (hr1.2.2.1 (q + i) (by omega) (by omega)).2
  refine zl2 (f_X9_word_L15_b o _) (fun _ => rfl) (fun m x1 e => ∃ i, m + i = rk 1 B L q - q ∧ x1 = lN (mW (lg B q) i) ∧ e o 13 = nI (q + i) ∧ e o 14 = nI q ∧ Fzp o d e) ?_ (rk 1 B L q - q) z_N _ _ ⟨0, by omega, rfl, by rw [u_k (by omega), w2, n_a0], u_s _ _ _ _, fun a k hk => by rw [x_un (by omega), w1 _ _ (by omega)]⟩ (ltz (by omega))
  rintro R m x1 e ⟨i, hm, rfl, e13, e14, f1⟩ ih
  unfold f_X9_word_L15_b
  have e12 : e o 12 = nI L := by rw [f1 _ _ (by omega), h12]
  have eB : ∀ k, e (o + 8) k = B k := fun k => by rw [f1 _ _ (by omega), hB]
  rw [e12, e13]
  have stop : i = rk 1 B L q - q → ok (some (lN (mW (lg B q) i), e)) (fun w => w.1 = lN (wv B L q) ∧ Fzp o d w.2 ∧ w.2 o 14 = nI q ∧ w.2 o 13 = nI (rk 1 B L q)) := fun hi => by
    rw [ok_s]
    refine ⟨?_, f1, e14, ?_⟩
    · show lN (mW (lg B q) i) = lN (wv B L q)
      rw [hi]
      rfl
    · show e o 13 = _
      rw [e13]
      exact congrArg nI (by omega)
  by_cases hl : L ≤ q + i
  · rw [if_pos ((nI_leI (by omega) (by omega)).mpr hl)]
    exact stop (by omega)
  rw [if_neg (nI_ge (by omega) (by omega)), x_ald _ (by omega) (by omega), eB, x_wi, x_ob, x_ifb0]
  by_cases hi : i = rk 1 B L q - q
  · rw [if_neg (fun h9 => hr1.2.2.2 (by
      rw [kA_in (by omega), kd_1, show rk 1 B L q = q + i by omega]
      exact h9))]
    exact stop hi
  obtain ⟨l1, l2, l3⟩ := hlg i (by omega)
  have hk1 : kd (B (q + i)) = 1 := (hr1.2.2.1 (q + i) (by omega) (by omega)).2
  rw [if_pos (kd_1.mp hk1), x_let, e14, pk_sub (show q ≤ q + i by omega), show q + i - q = i by omega]
  have go : ∀ x : Int64, x = lN (mW (lg B q) (i + 1)) → ok (z_put e o 13 (nI (q + i) + 1) (fun d6 => R x d6)) (fun w => w.1 = lN (wv B L q) ∧ Fzp o d w.2 ∧ w.2 o 14 = nI q ∧ w.2 o 13 = nI (rk 1 B L q)) := fun x hx => by
    rw [x_put, x_addL]
    refine ih (m - 1) _ _ (by omega) ⟨i + 1, by omega, hx, by rw [u_s]; exact congrArg nI (by omega), by rw [u_k (by omega), e14], fun a k hk => by rw [x_un (by omega), f1 a k hk]⟩
  by_cases h7 : 7 ≤ i
  · rw [if_pos (show (7 : Int32) ≤ nI i from (nI_leI (a := 7) (by omega) (by omega)).mpr h7)]
    refine go _ ?_
    unfold mW
    rw [if_neg (by omega)]
    rfl
  · rw [if_neg (show ¬ (7 : Int32) ≤ nI i from fun h9 => h7 ((nI_leI (a := 7) (by omega) (by omega)).mp h9)), x_ald _ (by omega) (by omega), eB]
    refine go _ ?_
    rw [l1, nI_l (by omega)]
    unfold mW
    rw [if_pos (by omega), if_pos (by omega)]
    show lN 27 * lN (wN (lg B q) i) + lN (96 + lg B q i) - lN 96 = lN (27 * wN (lg B q) i + lg B q i)
    rw [lN_mul, lN_add, lN_sub (by omega)]
    exact congrArg lN (by omega)
theorem lg0 {x y : Int64} : lg_cmp x y = 0 ↔ x = y := by
  unfold lg_cmp
  by_cases h : x > y
  · rw [if_pos h]
    refine ⟨fun h9 => absurd h9 (by decide), fun h9 => ?_⟩
    subst h9
    have := (fa_lt64 _ _).mp h
    omega
  · rw [if_neg h]
    by_cases h2 : x = y
    · rw [if_pos h2]
      exact ⟨fun _ => h2, fun _ => rfl⟩
    · rw [if_neg h2]
      exact ⟨fun h9 => absurd h9 (by decide), fun h9 => absurd h9 h2⟩
theorem wq_iff {B : Nat → Int32} {L q w : Nat} (hw : w < 20) : lg_cmp (lN (wv B L q)) (lN (wN (wg w) (wl w))) = 0 ↔ isW B L q w := by
  obtain ⟨z1, z2, z3⟩ := wz_all w hw
  have hb : wN (wg w) (wl w) < 2 ^ 63 := by
    have := wN_lt (f := wg w) (wl w) (fun i hi => (z3 i hi).2.2)
    have h2 : 27 ^ (wl w) ≤ 27 ^ 7 := Nat.pow_le_pow_right (by omega) z2
    omega
  rw [lg0, pk_lEQ wv_lt hb, w_iff hw]
theorem m_isWord {d : z_D} {o L p w : Nat} {x : Int64} (hw : w < 20) (hx : x = lN (wN (wg w) (wl w))) (hL : L ≤ 600) (h12 : d o 12 = nI L) (h13 : d o 13 = nI p) (hp : p ≤ L) : ok (f_X9_isWord d o x) (fun v => ((isW (d (o + 8)) L (rk 4 (d (o + 8)) L p) w ∧ v.1 = 1) ∨ (¬ isW (d (o + 8)) L (rk 4 (d (o + 8)) L p) w ∧ v.1 = 0)) ∧ Fzp o d v.2 ∧ v.2 o 13 = nI p) := by
  unfold f_X9_isWord
  rw [x_nam, ok_bY]
  refine ok_m (m_word hL h12 h13 hp) (fun v hv => ?_)
  obtain ⟨v1, v2, v3, v4⟩ := hv
  rw [x_let, v1, hx, h13]
  by_cases h : isW (d (o + 8)) L (rk 4 (d (o + 8)) L p) w
  · rw [if_pos ((wq_iff hw).mpr h)]
    dsimp only
    rw [x_put, x_bl (Or.inr rfl), ok_s]
    exact ⟨Or.inl ⟨h, rfl⟩, fun a k hk => (x_un (by omega)).trans (v2 a k hk), u_s _ _ _ _⟩
  · rw [if_neg (fun h9 => h ((wq_iff hw).mp h9))]
    dsimp only
    rw [x_put, x_bl (Or.inl rfl), ok_s]
    exact ⟨Or.inr ⟨h, rfl⟩, fun a k hk => (x_un (by omega)).trans (v2 a k hk), u_s _ _ _ _⟩
def BY (B : Nat → Int32) : Prop := ∀ i, i < 600 → -128 ≤ B i ∧ B i ≤ 127
theorem m_isDigit {d : z_D} {o L p : Nat} (hy : BY (d (o + 8))) (hL : L ≤ 600) (h12 : d o 12 = nI L) (h13 : d o 13 = nI p) (hp : p ≤ L) : ok (f_X9_isDigit d o) (fun v => v.1 = b01 (kA (d (o + 8)) L (rk 4 (d (o + 8)) L p) = 2) ∧ Fp o d v.2 ∧ v.2 o 13 = nI (rk 4 (d (o + 8)) L p)) := by
  unfold f_X9_isDigit
  rw [ok_bX]
  refine ok_m (m_here hL h12 h13 hp) (fun w hw => ?_)
  obtain ⟨w1, w2, w3⟩ := hw
  rw [x_wi, x_ob, x_bl b01_b, ok_s]
  refine ⟨?_, w1, w2⟩
  show b01 (48 ≤ w.1 ∧ w.1 ≤ 57) = _
  rw [w3]
  by_cases h : rk 4 (d (o + 8)) L p < L
  · rw [if_pos h, kA_in h]
    have := (a255 (hy (rk 4 (d (o + 8)) L p) (by omega))).2.1
    by_cases h2 : kd (d (o + 8) (rk 4 (d (o + 8)) L p)) = 2
    · rw [b01_t h2, b01_t (this.mpr (kd_2.mp h2))]
    · rw [b01_f h2, b01_f (fun h9 => h2 (kd_2.mpr (this.mp h9)))]
  · rw [if_neg h, kA_out h, b01_f (by decide), b01_f (by decide)]
theorem m_fails {d : z_D} {o : Nat} {k p : Nat} (h : d o 15 = 0) : f_X9_fails d o (nI k) (nI p) = some (z_up d o 15 (nI (k + 8 * p))) := by
  unfold f_X9_fails
  rw [if_pos h, x_put, x_Lmul, nI_add]
theorem m_fails0 {d : z_D} {o : Nat} {k p : Int32} (h : ¬ d o 15 = 0) : f_X9_fails d o k p = some d := by
  unfold f_X9_fails
  rw [if_neg h]
theorem m_number0 {d : z_D} {o : Nat} {x y : Int32} (h : ¬ d o 15 = 0) : f_X9_number d o x y = some d := by
  unfold f_X9_number
  rw [if_neg h]
theorem m_ends0 {d : z_D} {o : Nat} (h : ¬ d o 15 = 0) : f_X9_ends d o = some (0, z_up d o 13 (d o 13 + 1)) := by
  unfold f_X9_ends
  rw [x_let, if_neg h]
  dsimp only
  rw [x_put, u_k (by omega), if_neg h]
theorem m_ends {d : z_D} {o L p : Nat} (hy : BY (d (o + 8))) (hL : L ≤ 600) (h12 : d o 12 = nI L) (h13 : d o 13 = nI p) (hp : p ≤ L) (h15 : d o 15 = 0) : ok (f_X9_ends d o) (fun v => (∀ a k, ¬ (a = o ∧ (k = 13 ∨ k = 15)) → v.2 a k = d a k) ∧ v.2 o 13 = nI (rk 4 (d (o + 8)) L p + 1) ∧ ((kA (d (o + 8)) L (rk 4 (d (o + 8)) L p) = 3 ∧ v.1 = 1 ∧ v.2 o 15 = 0) ∨ (¬ kA (d (o + 8)) L (rk 4 (d (o + 8)) L p) = 3 ∧ v.1 = 0 ∧ v.2 o 15 = nI (1 + 8 * rk 4 (d (o + 8)) L p)))) := by
  unfold f_X9_ends
  rw [x_let, if_pos h15, ok_bX]
  refine ok_m (m_here hL h12 h13 hp) (fun w hw => ?_)
  obtain ⟨w1, w2, w3⟩ := hw
  have w15 : w.2 o 15 = 0 := by rw [w1 _ _ (by omega), h15]
  have h59 : w.1 = 59 ↔ kA (d (o + 8)) L (rk 4 (d (o + 8)) L p) = 3 := by
    rw [w3]
    by_cases h : rk 4 (d (o + 8)) L p < L
    · rw [if_pos h, kA_in h, (a255 (hy (rk 4 (d (o + 8)) L p) (by omega))).1, kd_3]
    · rw [if_neg h, kA_out h]
      exact ⟨fun h9 => absurd h9 (by decide), fun h9 => by omega⟩
  have hq := (rk_i (k := 4) (B := d (o + 8)) (L := L) (p := p) (by omega)).2.1 hp
  generalize rk 4 (d (o + 8)) L p = q at *
  by_cases h : kA (d (o + 8)) L q = 3
  · rw [if_pos (h59.mpr h)]
    dsimp only
    rw [x_put, u_k (by omega), w15, if_pos rfl, ok_s, w2, nI_1]
    exact ⟨fun a k hk => (x_un (by omega)).trans (w1 a k (by omega)), u_s _ _ _ _, Or.inl ⟨h, rfl, (u_k (by omega)).trans w15⟩⟩
  · have hf := m_fails (d := w.2) (o := o) (k := 1) (p := q) w15
    rw [← w2] at hf
    rw [if_neg (fun h9 => h (h59.mp h9))]
    show ok ((f_X9_fails w.2 o (nI 1) (w.2 o 13)).bind _) _
    rw [hf, x_ob]
    dsimp only
    rw [x_put, u_k (by omega), u_s, if_neg (nI_ne0 (by omega) (by omega)), ok_s, u_k (by omega), w2, nI_1]
    exact ⟨fun a k hk => (x_un (by omega)).trans ((x_un (by omega)).trans (w1 a k (by omega))), u_s _ _ _ _, Or.inr ⟨h, rfl, (u_k (by omega)).trans (u_s _ _ _ _)⟩⟩
theorem m_number {d : z_D} {o L p M : Nat} (x y : Int32) (hy : BY (d (o + 8))) (hL : L ≤ 600) (h12 : d o 12 = nI L) (h13 : d o 13 = nI p) (hp : p ≤ L) (h15 : d o 15 = 0) (h17 : d o 17 = nI M) (hM : M < 600) : ok (f_X9_number d o x y) (fun d' => Fl o d d' ∧ d' o 13 = nI (rk 2 (d (o + 8)) L (rk 4 (d (o + 8)) L p)) ∧ d' o 17 = nI (M + 1) ∧ (∀ i, ¬ i = M → d' (o + 9) i = d (o + 9) i) ∧ ((¬ tk (d (o + 8)) L (rk 4 (d (o + 8)) L p) = 2 ∧ d' o 15 = nI (1 + 8 * rk 4 (d (o + 8)) L p)) ∨ (tk (d (o + 8)) L (rk 4 (d (o + 8)) L p) = 2 ∧ ¬ (x ≤ nI (nv (d (o + 8)) L (rk 4 (d (o + 8)) L p)) ∧ nI (nv (d (o + 8)) L (rk 4 (d (o + 8)) L p)) ≤ y) ∧ d' o 15 = nI (2 + 8 * rk 4 (d (o + 8)) L p)) ∨ (tk (d (o + 8)) L (rk 4 (d (o + 8)) L p) = 2 ∧ (x ≤ nI (nv (d (o + 8)) L (rk 4 (d (o + 8)) L p)) ∧ nI (nv (d (o + 8)) L (rk 4 (d (o + 8)) L p)) ≤ y) ∧ d' o 15 = 0 ∧ d' (o + 9) M = nI (nv (d (o + 8)) L (rk 4 (d (o + 8)) L p))))) := by
  unfold f_X9_number
  rw [if_pos h15, ok_bX]
  refine ok_m (m_isDigit hy hL h12 h13 hp) (fun w hw => ?_)
  obtain ⟨w1, w2, w3⟩ := hw
  have hr := rk_i (k := 4) (B := d (o + 8)) (L := L) (p := p) (by omega)
  have hq := hr.2.1 hp
  generalize rk 4 (d (o + 8)) L p = q at *
  rw [x_put, w3, w1]
  have hr1 := rk_i (k := 2) (B := d (o + 8)) (L := L) (p := q) (by omega)
  have hq1 := hr1.2.1 hq
  generalize hB : d (o + 8) = B at *
  have hdg : ∀ i, i < rk 2 B L q - q → B (q + i) = nI (48 + dg B q i) ∧ dg B q i ≤ 9 := fun i hi => dg_e (hr1.2.2.1 (q + i) (by omega) (by omega)).2
  have h26 := tk_2 (B := B) (L := L) (q := q)
  refine zl2 (f_X9_number_L24_b o x y (b01 (kA B L q = 2)) _) (fun _ => rfl) (fun m x4 e => ∃ i, m + i = rk 2 B L q - q ∧ x4 = nI (iN (dg B q) (min i 6)) ∧ e o 13 = nI (q + i) ∧ e o 14 = nI q ∧ Fzp o d e) ?_ (rk 2 B L q - q) z_N _ _ ⟨0, by omega, rfl, by rw [u_k (by omega), w3, n_a0], u_s _ _ _ _, fun a k hk => by rw [x_un (by omega), w2 _ _ (by omega)]⟩ (ltz (by omega))
  rintro R m x4 e ⟨i, hm, rfl, e13, e14, f1⟩ ih
  unfold f_X9_number_L24_b
  have e12 : e o 12 = nI L := by rw [f1 _ _ (by omega), h12]
  have e15 : e o 15 = 0 := by rw [f1 _ _ (by omega), h15]
  have e17 : e o 17 = nI M := by rw [f1 _ _ (by omega), h17]
  have eB : ∀ k, e (o + 8) k = B k := fun k => by rw [f1 _ _ (by omega), hB]
  have stop : i = rk 2 B L q - q → ok ((f_X9_isIn ((e o 13) - (e o 14)) 1 6).bind fun v10 => z_let (fun x_137 : z_D => ((f_X9_isIn (nI (iN (dg B q) (min i 6))) x y).bind fun v11 => z_let (fun x_156 : z_D => z_ast x_156 (o + 9) 600 (x_156 o 17) (nI (iN (dg B q) (min i 6))) (fun d12 => z_put d12 o 17 ((d12 o 17) + 1) (fun d13 => (some d13)))) (fun J156 => (if v11 = 0 then ((f_X9_fails x_137 o 2 (x_137 o 14)).bind fun d14 => (J156 d14)) else (J156 x_137))))) (fun J137 => (if v10 = 0 then ((f_X9_fails e o 1 (e o 14)).bind fun d15 => (J137 d15)) else (J137 e)))) (fun d' => Fl o d d' ∧ d' o 13 = nI (rk 2 B L q) ∧ d' o 17 = nI (M + 1) ∧ (∀ i, ¬ i = M → d' (o + 9) i = d (o + 9) i) ∧ ((¬ tk B L q = 2 ∧ d' o 15 = nI (1 + 8 * q)) ∨ (tk B L q = 2 ∧ ¬ (x ≤ nI (nv B L q) ∧ nI (nv B L q) ≤ y) ∧ d' o 15 = nI (2 + 8 * q)) ∨ (tk B L q = 2 ∧ (x ≤ nI (nv B L q) ∧ nI (nv B L q) ≤ y) ∧ d' o 15 = 0 ∧ d' (o + 9) M = nI (nv B L q)))) := fun hi => by
    have hv : iN (dg B q) (min i 6) = nv B L q := by rw [hi]; rfl
    have h13' : e o 13 = nI (rk 2 B L q) := by rw [e13]; exact congrArg nI (by omega)
    rw [hv, e13, e14, pk_sub (show q ≤ q + i by omega), show q + i - q = i by omega, x_wi, x_ob, x_let, x_ifb0]
    have fin : ∀ g : z_D, (∀ a k, ¬ (a = o ∧ (k = 13 ∨ k = 14 ∨ k = 15)) → g a k = d a k) → g o 13 = nI (rk 2 B L q) → ok (z_ast g (o + 9) 600 (g o 17) (nI (nv B L q)) (fun d12 => z_put d12 o 17 ((d12 o 17) + 1) (fun d13 => (some d13)))) (fun d' => Fl o d d' ∧ d' o 13 = nI (rk 2 B L q) ∧ d' o 17 = nI (M + 1) ∧ (∀ i, ¬ i = M → d' (o + 9) i = d (o + 9) i) ∧ d' o 15 = g o 15 ∧ d' (o + 9) M = nI (nv B L q)) := fun g hg g13 => by
      have g17 : g o 17 = nI M := by rw [hg _ _ (by omega), h17]
      rw [g17, x_ast _ hM (by omega), x_put, ok_s, x_un (a' := o) (by omega), g17, nI_1]
      refine ⟨⟨fun a a1 a2 => ?_, fun k k1 k2 k3 k4 => ?_⟩, ?_, u_s _ _ _ _, fun j hj => ?_, ?_, ?_⟩
      · rw [u_a a1, u_a a2]
        funext k
        exact hg _ _ (by omega)
      · rw [u_k k4, u_a (by omega)]
        exact hg _ _ (by omega)
      · rw [u_k (by omega), u_a (by omega), g13]
      · rw [u_a (by omega), u_k hj]
        exact hg _ _ (by omega)
      · rw [u_k (by omega), u_a (by omega)]
      · rw [u_a (by omega), u_s]
    by_cases b1 : 1 ≤ i ∧ i ≤ 6
    · have b1' : (1 : Int32) ≤ nI i ∧ nI i ≤ 6 := ⟨(nI_leI (a := 1) (by omega) (by omega)).mpr b1.1, (nI_leI (b := 6) (by omega) (by omega)).mpr b1.2⟩
      rw [if_pos b1']
      dsimp only
      rw [x_wi, x_ob, x_let, x_ifb0]
      have t2 : tk B L q = 2 := h26.mpr (by omega)
      by_cases b2 : x ≤ nI (nv B L q) ∧ nI (nv B L q) ≤ y
      · rw [if_pos b2]
        refine ok_m (fin e (fun a k hk => f1 a k (by omega)) h13') (fun d' hd' => ?_)
        obtain ⟨k1, k2, k3, k4, k5, k6⟩ := hd'
        exact ⟨k1, k2, k3, k4, Or.inr (Or.inr ⟨t2, b2, by rw [k5, e15], k6⟩)⟩
      · rw [if_neg b2]
        have hf := m_fails (d := e) (o := o) (k := 2) (p := q) e15
        rw [← e14] at hf
        show ok ((f_X9_fails e o (nI 2) (e o 14)).bind _) _
        rw [hf, x_ob]
        refine ok_m (fin _ (fun a k hk => by rw [x_un (by omega), f1 a k (by omega)]) (by rw [u_k (by omega), h13'])) (fun d' hd' => ?_)
        obtain ⟨k1, k2, k3, k4, k5, k6⟩ := hd'
        exact ⟨k1, k2, k3, k4, Or.inr (Or.inl ⟨t2, b2, by rw [k5, u_s]⟩)⟩
    · have b1' : ¬ ((1 : Int32) ≤ nI i ∧ nI i ≤ 6) := fun h9 => b1 ⟨(nI_leI (a := 1) (by omega) (by omega)).mp h9.1, (nI_leI (b := 6) (by omega) (by omega)).mp h9.2⟩
      rw [if_neg b1']
      have t2 : ¬ tk B L q = 2 := fun h9 => by
        have := h26.mp h9
        omega
      have hf := m_fails (d := e) (o := o) (k := 1) (p := q) e15
      show ok ((f_X9_fails e o (nI 1) (nI q)).bind _) _
      rw [hf, x_ob]
      dsimp only
      rw [x_wi, x_ob, x_let, x_ifb0]
      have hg : ok (z_ast (z_up e o 15 (nI (1 + 8 * q))) (o + 9) 600 ((z_up e o 15 (nI (1 + 8 * q))) o 17) (nI (nv B L q)) (fun d12 => z_put d12 o 17 ((d12 o 17) + 1) (fun d13 => (some d13)))) (fun d' => Fl o d d' ∧ d' o 13 = nI (rk 2 B L q) ∧ d' o 17 = nI (M + 1) ∧ (∀ i, ¬ i = M → d' (o + 9) i = d (o + 9) i) ∧ ((¬ tk B L q = 2 ∧ d' o 15 = nI (1 + 8 * q)) ∨ (tk B L q = 2 ∧ ¬ (x ≤ nI (nv B L q) ∧ nI (nv B L q) ≤ y) ∧ d' o 15 = nI (2 + 8 * q)) ∨ (tk B L q = 2 ∧ (x ≤ nI (nv B L q) ∧ nI (nv B L q) ≤ y) ∧ d' o 15 = 0 ∧ d' (o + 9) M = nI (nv B L q)))) := by
        refine ok_m (fin _ (fun a k hk => by rw [x_un (by omega), f1 a k (by omega)]) (by rw [u_k (by omega), h13'])) (fun d' hd' => ?_)
        obtain ⟨k1, k2, k3, k4, k5, k6⟩ := hd'
        exact ⟨k1, k2, k3, k4, Or.inl ⟨t2, by rw [k5, u_s]⟩⟩
      by_cases b2 : x ≤ nI (nv B L q) ∧ nI (nv B L q) ≤ y
      · rw [if_pos b2]
        exact hg
      · rw [if_neg b2, m_fails0 (by rw [u_s]; exact nI_ne0 (by omega) (by omega)), x_ob]
        exact hg
  by_cases hd2 : kA B L q = 2
  rotate_left
  · rw [if_pos (b01_f hd2)]
    exact stop (by have := rk_x hd2; omega)
  rw [if_neg (show ¬ b01 (kA B L q = 2) = 0 by rw [b01_t hd2]; decide), e12, e13]
  by_cases hl : L ≤ q + i
  · rw [if_pos ((nI_leI (by omega) (by omega)).mpr hl)]
    exact stop (by omega)
  rw [if_neg (nI_ge (by omega) (by omega)), x_ald _ (by omega) (by omega), eB, x_wi, x_ob, x_ifb0]
  by_cases hi : i = rk 2 B L q - q
  · rw [if_neg (fun h9 => hr1.2.2.2 (by
      rw [kA_in (by omega), kd_2, show rk 2 B L q = q + i by omega]
      exact h9))]
    exact stop hi
  obtain ⟨l1, l2⟩ := hdg i (by omega)
  have hk1 : kd (B (q + i)) = 2 := (hr1.2.2.1 (q + i) (by omega) (by omega)).2
  rw [if_pos (kd_2.mp hk1), x_let, e14, pk_sub (show q ≤ q + i by omega), show q + i - q = i by omega]
  by_cases h6 : 6 ≤ i
  · rw [if_pos (show (6 : Int32) ≤ nI i from (nI_leI (a := 6) (by omega) (by omega)).mpr h6)]
    dsimp only
    rw [x_put, x_addL]
    refine ih (m - 1) _ _ (by omega) ⟨i + 1, by omega, by rw [Nat.min_eq_right h6, Nat.min_eq_right (by omega)], by rw [u_s]; exact congrArg nI (by omega), by rw [u_k (by omega), e14], fun a k hk => by rw [x_un (by omega), f1 a k hk]⟩
  · rw [if_neg (show ¬ (6 : Int32) ≤ nI i from fun h9 => h6 ((nI_leI (a := 6) (by omega) (by omega)).mp h9)), x_ald _ (by omega) (by omega), eB]
    dsimp only
    rw [x_put, x_addL]
    refine ih (m - 1) _ _ (by omega) ⟨i + 1, by omega, ?_, by rw [u_s]; exact congrArg nI (by omega), by rw [u_k (by omega), e14], fun a k hk => by rw [x_un (by omega), f1 a k hk]⟩
    rw [l1, Nat.min_eq_left (by omega), Nat.min_eq_left (by omega), x_Lmul, nI_add, x_subL _ _ (show 48 ≤ _ by omega)]
    show nI (10 * iN (dg B q) i + (48 + dg B q i) - 48) = nI (iN (dg B q) i * 10 + dg B q i)
    exact congrArg nI (by omega)
theorem m_can1 {d : z_D} {o : Nat} {x y : Int32} (h : ¬ x = 0) : f_X9_can d o x y = some d := by
  unfold f_X9_can
  rw [if_neg h]
theorem m_can0 {d : z_D} {o p : Nat} {x : Int32} (h : x = 0) (h15 : d o 15 = 0) : f_X9_can d o x (nI p) = some (z_up d o 15 (nI (3 + 8 * p))) := by
  unfold f_X9_can
  have := m_fails (k := 3) (p := p) h15
  rw [if_pos h]
  show (f_X9_fails d o (nI 3) (nI p)).bind _ = _
  rw [this, x_ob]
