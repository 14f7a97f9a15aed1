/-! 82.lexm: the model's tape -/
theorem ok_bY {α : Type} {p : Option (Int64 × z_D)} {f : Int64 → z_D → Option α} {Q : α → Prop} : ok (z_bY p f) Q ↔ ok p (fun x => ok (f x.1 x.2) Q) := ok_b
/-- what reading may change in the model: place, from, fault, told -/
def Fl (o : Nat) (d d' : z_D) : Prop := (∀ a, ¬ a = o → ¬ a = o + 9 → d' a = d a) ∧ ∀ k, ¬ k = 13 → ¬ k = 14 → ¬ k = 15 → ¬ k = 17 → d' o k = d o k
theorem Fl.rf {o : Nat} {d : z_D} : Fl o d d := ⟨fun _ _ _ => rfl, fun _ _ _ _ _ => rfl⟩
theorem Fl.tr {o : Nat} {d d' d'' : z_D} (h : Fl o d d') (h2 : Fl o d' d'') : Fl o d d'' := ⟨fun a a1 a2 => by rw [h2.1 a a1 a2, h.1 a a1 a2], fun k a b e f => by rw [h2.2 k a b e f, h.2 k a b e f]⟩
theorem Fl.u {o k : Nat} {d : z_D} {v : Int32} (h : k = 13 ∨ k = 14 ∨ k = 15 ∨ k = 17) : Fl o d (z_up d o k v) := ⟨fun a ha _ => u_a ha, fun j a b e f => u_k (by omega)⟩
/-- only the place has changed -/
def Fp (o : Nat) (d d' : z_D) : Prop := ∀ a k, ¬ (a = o ∧ k = 13) → d' a k = d a k
theorem Fp.fl {o : Nat} {d d' : z_D} (h : Fp o d d') : Fl o d d' := ⟨fun a a1 _ => by funext k; exact h a k (by omega), fun k a _ _ _ => h o k (by omega)⟩
theorem m_here {d : z_D} {o L p : Nat} (hL : L ≤ 600) (h12 : d o 12 = nI L) (h13 : d o 13 = nI p) (hp : p ≤ L) : ok (f_X9_here d o) (fun w => Fp o d w.2 ∧ w.2 o 13 = nI (rk 4 (d (o + 8)) L p) ∧ w.1 = if rk 4 (d (o + 8)) L p < L then d (o + 8) (rk 4 (d (o + 8)) L p) &&& 255 else -1) := by
  unfold f_X9_here
  refine zl1 (f_X9_here_L0_b o _) (fun _ => rfl) (fun m e => ∃ i, m + i = L ∧ rk 4 (d (o + 8)) L i = rk 4 (d (o + 8)) L p ∧ e o 13 = nI i ∧ Fp o d e) ?_ (L - p) z_N _ ⟨p, by omega, rfl, h13, fun _ _ _ => rfl⟩ (ltz (by omega))
  rintro R m e ⟨i, hm, hr, e4, f1⟩ ih
  unfold f_X9_here_L0_b
  have e1 : e o 12 = nI L := by rw [f1 _ _ (by omega), h12]
  have eB : ∀ k, e (o + 8) k = d (o + 8) k := fun k => f1 _ _ (by omega)
  rw [e1, e4]
  by_cases hi : i = L
  · subst hi
    rw [if_pos ((nI_leI (by omega) (by omega)).mpr (Nat.le_refl _))]
    show ok (if e o 12 ≤ e o 13 then some (-1, e) else _) _
    have hrr : rk 4 (d (o + 8)) i p = i := by rw [← hr, rk_x (by rw [kA_out (by omega)]; omega)]
    rw [e1, e4, if_pos ((nI_leI (by omega) (by omega)).mpr (Nat.le_refl _)), ok_s, hrr, if_neg (by omega)]
    exact ⟨f1, e4, rfl⟩
  have hin : i < L := by omega
  rw [if_neg (nI_ge (by omega) (by omega)), x_ald _ (by omega) (by omega), eB, x_let]
  have go : kd (d (o + 8) i) = 4 → ok (z_put e o 13 (nI i + 1) (fun d2 => R d2)) (fun w => Fp o d w.2 ∧ w.2 o 13 = nI (rk 4 (d (o + 8)) L p) ∧ w.1 = if rk 4 (d (o + 8)) L p < L then d (o + 8) (rk 4 (d (o + 8)) L p) &&& 255 else -1) := fun h9 => by
    rw [x_put, x_addL]
    refine ih (m - 1) _ (by omega) ⟨i + 1, by omega, ?_, u_s _ _ _ _, fun a k hk => ?_⟩
    · rw [← hr, rk_s (p := i) (by omega) (by rw [kA_in hin, h9])]
    · rw [x_un hk, f1 a k hk]
  by_cases b1 : d (o + 8) i = 32
  · rw [if_pos b1]
    exact go (kd_4.mpr (Or.inl b1))
  rw [if_neg b1, x_ald _ (by omega) (by omega), eB]
  by_cases b2 : d (o + 8) i = 10
  · rw [if_pos b2]
    exact go (kd_4.mpr (Or.inr b2))
  rw [if_neg b2]
  have hrr : rk 4 (d (o + 8)) L p = i := by rw [← hr, rk_x (by rw [kA_in hin, kd_4]; exact fun h9 => h9.elim b1 b2)]
  show ok (if e o 12 ≤ e o 13 then some (-1, e) else _) _
  rw [e1, e4, if_neg (nI_ge (by omega) (by omega)), x_ald _ (by omega) (by omega), ok_s, hrr, if_pos hin, eB]
  exact ⟨f1, e4, rfl⟩
theorem a255 {x : Int32} (h : -128 ≤ x ∧ x ≤ 127) : ((x &&& 255) = 59 ↔ x = 59) ∧ ((48 ≤ (x &&& 255) ∧ (x &&& 255) ≤ 57) ↔ (48 ≤ x ∧ x ≤ 57)) ∧ ¬ (x &&& 255) = -1 := by
  obtain ⟨y, hy, rfl⟩ : ∃ y : Nat, y < 256 ∧ x = nI y - 128 := by
    have h1 := (fa_le _ _).mp h.1
    have h2 := (fa_le _ _).mp h.2
    have e1 : (-128 : Int32).toInt = -128 := rfl
    have e2 : (127 : Int32).toInt = 127 := rfl
    refine ⟨(x.toInt + 128).toNat, by omega, ?_⟩
    rw [fa_eq]
    have e3 : (nI (x.toInt + 128).toNat).toInt = x.toInt + 128 := by
      rw [nI_toInt (by omega)]
      omega
    have e4 : (128 : Int32).toInt = 128 := rfl
    rw [fb_subI (by omega) (by omega), e3, e4]
    omega
  clear h
  revert y
  decide +kernel
