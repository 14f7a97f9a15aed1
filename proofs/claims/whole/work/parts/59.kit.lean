/-! 59.kit: programs that answer, loops, literals -/
def ok {α : Type} (p : Option α) (Q : α → Prop) : Prop := ∃ x, p = some x ∧ Q x
theorem ok_s {α : Type} {x : α} {Q : α → Prop} : ok (some x) Q ↔ Q x := ⟨fun ⟨_, h, q⟩ => by cases h; exact q, fun q => ⟨x, rfl, q⟩⟩
theorem ok_b {α β : Type} {p : Option α} {f : α → Option β} {Q : β → Prop} : ok (p.bind f) Q ↔ ok p (fun x => ok (f x) Q) := by
  constructor
  · rintro ⟨y, h, q⟩
    cases p with
    | none => cases h
    | some x => exact ⟨x, rfl, y, h, q⟩
  · rintro ⟨x, rfl, y, h, q⟩
    exact ⟨y, h, q⟩
theorem ok_m {α : Type} {p : Option α} {P Q : α → Prop} (h : ok p P) (f : ∀ x, P x → Q x) : ok p Q := by
  obtain ⟨x, e, q⟩ := h
  exact ⟨x, e, f x q⟩
theorem ok_e {α : Type} {p : Option α} {v : α} : ok p (fun x => x = v) ↔ p = some v := ⟨fun ⟨_, h, q⟩ => by rw [h, q], fun h => ⟨v, h, rfl⟩⟩
theorem ok_bX {α : Type} {p : Option (Int32 × z_D)} {f : Int32 → z_D → Option α} {Q : α → Prop} : ok (z_bX p f) Q ↔ ok p (fun x => ok (f x.1 x.2) Q) := ok_b
theorem x_ob {α β : Type} (a : α) (f : α → Option β) : (some a).bind f = f a := Eq.trans rfl rfl
theorem x_let {α γ : Type} (J : γ) (F : γ → Option α) : z_let J F = F J := Eq.trans rfl rfl
theorem x_nam {α β : Type} (x : β) (K : β → Option α) : z_nam x K = K x := Eq.trans rfl rfl
theorem x_put {α : Type} (d : z_D) (a i : Nat) (x : Int32) (K : z_D → Option α) : z_put d a i x K = K (z_up d a i x) := Eq.trans rfl rfl
theorem x_bX {α : Type} (x : Int32) (d : z_D) (f : Int32 → z_D → Option α) : z_bX (some (x, d)) f = f x d := Eq.trans rfl rfl
theorem x_bl {α : Type} {x : Int32} {r : Option α} (h : x = 0 ∨ x = 1) : z_bool x r = r := if_pos h
theorem zl1 {A α : Type} {F : Nat → A → Option α} (B : (A → Option α) → A → Option α) (hF : ∀ n, F (n + 1) = B (F n)) {Q : α → Prop} (I : Nat → A → Prop)
    (st : ∀ R m a, I m a → (∀ k a', k < m → I k a' → ok (R a') Q) → ok (B R a) Q) : ∀ m f a, I m a → m < f → ok (F f a) Q := by
  intro m
  induction m using Nat.strongRecOn with
  | _ m ih =>
    intro f a h hf
    obtain ⟨g, rfl⟩ : ∃ g, f = g + 1 := ⟨f - 1, by omega⟩
    rw [hF]
    exact st _ m a h (fun k a' hk h' => ih k hk g a' h' (by omega))
theorem zl2 {A1 A2 α : Type} {F : Nat → A1 → A2 → Option α} (B : (A1 → A2 → Option α) → A1 → A2 → Option α) (hF : ∀ n, F (n + 1) = B (F n)) {Q : α → Prop} (I : Nat → A1 → A2 → Prop)
    (st : ∀ R m a b, I m a b → (∀ k a' b', k < m → I k a' b' → ok (R a' b') Q) → ok (B R a b) Q) : ∀ m f a b, I m a b → m < f → ok (F f a b) Q := by
  intro m
  induction m using Nat.strongRecOn with
  | _ m ih =>
    intro f a b h hf
    obtain ⟨g, rfl⟩ : ∃ g, f = g + 1 := ⟨f - 1, by omega⟩
    rw [hF]
    exact st _ m a b h (fun k a' b' hk h' => ih k hk g a' b' h' (by omega))
theorem zl3 {A1 A2 A3 α : Type} {F : Nat → A1 → A2 → A3 → Option α} (B : (A1 → A2 → A3 → Option α) → A1 → A2 → A3 → Option α) (hF : ∀ n, F (n + 1) = B (F n)) {Q : α → Prop} (I : Nat → A1 → A2 → A3 → Prop)
    (st : ∀ R m a b c, I m a b c → (∀ k a' b' c', k < m → I k a' b' c' → ok (R a' b' c') Q) → ok (B R a b c) Q) : ∀ m f a b c, I m a b c → m < f → ok (F f a b c) Q := by
  intro m
  induction m using Nat.strongRecOn with
  | _ m ih =>
    intro f a b c h hf
    obtain ⟨g, rfl⟩ : ∃ g, f = g + 1 := ⟨f - 1, by omega⟩
    rw [hF]
    exact st _ m a b c h (fun k a' b' c' hk h' => ih k hk g a' b' c' h' (by omega))
theorem zl4 {A1 A2 A3 A4 α : Type} {F : Nat → A1 → A2 → A3 → A4 → Option α} (B : (A1 → A2 → A3 → A4 → Option α) → A1 → A2 → A3 → A4 → Option α) (hF : ∀ n, F (n + 1) = B (F n)) {Q : α → Prop} (I : Nat → A1 → A2 → A3 → A4 → Prop)
    (st : ∀ R m a b c d, I m a b c d → (∀ k a' b' c' d', k < m → I k a' b' c' d' → ok (R a' b' c' d') Q) → ok (B R a b c d) Q) : ∀ m f a b c d, I m a b c d → m < f → ok (F f a b c d) Q := by
  intro m
  induction m using Nat.strongRecOn with
  | _ m ih =>
    intro f a b c d h hf
    obtain ⟨g, rfl⟩ : ∃ g, f = g + 1 := ⟨f - 1, by omega⟩
    rw [hF]
    exact st _ m a b c d h (fun k a' b' c' d' hk h' => ih k hk g a' b' c' d' h' (by omega))
theorem zl5 {A1 A2 A3 A4 A5 α : Type} {F : Nat → A1 → A2 → A3 → A4 → A5 → Option α} (B : (A1 → A2 → A3 → A4 → A5 → Option α) → A1 → A2 → A3 → A4 → A5 → Option α) (hF : ∀ n, F (n + 1) = B (F n)) {Q : α → Prop} (I : Nat → A1 → A2 → A3 → A4 → A5 → Prop)
    (st : ∀ R m a b c d e, I m a b c d e → (∀ k a' b' c' d' e', k < m → I k a' b' c' d' e' → ok (R a' b' c' d' e') Q) → ok (B R a b c d e) Q) : ∀ m f a b c d e, I m a b c d e → m < f → ok (F f a b c d e) Q := by
  intro m
  induction m using Nat.strongRecOn with
  | _ m ih =>
    intro f a b c d e h hf
    obtain ⟨g, rfl⟩ : ∃ g, f = g + 1 := ⟨f - 1, by omega⟩
    rw [hF]
    exact st _ m a b c d e h (fun k a' b' c' d' e' hk h' => ih k hk g a' b' c' d' e' h' (by omega))
theorem ltz {n : Nat} (h : n < 6000) : n < z_N := h
/-! literals -/
theorem x_ald {α : Type} {d : z_D} {a N : Nat} {K : Int32 → Option α} (i : Nat) (h : i < N) (hN : N < 2 ^ 31) : z_ald d a N (nI i) K = K (d a i) := q_ald h hN
theorem x_aldL {α : Type} {d : z_D} {a N : Nat} {K : Int32 → Option α} (i : Nat) (h : (OfNat.ofNat i : Nat) < N) (hN : N < 2 ^ 31) : z_ald d a N (no_index (OfNat.ofNat i : Int32)) K = K (d a (OfNat.ofNat i : Nat)) := q_ald (i := i) h hN
theorem x_ast {α : Type} {d : z_D} {a N : Nat} {x : Int32} {K : z_D → Option α} (i : Nat) (h : i < N) (hN : N < 2 ^ 31) : z_ast d a N (nI i) x K = K (z_up d a i x) := q_ast h hN
theorem x_astL {α : Type} {d : z_D} {a N : Nat} {x : Int32} {K : z_D → Option α} (i : Nat) (h : (OfNat.ofNat i : Nat) < N) (hN : N < 2 ^ 31) : z_ast d a N (no_index (OfNat.ofNat i : Int32)) x K = K (z_up d a (OfNat.ofNat i : Nat) x) := q_ast (i := i) h hN
theorem x_addL (a b : Nat) : HAdd.hAdd (nI a) (no_index (OfNat.ofNat b : Int32)) = nI (a + (OfNat.ofNat b : Nat)) := nI_add a b
theorem x_Ladd (a b : Nat) : HAdd.hAdd (no_index (OfNat.ofNat a : Int32)) (nI b) = nI ((OfNat.ofNat a : Nat) + b) := nI_add a b
theorem x_mulL (a b : Nat) : HMul.hMul (nI a) (no_index (OfNat.ofNat b : Int32)) = nI (a * (OfNat.ofNat b : Nat)) := pk_mul a b
theorem x_Lmul (a b : Nat) : HMul.hMul (no_index (OfNat.ofNat a : Int32)) (nI b) = nI ((OfNat.ofNat a : Nat) * b) := pk_mul a b
theorem x_subL (a b : Nat) (h : (OfNat.ofNat b : Nat) ≤ a) : HSub.hSub (nI a) (no_index (OfNat.ofNat b : Int32)) = nI (a - (OfNat.ofNat b : Nat)) := pk_sub h
theorem x_m1 (a : Nat) (h : 1 ≤ a) : nI a + (-1) = nI (a - 1) := by
  obtain ⟨b, rfl⟩ : ∃ b, a = b + 1 := ⟨a - 1, by omega⟩
  exact pk_m1 b
theorem x_le (a b : Nat) (ha : a < 2 ^ 31) (hb : b < 2 ^ 31) : (nI a ≤ nI b) = (a ≤ b) := propext (nI_leI ha hb)
theorem x_lt (a b : Nat) (ha : a < 2 ^ 31) (hb : b < 2 ^ 31) : (nI a < nI b) = (a < b) := propext (nI_ltI ha hb)
theorem x_eq (a b : Nat) (ha : a < 2 ^ 31) (hb : b < 2 ^ 31) : (nI a = nI b) = (a = b) := propext (nI_eq ha hb)
theorem x_leL (a b : Nat) (ha : a < 2 ^ 31) (hb : (OfNat.ofNat b : Nat) < 2 ^ 31) : (LE.le (nI a) (no_index (OfNat.ofNat b : Int32))) = (a ≤ (OfNat.ofNat b : Nat)) := propext (nI_leI ha hb)
theorem x_ltL (a b : Nat) (ha : a < 2 ^ 31) (hb : (OfNat.ofNat b : Nat) < 2 ^ 31) : (LT.lt (nI a) (no_index (OfNat.ofNat b : Int32))) = (a < (OfNat.ofNat b : Nat)) := propext (nI_ltI ha hb)
theorem x_eqL (a b : Nat) (ha : a < 2 ^ 31) (hb : (OfNat.ofNat b : Nat) < 2 ^ 31) : (Eq (nI a) (no_index (OfNat.ofNat b : Int32))) = (a = (OfNat.ofNat b : Nat)) := propext (nI_eq ha hb)
theorem x_Lle (a b : Nat) (ha : (OfNat.ofNat a : Nat) < 2 ^ 31) (hb : b < 2 ^ 31) : (LE.le (no_index (OfNat.ofNat a : Int32)) (nI b)) = ((OfNat.ofNat a : Nat) ≤ b) := propext (nI_leI ha hb)
theorem x_Llt (a b : Nat) (ha : (OfNat.ofNat a : Nat) < 2 ^ 31) (hb : b < 2 ^ 31) : (LT.lt (no_index (OfNat.ofNat a : Int32)) (nI b)) = ((OfNat.ofNat a : Nat) < b) := propext (nI_ltI ha hb)
theorem x_nm1 (a : Nat) (ha : a < 2 ^ 31) : (nI a = (-1)) = False := by
  refine propext ⟨fun h => ?_, False.elim⟩
  have h2 := nI_pos (n := a) ha
  rw [h] at h2
  exact h2 (by decide)
theorem x_nle1 (a : Nat) (ha : a < 2 ^ 31) : (nI a ≤ (-1)) = False := by
  refine propext ⟨fun h => ?_, False.elim⟩
  have h2 := nI_pos (n := a) ha
  exact h2 (Int32.lt_of_le_of_lt h (by decide))
theorem x_m1lt (a : Nat) (ha : a < 2 ^ 31) : ((-1) < nI a) = True := by
  refine propext ⟨fun _ => trivial, fun _ => ?_⟩
  exact Int32.lt_of_lt_of_le (b := 0) (by decide) (nI_pos' ha)
theorem x_at (s w : Nat) : f_X9_at (nI s) (nI w) = some (nI (56 + 325 * s + w)) := q_at s w
theorem x_atL (s w : Nat) : f_X9_at (nI s) (no_index (OfNat.ofNat w : Int32)) = some (nI (56 + 325 * s + (OfNat.ofNat w : Nat))) := q_at s w
theorem x_at_ (s r w : Nat) : f_X9_at_ (nI s) (nI r) (nI w) = some (nI (183 + 325 * s + 12 * r + w)) := q_at_ s r w
theorem x_at_L (s r w : Nat) : f_X9_at_ (nI s) (nI r) (no_index (OfNat.ofNat w : Int32)) = some (nI (183 + 325 * s + 12 * r + (OfNat.ofNat w : Nat))) := q_at_ s r w
theorem x_mk (s m w : Nat) : f_X9_mark (nI s) (nI m) (nI w) = some (nI (69 + 325 * s + 19 * m + w)) := q_mark s m w
theorem x_mkL (s m w : Nat) : f_X9_mark (nI s) (nI m) (no_index (OfNat.ofNat w : Int32)) = some (nI (69 + 325 * s + 19 * m + (OfNat.ofNat w : Nat))) := q_mark s m w
theorem n_a0 (n : Nat) : n + 0 = n := by omega
theorem x_at0 (s : Nat) : f_X9_at (nI s) 0 = some (nI (56 + 325 * s)) := by
  rw [x_atL, n_a0]
theorem x_at_0 (s r : Nat) : f_X9_at_ (nI s) (nI r) 0 = some (nI (183 + 325 * s + 12 * r)) := by
  rw [x_at_L, n_a0]
theorem x_mk0 (s m : Nat) : f_X9_mark (nI s) (nI m) 0 = some (nI (69 + 325 * s + 19 * m)) := by
  rw [x_mkL, n_a0]
theorem x_ue {d : z_D} {a k a' k' : Nat} {v : Int32} (h : a' = a) (h2 : k' = k) : z_up d a k v a' k' = v := by simp [z_up, h, h2]
theorem x_un {d : z_D} {a k a' k' : Nat} {v : Int32} (h : ¬ (a' = a ∧ k' = k)) : z_up d a k v a' k' = d a' k' := by simp [z_up, h]
theorem x_uf {d : z_D} {a k a' : Nat} {v : Int32} (h : ¬ a' = a) : z_up d a k v a' = d a' := u_a h
theorem x_w (x a b : Int32) : f_X8_within x a b = some (b01 (a ≤ x ∧ x ≤ b)) := q_X8_within x a b
theorem x_wi (x a b : Int32) : f_X9_isIn x a b = some (b01 (a ≤ x ∧ x ≤ b)) := q_X9_isIn x a b
theorem x_b0 {p : Prop} [Decidable p] : (b01 p = 0) = ¬ p := propext b01_0
theorem x_b1 {p : Prop} [Decidable p] : (b01 p = 1) = p := propext b01_1
theorem x_bb {p : Prop} [Decidable p] : (b01 p = 0 ∨ b01 p = 1) = True := by
  refine propext ⟨fun _ => trivial, fun _ => b01_b⟩
theorem x_ifle_t {α : Type} {t e : α} (a b : Nat) (h : a ≤ b) (ha : a < 2 ^ 31) (hb : b < 2 ^ 31) : (if nI a ≤ nI b then t else e) = t := if_pos ((nI_leI ha hb).mpr h)
theorem x_ifle_f {α : Type} {t e : α} (a b : Nat) (h : ¬ a ≤ b) (ha : a < 2 ^ 31) (hb : b < 2 ^ 31) : (if nI a ≤ nI b then t else e) = e := if_neg (fun q => h ((nI_leI ha hb).mp q))
theorem x_ifleL_t {α : Type} {t e : α} (a b : Nat) (h : a ≤ (OfNat.ofNat b : Nat)) (ha : a < 2 ^ 31) (hb : (OfNat.ofNat b : Nat) < 2 ^ 31) : (if LE.le (nI a) (no_index (OfNat.ofNat b : Int32)) then t else e) = t := if_pos ((nI_leI ha hb).mpr h)
theorem x_ifleL_f {α : Type} {t e : α} (a b : Nat) (h : ¬ a ≤ (OfNat.ofNat b : Nat)) (ha : a < 2 ^ 31) (hb : (OfNat.ofNat b : Nat) < 2 ^ 31) : (if LE.le (nI a) (no_index (OfNat.ofNat b : Int32)) then t else e) = e := if_neg (fun q => h ((nI_leI ha hb).mp q))
theorem x_ifLle_t {α : Type} {t e : α} (a b : Nat) (h : (OfNat.ofNat a : Nat) ≤ b) (ha : (OfNat.ofNat a : Nat) < 2 ^ 31) (hb : b < 2 ^ 31) : (if LE.le (no_index (OfNat.ofNat a : Int32)) (nI b) then t else e) = t := if_pos ((nI_leI ha hb).mpr h)
theorem x_ifLle_f {α : Type} {t e : α} (a b : Nat) (h : ¬ (OfNat.ofNat a : Nat) ≤ b) (ha : (OfNat.ofNat a : Nat) < 2 ^ 31) (hb : b < 2 ^ 31) : (if LE.le (no_index (OfNat.ofNat a : Int32)) (nI b) then t else e) = e := if_neg (fun q => h ((nI_leI ha hb).mp q))
theorem x_iflt_t {α : Type} {t e : α} (a b : Nat) (h : a < b) (ha : a < 2 ^ 31) (hb : b < 2 ^ 31) : (if nI a < nI b then t else e) = t := if_pos ((nI_ltI ha hb).mpr h)
theorem x_iflt_f {α : Type} {t e : α} (a b : Nat) (h : ¬ a < b) (ha : a < 2 ^ 31) (hb : b < 2 ^ 31) : (if nI a < nI b then t else e) = e := if_neg (fun q => h ((nI_ltI ha hb).mp q))
theorem x_ifltL_t {α : Type} {t e : α} (a b : Nat) (h : a < (OfNat.ofNat b : Nat)) (ha : a < 2 ^ 31) (hb : (OfNat.ofNat b : Nat) < 2 ^ 31) : (if LT.lt (nI a) (no_index (OfNat.ofNat b : Int32)) then t else e) = t := if_pos ((nI_ltI ha hb).mpr h)
theorem x_ifltL_f {α : Type} {t e : α} (a b : Nat) (h : ¬ a < (OfNat.ofNat b : Nat)) (ha : a < 2 ^ 31) (hb : (OfNat.ofNat b : Nat) < 2 ^ 31) : (if LT.lt (nI a) (no_index (OfNat.ofNat b : Int32)) then t else e) = e := if_neg (fun q => h ((nI_ltI ha hb).mp q))
theorem x_ifLlt_t {α : Type} {t e : α} (a b : Nat) (h : (OfNat.ofNat a : Nat) < b) (ha : (OfNat.ofNat a : Nat) < 2 ^ 31) (hb : b < 2 ^ 31) : (if LT.lt (no_index (OfNat.ofNat a : Int32)) (nI b) then t else e) = t := if_pos ((nI_ltI ha hb).mpr h)
theorem x_ifLlt_f {α : Type} {t e : α} (a b : Nat) (h : ¬ (OfNat.ofNat a : Nat) < b) (ha : (OfNat.ofNat a : Nat) < 2 ^ 31) (hb : b < 2 ^ 31) : (if LT.lt (no_index (OfNat.ofNat a : Int32)) (nI b) then t else e) = e := if_neg (fun q => h ((nI_ltI ha hb).mp q))
theorem x_ifeq_t {α : Type} {t e : α} (a b : Nat) (h : a = b) (ha : a < 2 ^ 31) (hb : b < 2 ^ 31) : (if nI a = nI b then t else e) = t := if_pos ((nI_eq ha hb).mpr h)
theorem x_ifeq_f {α : Type} {t e : α} (a b : Nat) (h : ¬ a = b) (ha : a < 2 ^ 31) (hb : b < 2 ^ 31) : (if nI a = nI b then t else e) = e := if_neg (fun q => h ((nI_eq ha hb).mp q))
theorem x_ifeqL_t {α : Type} {t e : α} (a b : Nat) (h : a = (OfNat.ofNat b : Nat)) (ha : a < 2 ^ 31) (hb : (OfNat.ofNat b : Nat) < 2 ^ 31) : (if Eq (nI a) (no_index (OfNat.ofNat b : Int32)) then t else e) = t := if_pos ((nI_eq ha hb).mpr h)
theorem x_ifeqL_f {α : Type} {t e : α} (a b : Nat) (h : ¬ a = (OfNat.ofNat b : Nat)) (ha : a < 2 ^ 31) (hb : (OfNat.ofNat b : Nat) < 2 ^ 31) : (if Eq (nI a) (no_index (OfNat.ofNat b : Int32)) then t else e) = e := if_neg (fun q => h ((nI_eq ha hb).mp q))
theorem x_ifnm1 {α : Type} {t e : α} (a : Nat) (ha : a < 2 ^ 31) : (if nI a = (-1) then t else e) = e := if_neg (fun q => by rw [x_nm1 a ha] at q; exact q)
theorem x_ifb0 {α : Type} {t e : α} {p : Prop} [Decidable p] : (if b01 p = 0 then t else e) = if p then e else t := by
  by_cases h : p
  · rw [b01_t h, if_neg (by decide), if_pos h]
  · rw [b01_f h, if_pos rfl, if_neg h]
theorem x_ifb1 {α : Type} {t e : α} {p : Prop} [Decidable p] : (if b01 p = 1 then t else e) = if p then t else e := by
  by_cases h : p
  · rw [b01_t h, if_pos rfl, if_pos h]
  · rw [b01_f h, if_neg (by decide), if_neg h]
theorem x_if00 {α : Type} {t e : α} : (if (0 : Int32) = 0 then t else e) = t := if_pos rfl
theorem x_if10 {α : Type} {t e : α} : (if (1 : Int32) = 0 then t else e) = e := if_neg (by decide)
theorem x_aald {α : Type} {N : Nat} {K : Nat → Option α} (i : Nat) (h : i < N) (hN : N < 2 ^ 31) : z_aald N (nI i) K = K i := q_aald h hN
