/-! 7k.jtotal: total -/
theorem St.tms {d : z_D} {b t n s cl : Nat} {ρ : Nat → Int32} (hcl : ∀ j, j < cl → SG d (b + 5 + 21 * j) ρ (56 + 325 * j) n ∧ CL d (b + 5 + 21 * j) ρ (56 + 325 * j)) : ∃ g : Nat → Nat → Nat, ∀ j r, j < cl → r < 16 → g j r ≤ 99999 ∧ ρ (56 + 325 * j + 133 + 12 * r) = nI (g j r) := by
  have h : ∀ j r, ∃ x : Nat, j < cl → r < 16 → x ≤ 99999 ∧ ρ (56 + 325 * j + 133 + 12 * r) = nI x := fun j r => by
    by_cases hj : j < cl ∧ r < 16
    · obtain ⟨x, hx⟩ := ((hcl j hj.1).2.2.2.2.2.2 r hj.2).2.1
      exact ⟨x, fun _ _ => hx⟩
    · exact ⟨0, fun h1 h2 => absurd ⟨h1, h2⟩ hj⟩
  exact ⟨fun j r => Classical.choose (h j r), fun j r => Classical.choose_spec (h j r)⟩
def tsv (ρ : Nat → Int32) (g : Nat → Nat → Nat) (k n j : Nat) : Int32 := t3v (fdR (t3 (tmQ ρ k) (g j)) t3z (rfin ρ (56 + 325 * j)) n) (ρ (56 + 325 * j + 9))
theorem k_tsum {d : z_D} {b t n s cl k : Nat} {ρ : Nat → Int32} {g : Nat → Nat → Nat} (h : St d b ρ t n s) (hc : f_X3_closed d b = some (nI cl)) (h8 : cl ≤ 8) (hcl : ∀ j, j < cl → SG d (b + 5 + 21 * j) ρ (56 + 325 * j) n ∧ CL d (b + 5 + 21 * j) ρ (56 + 325 * j)) (hg : ∀ j r, j < cl → r < 16 → g j r ≤ 99999 ∧ ρ (56 + 325 * j + 133 + 12 * r) = nI (g j r)) : f_X3_teamSum d b (nI k) = some (smT (tsv ρ g k n) cl) := by
  have hn16 := h.1.2.1.2
  refine k_teamSum hc h8 (fun j hj => ?_)
  rw [k_teamTime (k := k) (b1 := b + 1) (hcl j hj).1 (hcl j hj).2 hn16 (fun r hr => hg j r hj hr) (fun r hr => (h.2.2.1 r hr).2.2.2.1)]
  have hx := fdR_ext (f := t3 (tmQ ρ k) (g j)) (z := t3z) (fin := rfin ρ (56 + 325 * j)) (n := n) (16 - n) (fun r h1 h2 => by
    obtain ⟨f, f1, f2, f3⟩ := ((hcl j hj).1.2.2.2.2.1 r (by omega)).1
    unfold rfin
    rw [f2, f3 h1]
    rfl)
  rw [show n + (16 - n) = 16 by omega] at hx
  rw [hx]
  rfl
theorem m_tsum {d dc : z_D} {o b t n s cl k : Nat} {g : Nat → Nat → Nat} (h : St dc b (d (o + 1)) t n s) (hc : d (o + 1) 2 - d (o + 1) 3 = nI cl) (h8 : cl ≤ s) (hg : ∀ j r, j < cl → r < 16 → g j r ≤ 99999 ∧ d (o + 1) (56 + 325 * j + 133 + 12 * r) = nI (g j r)) : ok (f_X9_teamTotal d o (nI k)) (fun w => w.1 = smT (tsv (d (o + 1)) g k n) cl ∧ ∀ q, q ≠ o + 7 → w.2 q = d q) := by
  have hn16 := h.1.2.1.2
  have hs8 := h.1.2.2.1.2
  refine m_teamTotal hc (by omega) (fun j e hj hE => ?_)
  have E1 : e (o + 1) = d (o + 1) := hE _ (by omega)
  have := m_threeOf (d := e) (o := o) (n := n) (k := k) (j := j) (g := g j) hn16 (by rw [E1, h.1.2.1.1]) (by omega) (fun r hr => by rw [E1]; exact hg j r hj hr) (fun r hr => by rw [E1]; exact h.fpos r j hr (by omega))
  rw [E1] at this
  exact this
