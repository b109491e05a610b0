/-! ===== the class: what would be ===== -/
theorem sp_msd {t : sp_T} (hn : tn t ≤ 8) {j d : Nat} (h : j < tn t) : sp_msx (sp_setd t d) (nI j) = sp_ms (sp_setd t d) j := sp_msx_n (t := sp_setd t d) hn h
theorem erF_np {t : sp_T} {i : Nat} (h : sp_pp t i = false) (f n : Nat) : erF t i f n = -1 := by
  induction f generalizing n with
  | zero => rfl
  | succ f ih =>
    have : sp_ms (sp_setd t (td t + n)) i = false := by unfold sp_ms; rw [show sp_pp (sp_setd t (td t + n)) i = false from h]; rfl
    simp [erF, this, ih]
theorem sp_hm_t {t : sp_T} {i : Nat} (h : sp_pp t i = true) : sp_exc (sp_stk t i) + nI 1000 = sp_hm t i := by unfold sp_hm; rw [h, if_pos rfl]
theorem sp_hm_f {t : sp_T} {i : Nat} (h : sp_pp t i = false) : -1 = sp_hm t i := by unfold sp_hm; rw [h]; rfl
theorem lpF_ex {pr : Nat → Bool} (N k : Nat) (h : ∃ j, k ≤ j ∧ j < k + N ∧ pr j = true) : lpF pr N k < k + N := by
  induction N generalizing k with
  | zero => obtain ⟨j, h1, h2, _⟩ := h; omega
  | succ N ih =>
    simp only [lpF]
    split
    · omega
    · rename_i hk
      obtain ⟨j, h1, h2, h3⟩ := h
      have hj : j ≠ k := fun q => hk (q ▸ h3)
      have := ih (k + 1) ⟨j, by omega, by omega, h3⟩
      omega
theorem cntF_ex {a n : Nat} (h : 0 < cntF a n) : ∃ j, 0 ≤ j ∧ j < 0 + n ∧ a.testBit j = true := by
  induction n with
  | zero => exact absurd h (Nat.lt_irrefl 0)
  | succ n ih =>
    rw [cntF_s] at h
    by_cases hb : a.testBit n = true
    · exact ⟨n, by omega, by omega, hb⟩
    · rw [if_neg hb] at h
      obtain ⟨j, h1, h2, h3⟩ := ih h
      exact ⟨j, h1, by omega, h3⟩
theorem sp_lop_lt {t : sp_T} (hI : sp_I t) (h : 0 < pcN (tpr t)) : sp_lop t < tn t := by
  rw [← cntF_8 hI.pr hI.n] at h
  have := lpF_ex (pr := sp_pp t) (tn t) 0 (cntF_ex h)
  rw [Nat.zero_add] at this
  exact this
