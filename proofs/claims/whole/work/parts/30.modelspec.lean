/-! ===== the reference: its cells ===== -/
abbrev sp_V : Type := (Nat → Int32) × (Nat → Int32) × (Nat → Int32) × Int32 × (Nat → Int32) × (Nat → Int64) × (Nat → Int32) × Int64 × (Nat → Int32) × Int32 × (Nat → Int32)
abbrev sp_A9 : Type := Nat × Nat × Nat × Nat × Nat × Nat × Nat × Nat × Nat
def mdW (g : sp_G) (a : sp_A9) (v : sp_V) : va_W := [(a.1, .inr (5, [.ref a.2.1, .ref a.2.2.1, .ref a.2.2.2.1, .int v.2.2.2.1, .ref a.2.2.2.2.1, .ref a.2.2.2.2.2.1, .ref a.2.2.2.2.2.2.1, .long v.2.2.2.2.2.2.2.1, .ref a.2.2.2.2.2.2.2.1, .int v.2.2.2.2.2.2.2.2.2.1, .ref a.2.2.2.2.2.2.2.2])), (a.2.1, .inl (g.2.1, 38, .inl v.1)), (a.2.2.1, .inl (g.2.1, 38, .inl v.2.1)), (a.2.2.2.1, .inl (g.2.1, 760, .inl v.2.2.1)), (a.2.2.2.2.1, .inl (g.2.1, 76, .inl v.2.2.2.2.1)), (a.2.2.2.2.2.1, .inl (g.2.2.1, 2, .inr (.inl v.2.2.2.2.2.1))), (a.2.2.2.2.2.2.1, .inl (g.2.2.2.1, 2, .inl v.2.2.2.2.2.2.1)), (a.2.2.2.2.2.2.2.1, .inl (g.2.1, 40, .inl v.2.2.2.2.2.2.2.2.1)), (a.2.2.2.2.2.2.2.2, .inl (g.2.1, 8, .inl v.2.2.2.2.2.2.2.2.2.2))]
/-- a tower as a row of 38 numbers -/
def sp_Rm (f : Nat → Int32) (t : sp_T) : Prop := f 0 = nI (td t) ∧ f 1 = nI (tn t) ∧ f 2 = nI (tw t) ∧ f 3 = nI (tm t) ∧ f 4 = nI (tt t) ∧ f 5 = nI (tr t) ∧ ∀ k, k < tn t → f (6 + 4 * k + 0) = nI (tpo t k) ∧ f (6 + 4 * k + 1) = nI (tsl t k) ∧ f (6 + 4 * k + 2) = tlo t k ∧ f (6 + 4 * k + 3) = bI (sp_pp t k)
theorem sp_Rm.d {f : Nat → Int32} {t : sp_T} (h : sp_Rm f t) : f 0 = nI (td t) := h.1
theorem sp_Rm.n {f : Nat → Int32} {t : sp_T} (h : sp_Rm f t) : f 1 = nI (tn t) := h.2.1
theorem sp_Rm.w {f : Nat → Int32} {t : sp_T} (h : sp_Rm f t) : f 2 = nI (tw t) := h.2.2.1
theorem sp_Rm.m {f : Nat → Int32} {t : sp_T} (h : sp_Rm f t) : f 3 = nI (tm t) := h.2.2.2.1
theorem sp_Rm.t {f : Nat → Int32} {t : sp_T} (h : sp_Rm f t) : f 4 = nI (tt t) := h.2.2.2.2.1
theorem sp_Rm.r {f : Nat → Int32} {t : sp_T} (h : sp_Rm f t) : f 5 = nI (tr t) := h.2.2.2.2.2.1
theorem sp_Rm.po {f : Nat → Int32} {t : sp_T} (h : sp_Rm f t) {k : Nat} (hk : k < tn t) : f (6 + 4 * k + 0) = nI (tpo t k) := (h.2.2.2.2.2.2 k hk).1
theorem sp_Rm.sl {f : Nat → Int32} {t : sp_T} (h : sp_Rm f t) {k : Nat} (hk : k < tn t) : f (6 + 4 * k + 1) = nI (tsl t k) := (h.2.2.2.2.2.2 k hk).2.1
theorem sp_Rm.lo {f : Nat → Int32} {t : sp_T} (h : sp_Rm f t) {k : Nat} (hk : k < tn t) : f (6 + 4 * k + 2) = tlo t k := (h.2.2.2.2.2.2 k hk).2.2.1
theorem sp_Rm.pp {f : Nat → Int32} {t : sp_T} (h : sp_Rm f t) {k : Nat} (hk : k < tn t) : f (6 + 4 * k + 3) = bI (sp_pp t k) := (h.2.2.2.2.2.2 k hk).2.2.2
def sp_inI (x lo hi : Int32) : Bool := decide (lo ≤ x) && decide (x ≤ hi)
theorem sp_inI_1 {x lo hi : Int32} (h : x < lo) : false = sp_inI x lo hi := by unfold sp_inI; rw [decide_eq_false (Int32.not_le.mpr h)]; rfl
theorem sp_inI_2 {x lo hi : Int32} (h : hi < x) : false = sp_inI x lo hi := by unfold sp_inI; rw [decide_eq_false (Int32.not_le.mpr h), Bool.and_false]
theorem sp_inI_3 {x lo hi : Int32} (h : ¬ x < lo) (h2 : ¬ hi < x) : true = sp_inI x lo hi := by unfold sp_inI; rw [decide_eq_true (Int32.not_lt.mp h), decide_eq_true (Int32.not_lt.mp h2)]; rfl
theorem sp_inI_has {x : Int32} {n : Nat} (hn : n ≤ 8) : sp_inI x (nI 0) (nI n - nI 1) = sp_has x n := by
  have e : (nI n - nI 1).toInt = (n : Int) - 1 := by
    rw [Int32.toInt_sub, nI_toInt (by omega), nI_toInt (by omega)]
    exact sp_bm (by omega) (by omega)
  unfold sp_inI sp_has
  rw [← Bool.decide_and]
  refine decide_eq_decide.mpr ?_
  rw [Int32.le_iff_toInt_le, Int32.le_iff_toInt_le, e, nI_toInt (by omega)]
  omega
theorem sp_hv_min (f F r : Nat) (h : f ≤ F) : sp_hv f r = min f (sp_hv F r) := by
  induction f generalizing F r with
  | zero => simp [sp_hv]
  | succ f ih =>
    obtain ⟨G, rfl⟩ : ∃ G, F = G + 1 := ⟨F - 1, by omega⟩
    simp only [sp_hv]
    split
    · have := ih G (r / 2) (by omega); omega
    · omega
theorem sp_or0 (z : Int32) : z ||| nI 0 = z := by show z ||| 0 = z; simp
theorem sp_frc_step {t : sp_T} {i k : Nat} {z : Int32} (h : k < sp_hi t i + 1) (hp : sp_pp t i = true) (hh : (if sp_pp t i then lp (sp_frs t) (sp_hi t i + 1 - k) k z else z) = sp_frc t i) : (if sp_pp t i then lp (sp_frs t) (sp_hi t i + 1 - (k + 1)) (k + 1) (sp_frs t k z) else sp_frs t k z) = sp_frc t i := by
  rw [← hh, hp, if_pos rfl, if_pos rfl, lp_step (sp_frs t) h]
theorem sp_frc_end {t : sp_T} {i k : Nat} {z : Int32} (h : ¬ k < sp_hi t i + 1 ∨ sp_pp t i = false) (hh : (if sp_pp t i then lp (sp_frs t) (sp_hi t i + 1 - k) k z else z) = sp_frc t i) : z = sp_frc t i := by
  rw [← hh]
  rcases h with h | h
  · rw [lp_end _ (by omega)]; split <;> rfl
  · rw [h]; rfl
theorem sp_hv_32 {r : Nat} (h : r < 2 ^ 32) (h1 : 1 < r) : sp_hv 32 r = 1 + sp_hv 32 (r / 2) := by
  have key : ∀ f r, r < 2 ^ f → sp_hv (f + 1) r = sp_hv f r := by
    intro f
    induction f with
    | zero => intro r hr; simp [sp_hv]; omega
    | succ f ih =>
      intro r hr
      by_cases h1 : 1 < r
      · rw [sp_hv_step (by omega) h1, sp_hv_step (f := f + 1) (by omega) h1]
        exact congrArg (1 + ·) (ih (r / 2) (by omega))
      · rw [sp_hv_end h1, sp_hv_end h1]
  rw [sp_hv_step (by omega) h1, ← key 31 (r / 2) (by omega)]
theorem sp_bI1 {b : Bool} (h : bI b = nI 1) : b = true := by cases b <;> first | rfl | exact absurd h (by decide)
theorem sp_bI0 {b : Bool} (h : ¬ bI b = nI 1) : b = false := by cases b <;> first | rfl | exact absurd rfl h
theorem sp_Rm_lo {h : Nat → Int32} {t : sp_T} {L : Nat → Int32} (hM : sp_Rm h (sp_setlo t L)) (k : Nat) (x : Int32) : sp_Rm (upd h (6 + 4 * k + 2) x) (sp_setlo t (upd L k x)) := by
  obtain ⟨c0, c1, c2, c3, c4, c5, c6⟩ := hM
  have ne : ∀ j, j < 6 → upd h (6 + 4 * k + 2) x j = h j := fun j hj => sp_upd_n (by omega)
  refine ⟨(ne 0 (by omega)).trans c0, (ne 1 (by omega)).trans c1, (ne 2 (by omega)).trans c2, (ne 3 (by omega)).trans c3, (ne 4 (by omega)).trans c4, (ne 5 (by omega)).trans c5, fun j hj => ?_⟩
  obtain ⟨d0, d1, d2, d3⟩ := c6 j hj
  refine ⟨(sp_upd_n (by omega)).trans d0, (sp_upd_n (by omega)).trans d1, ?_, (sp_upd_n (by omega)).trans d3⟩
  show upd h (6 + 4 * k + 2) x (6 + 4 * j + 2) = upd L k x j
  by_cases hz : j = k
  · rw [hz, sp_upd_s, sp_upd_s]
  · rw [sp_upd_n (by omega), sp_upd_n hz]; exact d2
theorem sp_upd_same (L : Nat → Int32) (k : Nat) : upd L k (L k) = L := by
  funext j; unfold upd; split
  · rename_i h; rw [h]
  · rfl
theorem sp_Rm_same {h : Nat → Int32} {t : sp_T} {L : Nat → Int32} (hM : sp_Rm h (sp_setlo t L)) (k : Nat) : sp_Rm (upd h (6 + 4 * k + 2) (L k)) (sp_setlo t L) := by
  have h1 := sp_Rm_lo hM k (L k)
  rw [sp_upd_same] at h1
  exact h1
theorem sp_add0 (x : Int32) : x + nI 0 = x := by show x + 0 = x; simp
theorem sp_sub0 (x : Int32) : x - nI 0 = x := by show x - 0 = x; simp
theorem sp_sg_le {x : Int32} (h0 : ¬ x = 0) (h : x ≤ 0) : (-1 : Int32) = sp_sg x := by
  unfold sp_sg
  rw [if_pos]
  have h3 : (0 : Int32).toInt = 0 := by decide
  have h1 := Int32.le_iff_toInt_le.mp h
  rw [h3] at h1
  have hne : x.toInt ≠ 0 := fun q => h0 (Int32.toInt_inj.mp (by rw [q, h3]))
  exact Int32.lt_iff_toInt_lt.mpr (by rw [h3]; omega)
theorem sp_sg_gt {x : Int32} (h : ¬ x ≤ 0) : nI 1 = sp_sg x := by
  unfold sp_sg
  rw [if_neg]
  · rfl
  · intro q; exact h (Int32.le_of_lt q)
theorem sp_sh_end {t : sp_T} (hI : sp_I t) {lo hi : Nat} (h1 : lo ≤ hi) (h2 : hi < 8) (q : Int32) : (sp_sh2 t lo hi q).2 = 0 := by
  unfold sp_sh2 sp_sh1
  refine sp_share_end q (sp_al_pos h1) (Nat.le_trans (sp_al_le hI h2) (by omega)) (sp_al_sum t lo hi) (fun j a b => sp_P_al t a (by omega)) _
theorem sp_Rm_shr {h : Nat → Int32} {t : sp_T} {i : Nat} {q : Int32} {L : Nat → Int32} {x : Int32} (hgr : sp_gr t i = false) (hM : sp_Rm h (sp_setlo t L)) (he : (L, x) = sp_sh2 t (sp_low t i) (sp_hi t i) q) : sp_Rm h (sp_shr t i q) := by
  unfold sp_shr
  rw [hgr, ← he]
  exact hM
