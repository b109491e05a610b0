/-! ===== the reference: draws, cycles ===== -/
theorem sp_dr_A {t : sp_T} {w i m : Nat} (h : w < 2) : sp_dr t w i m = sp_setd t (td t + m) := by unfold sp_dr; rw [if_pos h]
theorem sp_dr_B {t : sp_T} {w i m : Nat} (h : w = 2) (hm : sp_mp t = true) : sp_dr t w i m = sp_pour t := by unfold sp_dr; rw [if_neg (by omega), if_pos h, hm, if_pos rfl]
theorem sp_dr_C {t : sp_T} {w i m : Nat} (h : w = 2) (hm : sp_mp t = false) : sp_dr t w i m = t := by unfold sp_dr; rw [if_neg (by omega), if_pos h, hm]; rfl
theorem sp_dr_D {t : sp_T} {w i m : Nat} (h : w = 3) (hm : sp_msx t (nI i) = true) : sp_dr t w i m = sp_stk t i := by unfold sp_dr; rw [if_neg (by omega), if_neg (by omega), if_pos h, hm, if_pos rfl]
theorem sp_dr_E {t : sp_T} {w i m : Nat} (h : w = 3) (hm : sp_msx t (nI i) = false) : sp_dr t w i m = t := by unfold sp_dr; rw [if_neg (by omega), if_neg (by omega), if_pos h, hm]; rfl
theorem sp_dr_F {t : sp_T} {w i m : Nat} (h : w = 4) (hm : i < tn t) : sp_dr t w i m = sp_on t i := by unfold sp_dr; rw [if_neg (by omega), if_neg (by omega), if_neg (by omega), if_pos hm]
theorem sp_dr_G {t : sp_T} {w i m : Nat} (h : w = 4) (hm : ¬ i < tn t) : sp_dr t w i m = t := by unfold sp_dr; rw [if_neg (by omega), if_neg (by omega), if_neg (by omega), if_neg hm]
theorem sp_d1_eq {x : sp_S} {k s1 s2 s3 w i m : Nat} {T : sp_T} (e1 : sp_nx (s_sd x) = s1) (e2 : sp_nx s1 = s2) (e3 : sp_nx s2 = s3) (ew : s1 / 65536 % 5 = w) (ei : s2 / 65536 % 8 = i) (em : s3 / 65536 % 10 = m) (hT : sp_dr (s_now x) w i m = T) : sp_d1 k x = sp_sets (sp_setn (sp_note x) T) s3 := by
  subst hT; subst ew; subst ei; subst em; subst e3; subst e2; subst e1; rfl
theorem o_drift_o {x : sp_S} {n : Int32} (h : sp_inI n (nI 1) (nI 20) = false) : o_drift x n = (-1000000002, x) := by unfold o_drift; rw [h]; rfl
theorem o_drift_y {x y : sp_S} {n : Nat} (h1 : 1 ≤ n) (h2 : n ≤ 20) (h : y = lp sp_d1 n 0 x) : o_drift x (nI n) = (nI (tn (s_now y)), y) := by
  subst h; unfold o_drift; rw [sp_inI_n h1 h2 (by omega), if_pos rfl, sp_c8 (by omega)]
theorem sp_mp_8 {t : sp_T} (h : sp_mp t = true) : tn t < 8 := by
  unfold sp_mp at h; rw [Bool.and_eq_true, decide_eq_true_eq] at h; exact h.1
theorem sp_msx_j {t : sp_T} (hn : tn t ≤ 8) {j : Nat} (hj : j < 8) (h : sp_msx t (nI j) = true) : j < tn t := by
  rcases Bool.eq_false_or_eq_true (sp_has (nI j) (tn t)) with q | q
  · obtain ⟨i, h1, h2⟩ := sp_has_t q hn
    rw [(nI_eq (by omega) (by omega)).mp h2]; exact h1
  · rw [sp_msx_f q] at h; exact absurd h (by decide)
theorem sp_has_j {n j : Nat} (hn : n ≤ 8) (hj : j < 8) (h : sp_has (nI j) n = true) : j < n := by
  obtain ⟨i, h1, h2⟩ := sp_has_t h hn
  rw [(nI_eq (by omega) (by omega)).mp h2]; exact h1
theorem sp_has_jn {n j : Nat} (hn : n ≤ 8) (h : sp_has (nI j) n = false) : ¬ j < n := by
  intro q; rw [sp_has_n hn q] at h; exact absurd h (by decide)
/-- one floor of a cycle -/
theorem cyS_s {m c k : Nat} {r r2 r3 : sp_T} (h1 : cy1 m (sp_setd r (k * c)) = some r2) (h2 : cy2 r2 = some r3) : cyS m c k (some r) = some r3 := by
  unfold cyS; simp [h1, h2]
theorem cyS_n1 {m c k : Nat} {r : sp_T} (h1 : cy1 m (sp_setd r (k * c)) = none) : cyS m c k (some r) = none := by
  unfold cyS; simp [h1]
theorem cyS_n2 {m c k : Nat} {r r2 : sp_T} (h1 : cy1 m (sp_setd r (k * c)) = some r2) (h2 : cy2 r2 = none) : cyS m c k (some r) = none := by
  unfold cyS; simp [h1, h2]
theorem cy1_t {m : Nat} {r : sp_T} (h : pcN (tpr r) = m) (hs : sp_safe (sp_stk r (sp_lop r)) = true) : cy1 m r = some (sp_stk r (sp_lop r)) := by unfold cy1; rw [if_pos h, hs, if_pos rfl]
theorem cy1_n {m : Nat} {r : sp_T} (h : pcN (tpr r) = m) (hs : sp_safe (sp_stk r (sp_lop r)) = false) : cy1 m r = none := by unfold cy1; rw [if_pos h, hs]; rfl
theorem cy1_f {m : Nat} {r : sp_T} (h : ¬ pcN (tpr r) = m) : cy1 m r = some r := by unfold cy1; rw [if_neg h]
theorem cy2_t {r : sp_T} (hs : sp_safe (sp_pour r) = true) : cy2 r = some (sp_pour r) := by unfold cy2; rw [hs, if_pos rfl]
theorem cy2_n {r : sp_T} (hs : sp_safe (sp_pour r) = false) : cy2 r = none := by unfold cy2; rw [hs]; rfl
/-- the state of a cycle ahead of floor k -/
def sp_cyI (t : sp_T) (m c k : Nat) (r : sp_T) : Prop := sp_I r ∧ tn r = k ∧ td r ≤ k * c ∧ sp_sm r t ∧ (lp (cyS m c) (8 - k) k (some r)).isSome = sp_hold t m c
theorem sp_cyI_0 {t : sp_T} (hI : sp_I t) (m c : Nat) : sp_cyI t m c 0 (sp_clr t) := ⟨sp_I_clr hI, rfl, Nat.zero_le _, ⟨rfl, rfl, rfl, rfl⟩, rfl⟩
theorem sp_cyI_s {t : sp_T} {m c k : Nat} {r r3 : sp_T} (h : sp_cyI t m c k r) (hk : k < 8) (hs : cyS m c k (some r) = some r3) (h1 : sp_I r3) (h2 : tn r3 = k + 1) (h3 : td r3 ≤ (k + 1) * c) (h4 : sp_sm r3 t) : sp_cyI t m c (k + 1) r3 :=
  ⟨h1, h2, h3, h4, by rw [← h.2.2.2.2, lp_step (cyS m c) hk, hs]⟩
theorem sp_cyI_n {t : sp_T} {m c k : Nat} {r : sp_T} (h : sp_cyI t m c k r) (hk : k < 8) (hs : cyS m c k (some r) = none) : sp_hold t m c = false := by
  rw [← h.2.2.2.2, lp_step (cyS m c) hk, hs, cy_none]; rfl
theorem sp_cyI_e {t : sp_T} {m c k : Nat} {r : sp_T} (h : sp_cyI t m c k r) (hk : 8 ≤ k) : sp_hold t m c = true := by
  rw [← h.2.2.2.2, lp_end _ hk]; rfl
theorem sp_cyI_d {t : sp_T} {m c k : Nat} {r : sp_T} (h : sp_cyI t m c k r) (hk : k < 8) (hc : c ≤ 28) : sp_I (sp_setd r (k * c)) := by
  refine sp_I_setd h.1 h.2.2.1 ?_
  have : k * c ≤ 8 * 28 := Nat.mul_le_mul (by omega) hc
  omega
theorem cyF_t {t : sp_T} {m c : Nat} (h : c < 29) (hh : sp_hold t m c = true) : cyF t m (29 - c) c = nI c := by
  rw [show 29 - c = (29 - (c + 1)) + 1 by omega]; simp [cyF, hh]
theorem cyF_f {t : sp_T} {m c : Nat} (h : c < 29) (hh : sp_hold t m c = false) : cyF t m (29 - c) c = cyF t m (29 - (c + 1)) (c + 1) := by
  rw [show 29 - c = (29 - (c + 1)) + 1 by omega]; simp [cyF, hh]
theorem cyF_e {t : sp_T} {m c : Nat} (h : 29 ≤ c) : cyF t m (29 - c) c = -1 := by rw [show 29 - c = 0 by omega]; rfl
theorem o_cycle_o {t : sp_T} {m : Int32} (h : sp_inI m (nI 1) (nI 3) = false) : o_cycle t m = -1000000002 := by unfold o_cycle; rw [h]; rfl
theorem o_cycle_y {t : sp_T} {m : Nat} (h1 : 1 ≤ m) (h2 : m ≤ 3) : o_cycle t (nI m) = cyF t m 28 1 := by unfold o_cycle; rw [sp_inI_n h1 h2 (by omega), if_pos rfl, sp_c8 (by omega)]
theorem sp_bool {b X : Bool} (h1 : b = true → X = true) (h2 : b = false → X = false) : b = X := by
  cases b
  · exact (h2 rfl).symm
  · exact (h1 rfl).symm
theorem cntF_le (a j : Nat) : cntF a j ≤ j := by
  induction j with
  | zero => exact Nat.le_refl _
  | succ j ih => rw [cntF_s]; split <;> omega
theorem sp_pcN_le (a : Nat) : pcN a ≤ 8 := cntF_le a 8
