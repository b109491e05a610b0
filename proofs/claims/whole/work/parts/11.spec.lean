/-! ===== what a tower is, and what is done with it ===== -/
/-- a loop: the step at k, k + 1 .., n times -/
def lp {σ : Type} (f : Nat → σ → σ) : Nat → Nat → σ → σ
  | 0, _, s => s
  | n + 1, k, s => lp f n (k + 1) (f k s)
/-- DAY, FLOORS, WEIGHT, MOST, TABLE, RULE; poured, SLOW, LOAD of each; PROPS as a set -/
abbrev sp_T : Type := Nat × Nat × Nat × Nat × Nat × Nat × (Nat → Nat) × (Nat → Nat) × (Nat → Int32) × Nat
def td (t : sp_T) : Nat := t.1
def tn (t : sp_T) : Nat := t.2.1
def tw (t : sp_T) : Nat := t.2.2.1
def tm (t : sp_T) : Nat := t.2.2.2.1
def tt (t : sp_T) : Nat := t.2.2.2.2.1
def tr (t : sp_T) : Nat := t.2.2.2.2.2.1
def tpo (t : sp_T) : Nat → Nat := t.2.2.2.2.2.2.1
def tsl (t : sp_T) : Nat → Nat := t.2.2.2.2.2.2.2.1
def tlo (t : sp_T) : Nat → Int32 := t.2.2.2.2.2.2.2.2.1
def tpr (t : sp_T) : Nat := t.2.2.2.2.2.2.2.2.2
def sp_setd (t : sp_T) (d : Nat) : sp_T := (d, t.2)
def sp_setlo (t : sp_T) (lo : Nat → Int32) : sp_T := (td t, tn t, tw t, tm t, tt t, tr t, tpo t, tsl t, lo, tpr t)
def sp_setpr (t : sp_T) (pr : Nat) : sp_T := (td t, tn t, tw t, tm t, tt t, tr t, tpo t, tsl t, tlo t, pr)
def sp_setsl (t : sp_T) (sl : Nat → Nat) : sp_T := (td t, tn t, tw t, tm t, tt t, tr t, tpo t, sl, tlo t, tpr t)
def updN (f : Nat → Nat) (k x : Nat) : Nat → Nat := fun j => if j = k then x else f j
def sp_age (t : sp_T) (k : Nat) : Nat := td t - tpo t k
def sp_rip (t : sp_T) (k : Nat) : Nat := sp_age t k * (10 - tsl t k) / 10
/-- how often r can be halved until it is 1, f times at most -/
def sp_hv : Nat → Nat → Nat
  | 0, _ => 0
  | f + 1, r => if 1 < r then 1 + sp_hv f (r / 2) else 0
def sp_pct (tb r : Nat) : Nat := if tb = 0 then 100 * r / (r + 4) else if tb = 1 then (if 10 ≤ r then 100 else 10 * r) else if r = 0 then 0 else 20 + 20 * sp_hv 4 r
def sp_str (t : sp_T) (k : Nat) : Nat := tm t * sp_pct (tt t) (sp_rip t k) / 100
def sp_pp (t : sp_T) (k : Nat) : Bool := (tpr t).testBit k
def lowF (pr : Nat → Bool) : Nat → Nat
  | 0 => 0
  | k + 1 => if pr (k + 1) then lowF pr k else k + 1
def hiF (pr : Nat → Bool) : Nat → Nat → Nat
  | 0, i => i
  | m + 1, i => if pr (i + 1) then hiF pr m (i + 1) else i
def sp_low (t : sp_T) (i : Nat) : Nat := lowF (sp_pp t) i
def sp_hi (t : sp_T) (i : Nat) : Nat := hiF (sp_pp t) (tn t - 1 - i) i
def sp_gr (t : sp_T) (i : Nat) : Bool := decide (sp_low t i = 0) && sp_pp t 0
def sp_frs (t : sp_T) (k : Nat) (a : Int32) : Int32 := a + (nI (tw t) - tlo t k)
def sp_frc (t : sp_T) (i : Nat) : Int32 := if sp_pp t i then lp (sp_frs t) (sp_hi t i + 1 - i) i 0 else 0
def sp_wks (t : sp_T) (k : Nat) (a : Int32) : Int32 := if nI (sp_str t k) < tlo t k then a ||| (nI 1 <<< (nI k &&& 31)) else a
def sp_wk (t : sp_T) : Int32 := lp (sp_wks t) (tn t) 0 0
def sp_safe (t : sp_T) : Bool := decide (sp_wk t = 0)
def sp_exs (t : sp_T) (k : Nat) (a : Int32) : Int32 := if a < tlo t k - nI (sp_str t k) then tlo t k - nI (sp_str t k) else a
def sp_exc (t : sp_T) : Int32 := lp (sp_exs t) (tn t - 1) 1 (tlo t 0 - nI (sp_str t 0))
/-- what is shared -/
def sp_prt (t : sp_T) (k : Nat) : Nat := if tr t = 0 then (if sp_age t k = 0 then 0 else 1) else if tr t = 1 then sp_str t k else sp_age t k
def sp_als (P : Nat → Nat) (k a : Nat) : Nat := a + P k
def sp_al0 (t : sp_T) (lo hi : Nat) : Nat := lp (sp_als (sp_prt t)) (hi + 1 - lo) lo 0
def sp_P (t : sp_T) (lo hi : Nat) : Nat → Nat := if sp_al0 t lo hi = 0 then fun _ => 1 else sp_prt t
def sp_al (t : sp_T) (lo hi : Nat) : Nat := if sp_al0 t lo hi = 0 then hi + 1 - lo else sp_al0 t lo hi
def sp_got (q : Int32) (P al : Nat) : Int32 := ((q.toInt64 * lN P) / lN al).toInt32
def sp_s1 (q : Int32) (P : Nat → Nat) (al : Nat) (k : Nat) (s : (Nat → Int32) × Int32) : (Nat → Int32) × Int32 := (upd s.1 k (s.1 k + sp_got q (P k) al), s.2 - sp_got q (P k) al)
def sp_sg (x : Int32) : Int32 := if x < 0 then -1 else 1
def sp_s2 (P : Nat → Nat) (k : Nat) (s : (Nat → Int32) × Int32) : (Nat → Int32) × Int32 := if s.2 = 0 ∨ P k = 0 then s else (upd s.1 k (s.1 k + sp_sg s.2), s.2 - sp_sg s.2)
def sp_sh1 (t : sp_T) (lo hi : Nat) (q : Int32) : (Nat → Int32) × Int32 := lp (sp_s1 q (sp_P t lo hi) (sp_al t lo hi)) (hi + 1 - lo) lo (tlo t, q)
def sp_sh2 (t : sp_T) (lo hi : Nat) (q : Int32) : (Nat → Int32) × Int32 := lp (sp_s2 (sp_P t lo hi)) (hi + 1 - lo) lo (sp_sh1 t lo hi q)
def sp_shr (t : sp_T) (i : Nat) (q : Int32) : sp_T := if sp_gr t i then t else sp_setlo t (sp_sh2 t (sp_low t i) (sp_hi t i) q).1
/-- poured, struck, put back -/
def sp_new (t : sp_T) : sp_T := (td t, tn t + 1, tw t, tm t, tt t, tr t, updN (tpo t) (tn t) (td t), updN (tsl t) (tn t) 0, upd (tlo t) (tn t) (nI 0), tpr t ||| 2 ^ tn t)
def sp_pour (t : sp_T) : sp_T := sp_shr (sp_new t) (tn t) (nI (tw t))
def sp_off (t : sp_T) (i : Nat) : sp_T := sp_setpr t (tpr t &&& (255 - 2 ^ i))
def sp_on (t : sp_T) (i : Nat) : sp_T := sp_setpr t (tpr t ||| 2 ^ i)
def sp_stk1 (t : sp_T) (i : Nat) : sp_T := sp_shr (sp_off t i) i (sp_frc t i)
def sp_stk (t : sp_T) (i : Nat) : sp_T := if i = 0 then sp_stk1 t i else sp_shr (sp_stk1 t i) (i - 1) (-(sp_frc t i))
def sp_clr (t : sp_T) : sp_T := (0, 0, tw t, tm t, tt t, tr t, tpo t, tsl t, tlo t, 0)
/-- what holds of every tower -/
def sp_I (t : sp_T) : Prop := tn t ≤ 8 ∧ td t ≤ 200000 ∧ tw t ≤ 50 ∧ tm t ≤ 400 ∧ tt t ≤ 2 ∧ tr t ≤ 2 ∧ (∀ k, k < tn t → tpo t k ≤ td t ∧ tsl t k ≤ 9) ∧ tpr t < 2 ^ tn t
theorem sp_I.n {t : sp_T} (h : sp_I t) : tn t ≤ 8 := h.1
theorem sp_I.d {t : sp_T} (h : sp_I t) : td t ≤ 200000 := h.2.1
theorem sp_I.w {t : sp_T} (h : sp_I t) : tw t ≤ 50 := h.2.2.1
theorem sp_I.m {t : sp_T} (h : sp_I t) : tm t ≤ 400 := h.2.2.2.1
theorem sp_I.t {t : sp_T} (h : sp_I t) : tt t ≤ 2 := h.2.2.2.2.1
theorem sp_I.r {t : sp_T} (h : sp_I t) : tr t ≤ 2 := h.2.2.2.2.2.1
theorem sp_I.po {t : sp_T} (h : sp_I t) {k : Nat} (hk : k < tn t) : tpo t k ≤ td t := (h.2.2.2.2.2.2.1 k hk).1
theorem sp_I.sl {t : sp_T} (h : sp_I t) {k : Nat} (hk : k < tn t) : tsl t k ≤ 9 := (h.2.2.2.2.2.2.1 k hk).2
theorem sp_I.pr {t : sp_T} (h : sp_I t) : tpr t < 2 ^ tn t := h.2.2.2.2.2.2.2
theorem sp_I.pr8 {t : sp_T} (h : sp_I t) : tpr t < 256 := Nat.lt_of_lt_of_le h.pr (Nat.pow_le_pow_right (by decide) h.n)
/-- the class's tower: bounds, pouredOn, slowness, load, part; day, count, props -/
abbrev sp_U : Type := (Nat → Int32) × (Nat → Int32) × (Nat → Int32) × (Nat → Int32) × (Nat → Int32) × Int32 × Int32 × Int32
abbrev sp_A : Type := Nat × Nat × Nat × Nat × Nat × Nat
def twW (g : sp_G) (a : sp_A) (u : sp_U) : va_W := [(a.1, .inr (3, [.ref a.2.1, .ref a.2.2.1, .ref a.2.2.2.1, .ref a.2.2.2.2.1, .ref a.2.2.2.2.2, .int u.2.2.2.2.2.1, .int u.2.2.2.2.2.2.1, .int u.2.2.2.2.2.2.2])), (a.2.1, .inl (g.2.1, 4, .inl u.1)), (a.2.2.1, .inl (g.2.1, 8, .inl u.2.1)), (a.2.2.2.1, .inl (g.2.1, 8, .inl u.2.2.1)), (a.2.2.2.2.1, .inl (g.2.1, 8, .inl u.2.2.2.1)), (a.2.2.2.2.2, .inl (g.2.1, 8, .inl u.2.2.2.2.1))]
def sp_R (u : sp_U) (t : sp_T) : Prop := (u.1 0 = nI (tw t) ∧ u.1 1 = nI (tm t) ∧ u.1 2 = nI (tt t) ∧ u.1 3 = nI (tr t)) ∧ (∀ k, k < tn t → u.2.1 k = nI (tpo t k)) ∧ (∀ k, k < tn t → u.2.2.1 k = nI (tsl t k)) ∧ (∀ k, k < tn t → u.2.2.2.1 k = tlo t k) ∧ u.2.2.2.2.2.1 = nI (td t) ∧ u.2.2.2.2.2.2.1 = nI (tn t) ∧ u.2.2.2.2.2.2.2 = nI (tpr t)
theorem sp_R.b0 {u : sp_U} {t : sp_T} (h : sp_R u t) : u.1 0 = nI (tw t) := h.1.1
theorem sp_R.b1 {u : sp_U} {t : sp_T} (h : sp_R u t) : u.1 1 = nI (tm t) := h.1.2.1
theorem sp_R.b2 {u : sp_U} {t : sp_T} (h : sp_R u t) : u.1 2 = nI (tt t) := h.1.2.2.1
theorem sp_R.b3 {u : sp_U} {t : sp_T} (h : sp_R u t) : u.1 3 = nI (tr t) := h.1.2.2.2
theorem sp_c8 {k : Nat} (h : k < 2 ^ 31) : (nI k).toNatClampNeg = k := nI_clamp h
theorem sp_R.po {u : sp_U} {t : sp_T} (h : sp_R u t) {k : Nat} (hk : k < tn t) : u.2.1 k = nI (tpo t k) := h.2.1 k hk
theorem sp_R.sl {u : sp_U} {t : sp_T} (h : sp_R u t) {k : Nat} (hk : k < tn t) : u.2.2.1 k = nI (tsl t k) := h.2.2.1 k hk
theorem sp_R.lo {u : sp_U} {t : sp_T} (h : sp_R u t) {k : Nat} (hk : k < tn t) : u.2.2.2.1 k = tlo t k := h.2.2.2.1 k hk
theorem sp_R.day {u : sp_U} {t : sp_T} (h : sp_R u t) : u.2.2.2.2.2.1 = nI (td t) := h.2.2.2.2.1
theorem sp_R.cnt {u : sp_U} {t : sp_T} (h : sp_R u t) : u.2.2.2.2.2.2.1 = nI (tn t) := h.2.2.2.2.2.1
theorem sp_R.prp {u : sp_U} {t : sp_T} (h : sp_R u t) : u.2.2.2.2.2.2.2 = nI (tpr t) := h.2.2.2.2.2.2
/-! small numbers -/
theorem sp_sub {a b : Nat} (h : b ≤ a) : nI a - nI b = nI (a - b) := by
  have e : nI a = nI (a - b) + nI b := by rw [nI_add, Nat.sub_add_cancel h]
  rw [e, Int32.add_sub_cancel]
theorem sp_mul (a b : Nat) : nI a * nI b = nI (a * b) := by
  show Int32.ofNat a * Int32.ofNat b = Int32.ofNat (a * b)
  rw [Int32.ofNat_mul]
theorem sp_toInt {a : Nat} (h : a < 2 ^ 31) : (nI a).toInt = (a : Int) := nI_toInt h
theorem sp_div {a b : Nat} (ha : a < 2 ^ 31) (hb : b < 2 ^ 31) (h0 : 0 < b) : nI a / nI b = nI (a / b) := by
  apply Int32.toInt_inj.mp
  have hq : a / b < 2 ^ 31 := Nat.lt_of_le_of_lt (Nat.div_le_self a b) ha
  rw [Int32.toInt_div_of_ne_right _ _ (by
    intro hc
    have := congrArg Int32.toInt hc
    rw [sp_toInt hb] at this
    have h1 : (-1 : Int32).toInt = -1 := by decide
    omega), sp_toInt ha, sp_toInt hb, sp_toInt hq]
  rw [Int.tdiv_eq_ediv_of_nonneg (by omega)]
  rfl
theorem sp_ne {a : Nat} (h0 : 0 < a) (h : a < 2 ^ 31) : ¬ nI a = 0 := nI_ne0 h0 h
theorem sp_b0 {b : Bool} : bI b = 0 ↔ b = false := by cases b <;> decide
theorem sp_b0n {b : Bool} : ¬ bI b = 0 ↔ b = true := by cases b <;> decide
theorem sp_z_eq {a : Nat} (h : a < 2 ^ 31) : nI a = 0 ↔ a = 0 := by rw [← nI_0]; exact nI_eq h (by decide)
theorem sp_z_le {a : Nat} (h : a < 2 ^ 31) : nI a ≤ 0 ↔ a = 0 := by rw [← nI_0, nI_leI h (by decide)]; omega
theorem sp_z_gt {a : Nat} (h : a < 2 ^ 31) : 0 < nI a ↔ 0 < a := by rw [← nI_0]; exact nI_ltI (by decide) h
theorem sp_z_lt {a : Nat} (h : a < 2 ^ 31) : nI a < 0 ↔ a < 0 := by rw [← nI_0]; exact nI_ltI h (by decide)
theorem sp_z_ge {a : Nat} (h : a < 2 ^ 31) : 0 ≤ nI a ↔ 0 ≤ a := by rw [← nI_0]; exact nI_leI (by decide) h
theorem sp_dec (k : Nat) : nI (k + 1) + (-1) = nI k := by
  rw [← nI_pred k]; exact (Int32.sub_eq_add_neg _ _).symm
theorem lp_step {σ : Type} (f : Nat → σ → σ) {N k : Nat} (h : k < N) (x : σ) : lp f (N - k) k x = lp f (N - (k + 1)) (k + 1) (f k x) := by
  rw [show N - k = (N - (k + 1)) + 1 by omega]; rfl
theorem lp_end {σ : Type} (f : Nat → σ → σ) {N k : Nat} (h : N ≤ k) (x : σ) : lp f (N - k) k x = x := by
  rw [show N - k = 0 by omega]; rfl
def sp_has (x : Int32) (n : Nat) : Bool := decide (0 ≤ x.toInt ∧ x.toInt < n)
theorem sp_has_iff {x : Int32} {n : Nat} : sp_has x n = true ↔ vp_in x n := by rw [sp_has, decide_eq_true_eq, vp_in_iff]
theorem sp_has_t {x : Int32} {n : Nat} (h : sp_has x n = true) (hn : n ≤ 8) : ∃ j : Nat, j < n ∧ x = nI j := vp_in_of (sp_has_iff.mp h) (by omega)
theorem sp_has_n {j n : Nat} (hn : n ≤ 8) (h : j < n) : sp_has (nI j) n = true := sp_has_iff.mpr (vp_in_nI h (by omega))
theorem sp_in1 {x : Int32} {n : Nat} (h : x < 0) : false = sp_has x n := by
  refine (Bool.eq_false_iff.mpr fun q => ?_).symm
  exact (sp_has_iff.mp q) (Or.inl h)
theorem sp_in2 {x : Int32} {n : Nat} (hn : n ≤ 8) (h : nI n ≤ x) : false = sp_has x n := by
  refine (Bool.eq_false_iff.mpr fun q => ?_).symm
  obtain ⟨j, hj, rfl⟩ := sp_has_t q hn
  exact absurd ((nI_leI (by omega) (by omega)).mp h) (by omega)
theorem sp_in3 {x : Int32} {n : Nat} (hn : n ≤ 8) (h1 : ¬ x < 0) (h2 : ¬ nI n ≤ x) : true = sp_has x n := by
  refine (sp_has_iff.mpr ?_).symm
  obtain ⟨j, hj, rfl⟩ := nI_of h1
  exact vp_in_nI (Nat.not_le.mp fun q => h2 ((nI_leI (by omega) hj).mpr q)) (by omega)
theorem sp_hv_step {f r : Nat} (hf : 0 < f) (hr : 1 < r) : sp_hv f r = 1 + sp_hv (f - 1) (r / 2) := by
  obtain ⟨k, rfl⟩ : ∃ k, f = k + 1 := ⟨f - 1, by omega⟩
  simp [sp_hv, hr]
theorem sp_hv_end {f r : Nat} (hr : ¬ 1 < r) : sp_hv f r = 0 := by
  cases f <;> simp [sp_hv, hr]
theorem sp_hv_le (f r : Nat) : sp_hv f r ≤ f := by
  induction f generalizing r with
  | zero => simp [sp_hv]
  | succ f ih => simp only [sp_hv]; split
                 · have := ih (r / 2); omega
                 · omega
theorem sp_pct_le (tb r : Nat) : sp_pct tb r ≤ 100 := by
  unfold sp_pct
  split
  · exact Nat.div_le_of_le_mul (by omega)
  · split
    · split <;> omega
    · split
      · omega
      · have := sp_hv_le 4 r; omega
theorem sp_pct0 {r : Nat} (h : r ≤ 2000000) : ((lN 100 * lN r) / (lN r + lN 4)).toInt32 = nI (sp_pct 0 r) := by
  have hq : 100 * r / (r + 4) ≤ 100 := Nat.div_le_of_le_mul (by omega)
  rw [lN_mul, lN_add]
  have e : lN (100 * r) / lN (r + 4) = lN (100 * r / (r + 4)) := by
    apply Int64.toInt_inj.mp
    rw [Int64.toInt_div_of_ne_right _ _ (by
      intro hc
      have := congrArg Int64.toInt hc
      rw [lN_toInt (by omega)] at this
      have h1 : (-1 : Int64).toInt = -1 := by decide
      omega), lN_toInt (by omega), lN_toInt (by omega), lN_toInt (by omega), Int.tdiv_eq_ediv_of_nonneg (by omega)]
    rfl
  rw [e, lN_i]; rfl
theorem sp_lne {a : Nat} (h0 : 0 < a) (h : a < 2 ^ 31) : ¬ lN a = 0 := by
  intro hc
  have := congrArg Int64.toInt hc
  rw [lN_toInt h] at this
  have h1 : (0 : Int64).toInt = 0 := by decide
  omega
theorem sp_age_le {t : sp_T} (hI : sp_I t) (k : Nat) : sp_age t k ≤ 200000 := Nat.le_trans (Nat.sub_le _ _) hI.d
theorem sp_rip_le {t : sp_T} (hI : sp_I t) (k : Nat) : sp_rip t k ≤ 200000 := by
  have h := sp_age_le hI k
  unfold sp_rip
  refine Nat.div_le_of_le_mul ?_
  calc sp_age t k * (10 - tsl t k) ≤ 200000 * 10 := Nat.mul_le_mul h (by omega)
    _ = 10 * 200000 := by omega
theorem sp_str_le {t : sp_T} (hI : sp_I t) (k : Nat) : sp_str t k ≤ 400 := by
  unfold sp_str
  refine Nat.div_le_of_le_mul ?_
  calc tm t * sp_pct (tt t) (sp_rip t k) ≤ 400 * 100 := Nat.mul_le_mul hI.m (sp_pct_le _ _)
    _ = 100 * 400 := by omega
theorem lowF_le (pr : Nat → Bool) (i : Nat) : lowF pr i ≤ i := by
  induction i with
  | zero => exact Nat.le_refl _
  | succ k ih => simp only [lowF]; split <;> omega
theorem hiF_ge (pr : Nat → Bool) (m i : Nat) : i ≤ hiF pr m i ∧ hiF pr m i ≤ i + m := by
  induction m generalizing i with
  | zero => simp [hiF]
  | succ m ih => simp only [hiF]; split
                 · have := ih (i + 1); omega
                 · omega
theorem sp_low_le (t : sp_T) (i : Nat) : sp_low t i ≤ i := lowF_le _ i
theorem sp_le_hi (t : sp_T) (i : Nat) : i ≤ sp_hi t i := (hiF_ge _ _ i).1
theorem sp_hi_lt {t : sp_T} {i : Nat} (h : i < tn t) : sp_hi t i < tn t := by
  have := (hiF_ge (sp_pp t) (tn t - 1 - i) i).2
  unfold sp_hi
  omega
theorem sp_hi_step {t : sp_T} {k : Nat} (h : k + 1 < tn t) (hp : sp_pp t (k + 1) = true) : sp_hi t k = sp_hi t (k + 1) := by
  unfold sp_hi
  rw [show tn t - 1 - k = (tn t - 1 - (k + 1)) + 1 by omega]
  simp only [hiF, hp, if_true]
theorem sp_hi_end {t : sp_T} {k : Nat} (h : tn t ≤ k + 1 ∨ sp_pp t (k + 1) = false) : sp_hi t k = k := by
  unfold sp_hi
  rcases Nat.lt_or_ge (k + 1) (tn t) with h1 | h1
  · rw [show tn t - 1 - k = (tn t - 1 - (k + 1)) + 1 by omega]
    rcases h with h | h
    · omega
    · simp [hiF, h]
  · rw [show tn t - 1 - k = 0 by omega]; rfl
/-- the lowest floor under which props stand; FLOORS: none -/
def lpF (pr : Nat → Bool) : Nat → Nat → Nat
  | 0, k => k
  | n + 1, k => if pr k then k else lpF pr n (k + 1)
def sp_lop (t : sp_T) : Nat := lpF (sp_pp t) (tn t) 0
theorem lpF_end {pr : Nat → Bool} {N k : Nat} (h : N ≤ k) : lpF pr (N - k) k = k := by rw [show N - k = 0 by omega]; rfl
theorem lpF_step {pr : Nat → Bool} {N k : Nat} (h : k < N) (hp : pr k = false) : lpF pr (N - k) k = lpF pr (N - (k + 1)) (k + 1) := by
  rw [show N - k = (N - (k + 1)) + 1 by omega]; simp [lpF, hp]
theorem lpF_hit {pr : Nat → Bool} {N k : Nat} (h : k < N) (hp : pr k = true) : lpF pr (N - k) k = k := by
  rw [show N - k = (N - (k + 1)) + 1 by omega]; simp [lpF, hp]
theorem sp_cmp {a : Nat} (h : a < 2 ^ 31) : 0 < lg_cmp (lN a) (lN 0) ↔ 0 < a := by
  unfold lg_cmp
  rcases Nat.eq_zero_or_pos a with h0 | h0
  · subst h0; simp
  · have : lN a > lN 0 := (lN_lt (by omega) h).mpr h0
    simp [this, h0]
theorem sp_wks_t {t : sp_T} {k : Nat} {z : Int32} (h : nI (sp_str t k) < tlo t k) : sp_wks t k z = z ||| (nI 1 <<< (nI k &&& 31)) := by unfold sp_wks; rw [if_pos h]
theorem sp_wks_f {t : sp_T} {k : Nat} {z : Int32} (h : ¬ nI (sp_str t k) < tlo t k) : sp_wks t k z = z := by unfold sp_wks; rw [if_neg h]
