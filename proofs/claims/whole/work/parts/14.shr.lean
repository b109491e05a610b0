/-! ===== sharing, as the class does it ===== -/
def arW (g : sp_G) (a : Nat) (f : Nat → Int32) : va_W := [(a, .inl (g.2.1, 8, .inl f))]
def twH (g : sp_G) (a : sp_A) (u : sp_U) : va_W := [(a.1, .inr (3, [.ref a.2.1, .ref a.2.2.1, .ref a.2.2.2.1, .ref a.2.2.2.2.1, .ref a.2.2.2.2.2, .int u.2.2.2.2.2.1, .int u.2.2.2.2.2.2.1, .int u.2.2.2.2.2.2.2])), (a.2.1, .inl (g.2.1, 4, .inl u.1)), (a.2.2.1, .inl (g.2.1, 8, .inl u.2.1)), (a.2.2.2.1, .inl (g.2.1, 8, .inl u.2.2.1)), (a.2.2.2.2.1, .inl (g.2.1, 8, .inl u.2.2.2.1))]
theorem sp_s2_p0 {P : Nat → Nat} {k : Nat} {s : (Nat → Int32) × Int32} (h : P k = 0) : sp_s2 P k s = s := by unfold sp_s2; rw [if_pos (Or.inr h)]
theorem sp_s2_p1 {P : Nat → Nat} {k : Nat} {f : Nat → Int32} {x y : Int32} (h : ¬ P k = 0) (hx : ¬ x = 0) (hs : sp_sg x = y) : sp_s2 P k (f, x) = (upd f k (f k + y), x - y) := by
  subst hs
  unfold sp_s2
  rw [if_neg (fun q => q.elim hx h)]
theorem sp_sg_t {q : Int32} (h : 0 ≤ q) : nI 1 = sp_sg q := by
  unfold sp_sg; rw [if_neg (Int32.not_lt.mpr h)]; rfl
theorem sp_sg_f {q : Int32} (h : ¬ 0 ≤ q) : (-1 : Int32) = sp_sg q := by
  unfold sp_sg; rw [if_pos (Int32.not_le.mp h)]
theorem sp_prt_le {t : sp_T} (hI : sp_I t) (k : Nat) : sp_prt t k ≤ 200000 := by
  have h1 := sp_age_le hI k
  have h2 := sp_str_le hI k
  unfold sp_prt
  split
  · split <;> omega
  · split <;> omega
theorem sp_prt_1 {t : sp_T} {k : Nat} (h : tr t = 1) : sp_str t k = sp_prt t k := by unfold sp_prt; rw [h]; rfl
theorem sp_prt_2 {t : sp_T} {k : Nat} (h : tr t = 2) : sp_age t k = sp_prt t k := by unfold sp_prt; rw [h]; rfl
theorem sp_prt_0 {t : sp_T} (hI : sp_I t) {k : Nat} (h1 : ¬ tr t = 1) (h2 : ¬ tr t = 2) : (if nI 1 < nI (sp_age t k) then nI 1 else nI (sp_age t k)) = nI (sp_prt t k) := by
  have ha := sp_age_le hI k
  have hr := hI.r
  have h0 : tr t = 0 := by omega
  unfold sp_prt
  rw [if_pos h0]
  by_cases hz : 1 < sp_age t k
  · rw [if_pos ((nI_ltI (by omega) (by omega)).mpr hz), if_neg (by omega)]
  · rw [if_neg (mt (nI_ltI (by omega) (by omega)).mp hz)]
    by_cases hy : sp_age t k = 0
    · rw [if_pos hy, hy]
    · rw [if_neg hy, show sp_age t k = 1 by omega]
theorem sp_P_le {t : sp_T} (hI : sp_I t) (lo hi k : Nat) : sp_P t lo hi k ≤ 200000 := by
  unfold sp_P
  split
  · show 1 ≤ 200000; omega
  · exact sp_prt_le hI k
theorem sm_bd {f : Nat → Nat} {B : Nat} (h : ∀ j, f j ≤ B) (n k : Nat) : sm f n k ≤ B * n := by
  induction n generalizing k with
  | zero => exact Nat.le_refl _
  | succ n ih =>
    have h1 := h k
    have h2 := ih (k + 1)
    simp only [sm, Nat.mul_add, Nat.mul_one]
    omega
theorem sm_ge {f : Nat → Nat} (n k j : Nat) (h1 : k ≤ j) (h2 : j < k + n) : f j ≤ sm f n k := by
  induction n generalizing k with
  | zero => omega
  | succ n ih =>
    simp only [sm]
    rcases Nat.eq_or_lt_of_le h1 with h | h
    · subst h; omega
    · have := ih (k + 1) h (by omega); omega
theorem sm_one (n k : Nat) : sm (fun _ => 1) n k = n := by
  induction n generalizing k with
  | zero => rfl
  | succ n ih => simp only [sm, ih]; omega
theorem sp_al0_eq (t : sp_T) (lo hi : Nat) : sp_al0 t lo hi = sm (sp_prt t) (hi + 1 - lo) lo := by unfold sp_al0; rw [lp_als]; omega
theorem sp_al0_le {t : sp_T} (hI : sp_I t) {lo hi : Nat} (h : hi < 8) : sp_al0 t lo hi ≤ 1600000 := by
  rw [sp_al0_eq]
  refine Nat.le_trans (sm_bd (sp_prt_le hI) _ _) ?_
  omega
/-- the parts and their sum -/
theorem sp_al_sum (t : sp_T) (lo hi : Nat) : sm (sp_P t lo hi) (hi + 1 - lo) lo = sp_al t lo hi := by
  unfold sp_P sp_al
  split
  · exact sm_one _ _
  · exact (sp_al0_eq t lo hi).symm
theorem sp_al_pos {t : sp_T} {lo hi : Nat} (h : lo ≤ hi) : 0 < sp_al t lo hi := by
  unfold sp_al
  split <;> omega
theorem sp_al_le {t : sp_T} (hI : sp_I t) {lo hi : Nat} (h : hi < 8) : sp_al t lo hi ≤ 1600000 := by
  have := sp_al0_le hI (lo := lo) h
  unfold sp_al
  split <;> omega
theorem sp_P_al (t : sp_T) {lo hi j : Nat} (h1 : lo ≤ j) (h2 : j ≤ hi) : sp_P t lo hi j ≤ sp_al t lo hi := by
  rw [← sp_al_sum]; exact sm_ge _ _ _ h1 (by omega)
theorem sp_R_shr {u : sp_U} {t : sp_T} (hR : sp_R u t) {i : Nat} (hi : i < tn t) {q : Int32} (hgr : sp_gr t i = false) {f pf : Nat → Int32} {x : Int32} (hfx : (f, x) = lp (sp_s1 q (sp_P t (sp_low t i) (sp_hi t i)) (sp_al t (sp_low t i) (sp_hi t i))) (sp_hi t i + 1 - sp_low t i) (sp_low t i) (u.2.2.2.1, q)) :
    sp_R (u.1, u.2.1, u.2.2.1, (lp (sp_s2 (sp_P t (sp_low t i) (sp_hi t i))) (sp_hi t i + 1 - sp_low t i) (sp_low t i) (f, x)).1, pf, u.2.2.2.2.2.1, u.2.2.2.2.2.2.1, u.2.2.2.2.2.2.2) (sp_shr t i q) := by
  have h1 := sp_low_le t i
  have h2 := sp_le_hi t i
  have h3 := sp_hi_lt hi
  obtain ⟨c1, c2, c3, c4, c5⟩ := hR
  have e : sp_shr t i q = sp_setlo t (sp_sh2 t (sp_low t i) (sp_hi t i) q).1 := by unfold sp_shr; rw [hgr]; rfl
  rw [e]
  refine ⟨c1, c2, c3, fun k hk => ?_, c5⟩
  show (lp (sp_s2 (sp_P t (sp_low t i) (sp_hi t i))) (sp_hi t i + 1 - sp_low t i) (sp_low t i) (f, x)).1 k = (sp_sh2 t (sp_low t i) (sp_hi t i) q).1 k
  rw [hfx]
  unfold sp_sh2 sp_sh1
  have g1 := lp_s1_cong (n := tn t) q (sp_P t (sp_low t i) (sp_hi t i)) (sp_al t (sp_low t i) (sp_hi t i)) (sp_hi t i + 1 - sp_low t i) (sp_low t i) (by omega) u.2.2.2.1 (tlo t) q c4
  generalize lp (sp_s1 q (sp_P t (sp_low t i) (sp_hi t i)) (sp_al t (sp_low t i) (sp_hi t i))) (sp_hi t i + 1 - sp_low t i) (sp_low t i) (u.2.2.2.1, q) = r1 at g1 ⊢
  generalize lp (sp_s1 q (sp_P t (sp_low t i) (sp_hi t i)) (sp_al t (sp_low t i) (sp_hi t i))) (sp_hi t i + 1 - sp_low t i) (sp_low t i) (tlo t, q) = r2 at g1 ⊢
  obtain ⟨f1, x1⟩ := r1
  obtain ⟨f2, x2⟩ := r2
  have ex : x1 = x2 := g1.2
  subst ex
  exact (lp_s2_cong (n := tn t) _ _ _ (by omega) f1 f2 x1 g1.1).1 k hk
theorem sp_mx {lo hi : Nat} (h1 : lo ≤ hi) (h2 : hi < 8) : (if nI 1 < nI (hi - lo + 1) then nI (hi - lo + 1) else nI 1) = nI (hi + 1 - lo) := by
  by_cases h : 1 < hi - lo + 1
  · rw [if_pos ((nI_ltI (by omega) (by omega)).mpr h)]; congr 1; omega
  · rw [if_neg (mt (nI_ltI (by omega) (by omega)).mp h)]; congr 1; omega
theorem sp_gr_f1 {t : sp_T} {i : Nat} (h : ¬ sp_low t i = 0) : sp_gr t i = false := by unfold sp_gr; rw [decide_eq_false h]; rfl
theorem sp_gr_f2 {t : sp_T} {i : Nat} (h : sp_pp t 0 = false) : sp_gr t i = false := by unfold sp_gr; rw [h, Bool.and_false]
theorem sp_gr_t {t : sp_T} {i : Nat} (h : sp_low t i = 0) (h2 : sp_pp t 0 = true) : sp_gr t i = true := by unfold sp_gr; rw [decide_eq_true h, h2]; rfl
theorem sp_upd_s {f : Nat → Int32} {k : Nat} {x : Int32} : upd f k x k = x := by simp [upd]
theorem sp_upd_n {f : Nat → Int32} {k j : Nat} {x : Int32} (h : j ≠ k) : upd f k x j = f j := by simp [upd, h]
theorem sp_upd_ext {h F : Nat → Int32} {lo k : Nat} {x : Int32} (hh : ∀ j, lo ≤ j → j < k → h j = F j) (hx : x = F k) : ∀ j, lo ≤ j → j < k + 1 → upd h k x j = F j := by
  intro j h1 h2
  unfold upd
  by_cases hz : j = k
  · rw [if_pos hz, hz]; exact hx
  · rw [if_neg hz]; exact hh j h1 (by omega)
theorem sp_upd_ext0 {h F : Nat → Int32} {k : Nat} {x : Int32} (hh : ∀ j, j < k → h j = F j) (hx : x = F k) : ∀ j, j < k + 1 → upd h k x j = F j := fun j hj => sp_upd_ext (lo := 0) (fun j _ h => hh j h) hx j (Nat.zero_le _) hj
/-- poured: the new floor ahead of the sharing -/
theorem sp_I_new {t : sp_T} (hI : sp_I t) (h : tn t < 8) : sp_I (sp_new t) := by
  obtain ⟨h1, h2, h3, h4, h5, h6, h7, h8⟩ := hI
  refine ⟨h, h2, h3, h4, h5, h6, fun k hk => ?_, ?_⟩
  · show updN (tpo t) (tn t) (td t) k ≤ td t ∧ updN (tsl t) (tn t) 0 k ≤ 9
    unfold updN
    by_cases hz : k = tn t
    · rw [if_pos hz, if_pos hz]; omega
    · rw [if_neg hz, if_neg hz]
      exact h7 k (by have : k < tn t + 1 := hk; omega)
  · show tpr t ||| 2 ^ tn t < 2 ^ (tn t + 1)
    exact Nat.or_lt_two_pow (Nat.lt_trans h8 (Nat.pow_lt_pow_right (by decide) (by omega))) (Nat.pow_lt_pow_right (by decide) (by omega))
theorem sp_I_lo {t : sp_T} (hI : sp_I t) (lo : Nat → Int32) : sp_I (sp_setlo t lo) := hI
theorem sp_I_shr {t : sp_T} (hI : sp_I t) (i : Nat) (q : Int32) : sp_I (sp_shr t i q) := by
  unfold sp_shr; split
  · exact hI
  · exact hI
theorem sp_I_off {t : sp_T} (hI : sp_I t) (i : Nat) : sp_I (sp_off t i) := by
  obtain ⟨h1, h2, h3, h4, h5, h6, h7, h8⟩ := hI
  exact ⟨h1, h2, h3, h4, h5, h6, h7, Nat.lt_of_le_of_lt Nat.and_le_left h8⟩
theorem sp_I_on {t : sp_T} (hI : sp_I t) {i : Nat} (h : i < tn t) : sp_I (sp_on t i) := by
  obtain ⟨h1, h2, h3, h4, h5, h6, h7, h8⟩ := hI
  exact ⟨h1, h2, h3, h4, h5, h6, h7, Nat.or_lt_two_pow h8 (Nat.pow_lt_pow_right (by decide) h)⟩
theorem sp_shr_n (t : sp_T) (i : Nat) (q : Int32) : tn (sp_shr t i q) = tn t := by unfold sp_shr; split <;> rfl
theorem sp_I_pour {t : sp_T} (hI : sp_I t) (h : tn t < 8) : sp_I (sp_pour t) := sp_I_shr (sp_I_new hI h) _ _
theorem sp_I_stk1 {t : sp_T} (hI : sp_I t) (i : Nat) : sp_I (sp_stk1 t i) := sp_I_shr (sp_I_off hI i) _ _
theorem sp_I_stk {t : sp_T} (hI : sp_I t) (i : Nat) : sp_I (sp_stk t i) := by
  unfold sp_stk; split
  · exact sp_I_stk1 hI i
  · exact sp_I_shr (sp_I_stk1 hI i) _ _
theorem sp_R_new {u : sp_U} {t : sp_T} (hR : sp_R u t) (hI : sp_I t) : sp_R (u.1, upd u.2.1 (tn t) (nI (td t)), upd u.2.2.1 (tn t) (nI 0), upd u.2.2.2.1 (tn t) (nI 0), u.2.2.2.2.1, u.2.2.2.2.2.1, nI (tn t + 1), nI (tpr t ||| 2 ^ tn t)) (sp_new t) := by
  obtain ⟨c1, c2, c3, c4, c5, c6, c7⟩ := hR
  refine ⟨c1, fun k hk => ?_, fun k hk => ?_, fun k hk => ?_, c5, rfl, rfl⟩
  · show upd u.2.1 (tn t) (nI (td t)) k = nI (updN (tpo t) (tn t) (td t) k)
    unfold upd updN
    by_cases hz : k = tn t
    · rw [if_pos hz, if_pos hz]
    · rw [if_neg hz, if_neg hz]; exact c2 k (by have : k < tn t + 1 := hk; omega)
  · show upd u.2.2.1 (tn t) (nI 0) k = nI (updN (tsl t) (tn t) 0 k)
    unfold upd updN
    by_cases hz : k = tn t
    · rw [if_pos hz, if_pos hz]
    · rw [if_neg hz, if_neg hz]; exact c3 k (by have : k < tn t + 1 := hk; omega)
  · show upd u.2.2.2.1 (tn t) (nI 0) k = upd (tlo t) (tn t) (nI 0) k
    unfold upd
    by_cases hz : k = tn t
    · rw [if_pos hz, if_pos hz]
    · rw [if_neg hz, if_neg hz]; exact c4 k (by have : k < tn t + 1 := hk; omega)
theorem sp_R_pr {u : sp_U} {t : sp_T} (hR : sp_R u t) (pr : Nat) : sp_R (u.1, u.2.1, u.2.2.1, u.2.2.2.1, u.2.2.2.2.1, u.2.2.2.2.2.1, u.2.2.2.2.2.2.1, nI pr) (sp_setpr t pr) := by
  obtain ⟨c1, c2, c3, c4, c5, c6, c7⟩ := hR
  exact ⟨c1, c2, c3, c4, c5, c6, rfl⟩
theorem sp_R_d {u : sp_U} {t : sp_T} (hR : sp_R u t) (d : Nat) : sp_R (u.1, u.2.1, u.2.2.1, u.2.2.2.1, u.2.2.2.2.1, nI d, u.2.2.2.2.2.2.1, u.2.2.2.2.2.2.2) (sp_setd t d) := by
  obtain ⟨c1, c2, c3, c4, c5, c6, c7⟩ := hR
  exact ⟨c1, c2, c3, c4, rfl, c6, c7⟩
theorem sp_R_clr {u : sp_U} {t : sp_T} (hR : sp_R u t) : sp_R (u.1, u.2.1, u.2.2.1, u.2.2.2.1, u.2.2.2.2.1, nI 0, nI 0, nI 0) (sp_clr t) := by
  obtain ⟨c1, c2, c3, c4, c5, c6, c7⟩ := hR
  exact ⟨c1, fun k hk => absurd hk (Nat.not_lt_zero k), fun k hk => absurd hk (Nat.not_lt_zero k), fun k hk => absurd hk (Nat.not_lt_zero k), rfl, rfl, rfl⟩
theorem sp_I_clr {t : sp_T} (hI : sp_I t) : sp_I (sp_clr t) := by
  obtain ⟨h1, h2, h3, h4, h5, h6, h7, h8⟩ := hI
  exact ⟨Nat.zero_le _, Nat.zero_le _, h3, h4, h5, h6, fun k hk => absurd hk (Nat.not_lt_zero k), (by decide : (0 : Nat) < 2 ^ 0)⟩
