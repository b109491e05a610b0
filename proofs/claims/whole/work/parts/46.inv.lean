/-! ===== what holds, goes on to hold ===== -/
theorem lp_zero {σ : Type} (f : Nat → σ → σ) (k : Nat) (s : σ) : lp f 0 k s = s := rfl
theorem lp_cons {σ : Type} (f : Nat → σ → σ) (n k : Nat) (s : σ) : lp f (n + 1) k s = lp f n (k + 1) (f k s) := rfl
theorem sp_J_mono {x : sp_S} {B C : Nat} (h : sp_J x B) (hc : B ≤ C) : sp_J x C := by
  obtain ⟨a, b, c, d, e, f, k⟩ := h
  exact ⟨⟨a.1, Nat.le_trans a.2 hc⟩, b, fun j hj => ⟨(c j hj).1, Nat.le_trans (c j hj).2 hc⟩, d, e, fun i hi hk => ⟨⟨(f i hi hk).1.1, Nat.le_trans (f i hi hk).1.2 hc⟩, (f i hi hk).2⟩, k⟩
theorem sp_J_setn {x : sp_S} {B : Nat} (h : sp_J x B) {t : sp_T} (hI : sp_I t) (hd : td t ≤ B) : sp_J (sp_setn x t) B := ⟨⟨hI, hd⟩, h.2⟩
theorem sp_J_note {x : sp_S} {B : Nat} (h : sp_J x B) : sp_J (sp_note x) B := by
  obtain ⟨a, b, c, d⟩ := h
  refine ⟨a, Nat.min_le_right _ _, fun j hj => ?_, d⟩
  have hj' : j < min (s_pz x + 1) 20 := hj
  show sp_I (if j = 0 then s_now x else s_ph x (j - 1)) ∧ td (if j = 0 then s_now x else s_ph x (j - 1)) ≤ B
  by_cases hz : j = 0
  · rw [if_pos hz]; exact a
  · rw [if_neg hz]; exact c (j - 1) (by omega)
theorem sp_J_sets {x : sp_S} {B : Nat} (h : sp_J x B) {s : Nat} (hs : s < 2 ^ 31) : sp_J (sp_sets x s) B := by
  obtain ⟨a, b, c, d, e, f, k⟩ := h
  exact ⟨a, b, c, d, e, f, hs⟩
theorem sp_I_dr {t : sp_T} (hI : sp_I t) {B : Nat} (hd : td t ≤ B) (hB : B ≤ 190000) {w i m : Nat} (hm : m < 10) : sp_I (sp_dr t w i m) ∧ td (sp_dr t w i m) ≤ B + 9 := by
  unfold sp_dr
  split
  · exact ⟨sp_I_setd hI (by omega) (by omega), show td t + m ≤ B + 9 by omega⟩
  · split
    · split
      · rename_i h
        unfold sp_mp at h
        rw [Bool.and_eq_true, decide_eq_true_eq] at h
        exact ⟨sp_I_pour hI h.1, by rw [sp_pour_d]; omega⟩
      · exact ⟨hI, by omega⟩
    · split
      · split
        · exact ⟨sp_I_stk hI i, by rw [sp_stk_d]; omega⟩
        · exact ⟨hI, by omega⟩
      · split
        · rename_i h
          exact ⟨sp_I_on hI h, show td t ≤ B + 9 by omega⟩
        · exact ⟨hI, by omega⟩
theorem sp_J_d1 {x : sp_S} {B : Nat} (h : sp_J x B) (hB : B ≤ 190000) (k : Nat) : sp_J (sp_d1 k x) (B + 9) := by
  have h1 := sp_I_dr (w := sp_nx (s_sd x) / 65536 % 5) (i := sp_nx (sp_nx (s_sd x)) / 65536 % 8) h.now h.d hB (Nat.mod_lt (sp_d3 (s_sd x) / 65536) (show 0 < 10 by omega))
  exact sp_J_sets (sp_J_setn (sp_J_mono (sp_J_note h) (by omega)) h1.1 h1.2) (sp_nx_lt _)
theorem sp_J_lp {x : sp_S} {B : Nat} (h : sp_J x B) (n k : Nat) (hB : B + 9 * n ≤ 190000) : sp_J (lp sp_d1 n k x) (B + 9 * n) := by
  induction n generalizing k x B with
  | zero =>
    rw [lp_zero]
    exact sp_J_mono h (by omega)
  | succ n ih =>
    rw [lp_cons]
    exact sp_J_mono (ih (sp_J_d1 h (by omega) k) (k + 1) (by omega)) (by omega)
theorem sp_J_days {x : sp_S} {B : Nat} (h : sp_J x B) (hB : B ≤ 150000) (n : Int32) : sp_J (o_days x n).2 (B + 180) := by
  unfold o_days; split
  · rename_i hc
    obtain ⟨m, h1, h2, rfl⟩ := sp_inI_t (by omega) (by omega) hc
    have hd := h.d
    rw [sp_c8 (by omega)]
    exact sp_J_setn (sp_J_mono (sp_J_note h) (by omega)) (sp_I_setd h.now (by omega) (by omega)) (show td (s_now x) + m ≤ B + 180 by omega)
  · exact sp_J_mono h (by omega)
theorem sp_J_pour {x : sp_S} {B : Nat} (h : sp_J x B) : sp_J (o_pour x).2 (B + 180) := by
  have hd := h.d
  have hn := h.now.n
  unfold o_pour; split
  · exact sp_J_mono h (by omega)
  · split
    · exact sp_J_setn (sp_J_mono (sp_J_note h) (by omega)) (sp_I_pour h.now (by omega)) (by rw [sp_pour_d]; omega)
    · exact sp_J_mono h (by omega)
theorem sp_J_strike {x : sp_S} {B : Nat} (h : sp_J x B) (i : Int32) : sp_J (o_strike x i).2 (B + 180) := by
  have hd := h.d
  unfold o_strike; split
  · split
    · exact sp_J_setn (sp_J_mono (sp_J_note h) (by omega)) (sp_I_stk h.now _) (by rw [sp_stk_d]; omega)
    · exact sp_J_mono h (by omega)
  · exact sp_J_mono h (by omega)
theorem sp_J_back {x : sp_S} {B : Nat} (h : sp_J x B) (i : Int32) : sp_J (o_back x i).2 (B + 180) := by
  have hd := h.d
  unfold o_back; split
  · rename_i hc
    obtain ⟨j, hj, rfl⟩ := sp_has_t hc h.now.n
    have hn := h.now.n
    rw [sp_c8 (by omega)]
    split
    · exact sp_J_mono h (by omega)
    · exact sp_J_setn (sp_J_mono (sp_J_note h) (by omega)) (sp_I_on h.now hj) (show td (s_now x) ≤ B + 180 by omega)
  · exact sp_J_mono h (by omega)
theorem sp_J_slow {x : sp_S} {B : Nat} (h : sp_J x B) (i v : Int32) : sp_J (o_slow x i v).2 (B + 180) := by
  have hd := h.d
  unfold o_slow; split
  · split
    · rename_i hc
      obtain ⟨m, h1, h2, rfl⟩ := sp_inI_t (by omega) (by omega) hc
      rw [sp_c8 (k := m) (by omega)]
      obtain ⟨a1, a2, a3, a4, a5, a6, a7, a8⟩ := h.now
      refine sp_J_setn (sp_J_mono (sp_J_note h) (by omega)) ⟨a1, a2, a3, a4, a5, a6, fun k hk => ⟨(a7 k hk).1, ?_⟩, a8⟩ (show td (s_now x) ≤ B + 180 by omega)
      show updN (tsl (s_now x)) i.toNatClampNeg m k ≤ 9
      unfold updN; split
      · omega
      · exact (a7 k hk).2
    · exact sp_J_mono h (by omega)
  · exact sp_J_mono h (by omega)
def blo (k : Nat) : Nat := if k ≤ 1 then 1 else 0
def bhi (k : Nat) : Nat := if k = 0 then 50 else if k = 1 then 400 else 2
theorem sp_bok_n {k : Nat} (hk : k ≤ 3) (v : Int32) : sp_bok (nI k) v = sp_inI v (nI (blo k)) (nI (bhi k)) := by
  rcases (show k = 0 ∨ k = 1 ∨ k = 2 ∨ k = 3 by omega) with rfl | rfl | rfl | rfl
  · unfold sp_bok
    rw [decide_eq_true (rfl : nI 0 = nI 0), decide_eq_false (show ¬ nI 0 = nI 1 by decide), decide_eq_false (show ¬ nI 0 = nI 2 by decide), decide_eq_false (show ¬ nI 0 = nI 3 by decide)]
    simp [blo, bhi]
  · unfold sp_bok
    rw [decide_eq_false (show ¬ nI 1 = nI 0 by decide), decide_eq_true (rfl : nI 1 = nI 1), decide_eq_false (show ¬ nI 1 = nI 2 by decide), decide_eq_false (show ¬ nI 1 = nI 3 by decide)]
    simp [blo, bhi]
  · unfold sp_bok
    rw [decide_eq_false (show ¬ nI 2 = nI 0 by decide), decide_eq_false (show ¬ nI 2 = nI 1 by decide), decide_eq_true (rfl : nI 2 = nI 2)]
    simp [blo, bhi]
  · unfold sp_bok
    rw [decide_eq_false (show ¬ nI 3 = nI 0 by decide), decide_eq_false (show ¬ nI 3 = nI 1 by decide), decide_eq_false (show ¬ nI 3 = nI 2 by decide), decide_eq_true (rfl : nI 3 = nI 3)]
    simp [blo, bhi]
theorem sp_out_ne {w : Int32} {m : Nat} (h : ¬ (0 ≤ w.toInt ∧ w.toInt ≤ m)) {k : Nat} (hk : k ≤ m) (hm : m < 2 ^ 31) : ¬ w = nI k := by
  intro e; subst e; rw [nI_toInt (by omega)] at h; omega
theorem sp_bok_o {w v : Int32} (h : ¬ (0 ≤ w.toInt ∧ w.toInt ≤ (3 : Nat))) : sp_bok w v = false := by
  unfold sp_bok
  rw [decide_eq_false (sp_out_ne h (k := 0) (by omega) (by omega)), decide_eq_false (sp_out_ne h (k := 1) (by omega) (by omega)), decide_eq_false (sp_out_ne h (k := 2) (by omega) (by omega)), decide_eq_false (sp_out_ne h (k := 3) (by omega) (by omega))]
  rfl
theorem o_bound_o {x : sp_S} {w v : Int32} (h : sp_bok w v = false) : o_bound x w v = (-1000000002, x) := by unfold o_bound; rw [h]; rfl
theorem o_bound_n {x : sp_S} {v : Int32} (h : sp_bok (nI 0) v = true) (hn : 0 < tn (s_now x)) : o_bound x (nI 0) v = (-1000000003, x) := by unfold o_bound; rw [h, if_pos rfl, if_pos ⟨rfl, hn⟩]
theorem o_bound_y {x : sp_S} {k n : Nat} (hk : k ≤ 3) (h : sp_bok (nI k) (nI n) = true) (hn2 : n < 2 ^ 31) (hn : ¬ (k = 0 ∧ 0 < tn (s_now x))) : o_bound x (nI k) (nI n) = (nI (sp_bget (s_now x) k), sp_setn (sp_note x) (sp_bset (s_now x) k n)) := by
  unfold o_bound; rw [h, if_pos rfl, if_neg (fun q => hn ⟨(nI_eq (by omega) (by omega)).mp q.1, q.2⟩), sp_c8 (by omega), sp_c8 hn2]
theorem sp_J_bound {x : sp_S} {B : Nat} (h : sp_J x B) (w v : Int32) : sp_J (o_bound x w v).2 (B + 180) := by
  have hd := h.d
  unfold o_bound; split
  · rename_i hc
    split
    · exact sp_J_mono h (by omega)
    · by_cases hw : 0 ≤ w.toInt ∧ w.toInt ≤ (3 : Nat)
      · obtain ⟨k, hk, rfl⟩ := swI_ex hw (by omega)
        rw [sp_bok_n hk] at hc
        have hb : bhi k ≤ 400 := by unfold bhi; split <;> (try split) <;> omega
        obtain ⟨m, h1, h2, rfl⟩ := sp_inI_t (by omega) (by unfold blo; split <;> omega) hc
        rw [sp_c8 (k := k) (by omega), sp_c8 (k := m) (by omega)]
        obtain ⟨a1, a2, a3, a4, a5, a6, a7, a8⟩ := h.now
        refine sp_J_setn (sp_J_mono (sp_J_note h) (by omega)) ⟨a1, a2, ?_, ?_, ?_, ?_, a7, a8⟩ (show td (s_now x) ≤ B + 180 by omega)
        · show (if k = 0 then m else tw (s_now x)) ≤ 50
          split
          · rename_i hz; rw [hz] at h2; exact h2
          · exact a3
        · show (if k = 1 then m else tm (s_now x)) ≤ 400
          split
          · omega
          · exact a4
        · show (if k = 2 then m else tt (s_now x)) ≤ 2
          split
          · rename_i hz; rw [hz] at h2; exact h2
          · exact a5
        · show (if k = 3 then m else tr (s_now x)) ≤ 2
          split
          · rename_i hz; rw [hz] at h2; exact h2
          · exact a6
      · rw [sp_bok_o hw] at hc; exact absurd hc (by decide)
  · exact sp_J_mono h (by omega)
theorem sp_J_clear {x : sp_S} {B : Nat} (h : sp_J x B) : sp_J (o_clear x).2 (B + 180) :=
  sp_J_setn (sp_J_mono (sp_J_note h) (by omega)) (sp_I_clr h.now) (show 0 ≤ B + 180 by omega)
theorem sp_J_drift {x : sp_S} {B : Nat} (h : sp_J x B) (hB : B ≤ 150000) (n : Int32) : sp_J (o_drift x n).2 (B + 180) := by
  unfold o_drift; split
  · rename_i hc
    obtain ⟨m, h1, h2, rfl⟩ := sp_inI_t (by omega) (by omega) hc
    rw [sp_c8 (by omega)]
    exact sp_J_mono (sp_J_lp h m 0 (by omega)) (by omega)
  · exact sp_J_mono h (by omega)
theorem sp_J_undo {x : sp_S} {B : Nat} (h : sp_J x B) (n : Int32) : sp_J (o_undo x n).2 (B + 180) := by
  unfold o_undo; split
  · rename_i hc
    obtain ⟨m, h1, h2, rfl⟩ := sp_inI_t (by omega) (by omega) hc
    rw [sp_c8 (by omega)]
    split
    · exact sp_J_mono h (by omega)
    · obtain ⟨a, b, c, d⟩ := sp_J_mono h (show B ≤ B + 180 by omega)
      exact ⟨c (m - 1) (by omega), show s_pz x - m ≤ 20 by omega, fun j hj => c (j + m) (by have : j < s_pz x - m := hj; omega), d⟩
  · exact sp_J_mono h (by omega)
theorem sp_J_write {x : sp_S} {B : Nat} (h : sp_J x B) (i v : Int32) : sp_J (o_write x i v).2 (B + 180) := by
  have h' := sp_J_mono h (show B ≤ B + 180 by omega)
  unfold o_write; split
  · rename_i hc
    obtain ⟨j, hj, rfl⟩ := sp_has_t hc h.now.n
    have hn := h.now.n
    rw [sp_c8 (by omega)]
    split
    · exact h'
    · rename_i hz
      obtain ⟨a, b, c, d, e, f, k⟩ := h'
      refine ⟨a, b, c, show s_bn x + 1 ≤ 20 by omega, fun q hq => ?_, f, k⟩
      have hq' : q < s_bn x + 1 := hq
      show updN (s_bf x) (s_bn x) j q < 8
      unfold updN; split
      · omega
      · exact e q (by omega)
  · exact h'
theorem sp_J_tear {x : sp_S} {B : Nat} (h : sp_J x B) : sp_J (o_tear x).2 (B + 180) := by
  obtain ⟨a, b, c, d, e, f, k⟩ := sp_J_mono h (show B ≤ B + 180 by omega)
  exact ⟨a, b, c, Nat.zero_le _, fun q hq => absurd hq (Nat.not_lt_zero q), f, k⟩
theorem sp_J_seed {x : sp_S} {B : Nat} (h : sp_J x B) (v : Int32) : sp_J (o_seed x v).2 (B + 180) := by
  have h' := sp_J_mono h (show B ≤ B + 180 by omega)
  unfold o_seed; split
  · exact h'
  · rename_i hc
    obtain ⟨j, hj, rfl⟩ := nI_of hc
    rw [sp_c8 hj]
    exact sp_J_sets h' hj
theorem sp_J_keep {x : sp_S} {B : Nat} (h : sp_J x B) (i : Int32) : sp_J (o_keep x i).2 (B + 180) := by
  have h' := sp_J_mono h (show B ≤ B + 180 by omega)
  unfold o_keep; split
  · generalize i.toNatClampNeg = n
    obtain ⟨a, b, c, d, e, f, k⟩ := h'
    refine ⟨a, Nat.zero_le _, fun j hj => absurd hj (Nat.not_lt_zero j), d, e, fun j hj hk => ?_, k⟩
    have hk' : (if j = n then true else s_ik x j) = true := hk
    show (sp_I (if j = n then s_now x else s_im x j) ∧ td (if j = n then s_now x else s_im x j) ≤ B + 180) ∧ updN (s_is x) n (s_sd x) j < 2 ^ 31
    unfold updN
    by_cases hz : j = n
    · rw [if_pos hz, if_pos hz]; exact ⟨a, k⟩
    · rw [if_neg hz] at hk'
      rw [if_neg hz, if_neg hz]; exact f j hj hk'
  · exact h'
theorem sp_J_goB {x : sp_S} {B : Nat} (h : sp_J x B) (i : Int32) : sp_J (o_goB x i).2 (B + 180) := by
  have h' := sp_J_mono h (show B ≤ B + 180 by omega)
  unfold o_goB; split
  · rename_i hc
    obtain ⟨n, h1, h2, rfl⟩ := sp_inI_t (by omega) (by omega) hc
    rw [sp_c8 (by omega)]
    split
    · rename_i hk
      obtain ⟨a, b, c, d, e, f, k⟩ := h'
      have := f n (by omega) hk
      exact ⟨this.1, Nat.zero_le _, fun j hj => absurd hj (Nat.not_lt_zero j), d, e, f, this.2⟩
    · exact h'
  · exact h'
theorem sp_J_x0 : sp_J sp_x0 0 := by
  refine ⟨⟨⟨by decide, by decide, by decide, by decide, by decide, by decide, fun k hk => absurd hk (Nat.not_lt_zero k), by decide⟩, Nat.le_refl _⟩, by decide, fun j hj => absurd hj (Nat.not_lt_zero j), by decide, fun j hj => absurd hj (Nat.not_lt_zero j), fun i hi hk => ?_, by decide⟩
  exact absurd (show false = true from hk) (by decide)
