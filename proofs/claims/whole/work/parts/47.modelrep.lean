/-! ===== the reference: deeds ===== -/
theorem o_pour_f {x : sp_S} (h : tn (s_now x) = 8) : o_pour x = (-1000000004, x) := by unfold o_pour; rw [if_pos h]
theorem o_pour_n {x : sp_S} (h : ¬ tn (s_now x) = 8) (hm : sp_safe (sp_pour (s_now x)) = false) : o_pour x = (-1000000003, x) := by unfold o_pour; rw [if_neg h, hm]; rfl
theorem o_pour_y {x : sp_S} (h : ¬ tn (s_now x) = 8) (hm : sp_safe (sp_pour (s_now x)) = true) : o_pour x = (nI (tn (s_now x)), sp_setn (sp_note x) (sp_pour (s_now x))) := by unfold o_pour; rw [if_neg h, hm, if_pos rfl]
theorem sp_mp_eq {t : sp_T} (h : tn t < 8) : sp_mp t = sp_safe (sp_pour t) := by unfold sp_mp; rw [decide_eq_true h]; rfl
theorem sp_Rm_clrn {f : Nat → Int32} {t : sp_T} (hM : sp_Rm f t) : sp_Rm (upd (upd f 1 (nI 0)) 0 (nI 0)) (sp_clr t) := sp_Rm_clr2 ⟨hM.w, hM.m, hM.t, hM.r⟩
theorem sp_M_undo {v : sp_V} {x : sp_S} (h : sp_M v x) {n : Nat} (h1 : 1 ≤ n) (hn : n ≤ s_pz x) (h8 : tn (s_ph x (n - 1)) ≤ 8) {f : Nat → Int32} (hf : ∀ j, j < 38 → f j = v.2.2.1 (38 * (s_pz x - n) + j)) : sp_M (f, v.2.1, v.2.2.1, nI (s_pz x - n), v.2.2.2.2) (sp_undo x n) := by
  obtain ⟨c0, c1, c2, c3⟩ := h
  refine ⟨?_, rfl, fun j hj => ?_, c3⟩
  · refine sp_Rm_ext (c2 (n - 1) (by omega)) h8 (fun j hj => ?_)
    show f j = v.2.2.1 (38 * (s_pz x - 1 - (n - 1)) + j)
    rw [hf j hj, show s_pz x - 1 - (n - 1) = s_pz x - n by omega]
  · have hj' : j < s_pz x - n := hj
    have := c2 (j + n) (by omega)
    show sp_Rm (fun k => v.2.2.1 (38 * (s_pz x - n - 1 - j) + k)) (s_ph x (j + n))
    rw [show s_pz x - n - 1 - j = s_pz x - 1 - (j + n) by omega]
    exact this
theorem sp_M_write {v : sp_V} {x : sp_S} (h : sp_M v x) (j : Nat) (w : Int32) : sp_M (v.1, v.2.1, v.2.2.1, v.2.2.2.1, v.2.2.2.2.1, v.2.2.2.2.2.1, v.2.2.2.2.2.2.1, v.2.2.2.2.2.2.2.1, upd (upd v.2.2.2.2.2.2.2.2.1 (2 * s_bn x) (nI j)) (2 * s_bn x + 1) w, nI (s_bn x + 1), v.2.2.2.2.2.2.2.2.2.2) (sp_wr x j w) := by
  obtain ⟨c0, c1, c2, c3, c4, c5⟩ := h
  refine ⟨c0, c1, c2, rfl, fun k hk => ?_, c5⟩
  have hk' : k < s_bn x + 1 := hk
  show upd (upd v.2.2.2.2.2.2.2.2.1 (2 * s_bn x) (nI j)) (2 * s_bn x + 1) w (2 * k) = nI (updN (s_bf x) (s_bn x) j k) ∧ upd (upd v.2.2.2.2.2.2.2.2.1 (2 * s_bn x) (nI j)) (2 * s_bn x + 1) w (2 * k + 1) = upd (s_bl x) (s_bn x) w k
  unfold updN
  by_cases hz : k = s_bn x
  · rw [hz, if_pos rfl, sp_upd_n (by omega), sp_upd_s, sp_upd_s, sp_upd_s]; exact ⟨rfl, rfl⟩
  · rw [if_neg hz, sp_upd_n (by omega), sp_upd_n (by omega), sp_upd_n (by omega), sp_upd_n (by omega), sp_upd_n hz]
    exact c4 k (by omega)
theorem sp_M_tear {v : sp_V} {x : sp_S} (h : sp_M v x) : sp_M (v.1, v.2.1, v.2.2.1, v.2.2.2.1, v.2.2.2.2.1, v.2.2.2.2.2.1, v.2.2.2.2.2.2.1, v.2.2.2.2.2.2.2.1, v.2.2.2.2.2.2.2.2.1, nI 0, v.2.2.2.2.2.2.2.2.2.2) (x.1, x.2.1, x.2.2.1, 0, x.2.2.2.2) := by
  obtain ⟨c0, c1, c2, c3, c4, c5⟩ := h
  exact ⟨c0, c1, c2, rfl, fun k hk => absurd hk (Nat.not_lt_zero k), c5⟩
theorem sp_M_sets {v : sp_V} {x : sp_S} (h : sp_M v x) (s : Nat) : sp_M (v.1, v.2.1, v.2.2.1, v.2.2.2.1, v.2.2.2.2.1, v.2.2.2.2.2.1, v.2.2.2.2.2.2.1, lN s, v.2.2.2.2.2.2.2.2) (sp_sets x s) := by
  obtain ⟨c0, c1, c2, c3, c4, c5, c6, c7⟩ := h
  exact ⟨c0, c1, c2, c3, c4, c5, c6, rfl⟩
theorem o_seed_n {x : sp_S} {v : Int32} (h : v < 0) : o_seed x v = (-1000000002, x) := by unfold o_seed; rw [if_pos h]
theorem o_seed_y {x : sp_S} {n : Nat} (h : n < 2 ^ 31) : o_seed x (nI n) = (nI (s_sd x), sp_sets x n) := by unfold o_seed; rw [if_neg (nI_pos h), sp_c8 h]
theorem sp_M_keep {v : sp_V} {x : sp_S} (h : sp_M v x) (hn : tn (s_now x) ≤ 8) (h8 : ∀ j, j < 2 → s_ik x j = true → tn (s_im x j) ≤ 8) {i : Nat} (hi : i ≤ 1) {f : Nat → Int32} (h1 : ∀ j, j < 38 → f (38 * i + j) = v.1 j) (h2 : ∀ j, (j < 38 * i ∨ 38 * i + 38 ≤ j) → f j = v.2.2.2.2.1 j) : sp_M (v.1, v.2.1, v.2.2.1, nI 0, f, vp_updL v.2.2.2.2.2.1 i (lN (s_sd x)), upd v.2.2.2.2.2.2.1 i (nI 1), v.2.2.2.2.2.2.2) (sp_keep x i) := by
  obtain ⟨c0, c1, c2, c3, c4, c5, c6, c7⟩ := h
  refine ⟨c0, rfl, fun j hj => absurd hj (Nat.not_lt_zero j), c3, c4, fun j hj => ?_, fun j hj hk => ?_, c7⟩
  · show upd v.2.2.2.2.2.2.1 i (nI 1) j = bI (if j = i then true else s_ik x j)
    by_cases hz : j = i
    · rw [if_pos hz, hz, sp_upd_s]; rfl
    · rw [if_neg hz, sp_upd_n hz]; exact c5 j hj
  · have hk' : (if j = i then true else s_ik x j) = true := hk
    show sp_Rm (fun k => f (38 * j + k)) (if j = i then s_now x else s_im x j) ∧ vp_updL v.2.2.2.2.2.1 i (lN (s_sd x)) j = lN (updN (s_is x) i (s_sd x) j)
    unfold updN
    by_cases hz : j = i
    · rw [if_pos hz, if_pos hz, hz]
      exact ⟨sp_Rm_ext c0 hn (fun k hk => h1 k hk), pk_uLs⟩
    · rw [if_neg hz] at hk'
      rw [if_neg hz, if_neg hz]
      refine ⟨?_, (pk_uLn hz).trans (c6 j hj hk').2⟩
      exact sp_Rm_ext (c6 j hj hk').1 (h8 j hj hk') (fun k hk => h2 _ (by omega))
theorem sp_M_goB {v : sp_V} {x : sp_S} (h : sp_M v x) {i : Nat} (hi : i < 2) (hk : s_ik x i = true) (h8 : tn (s_im x i) ≤ 8) {f : Nat → Int32} (hf : ∀ j, j < 38 → f j = v.2.2.2.2.1 (38 * i + j)) : sp_M (f, v.2.1, v.2.2.1, nI 0, v.2.2.2.2.1, v.2.2.2.2.2.1, v.2.2.2.2.2.2.1, lN (s_is x i), v.2.2.2.2.2.2.2.2) (sp_goB x i) := by
  obtain ⟨c0, c1, c2, c3, c4, c5, c6, c7⟩ := h
  exact ⟨sp_Rm_ext (c6 i hi hk).1 h8 (fun k hk => hf k hk), rfl, fun j hj => absurd hj (Nat.not_lt_zero j), c3, c4, c5, c6, rfl⟩
theorem sp_nar1 : vp_nar .boolean (nI 1) = nI 1 := by decide
