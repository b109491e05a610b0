/-! ===== sharing: what is left over after the parts is given out in one round ===== -/
def sm (f : Nat → Nat) : Nat → Nat → Nat
  | 0, _ => 0
  | n + 1, k => f k + sm f n (k + 1)
theorem lp_als (P : Nat → Nat) (n k a : Nat) : lp (sp_als P) n k a = a + sm P n k := by
  induction n generalizing k a with
  | zero => rfl
  | succ n ih => simp only [lp, sm, ih, sp_als]; omega
theorem sm_mono {f h : Nat → Nat} (n k : Nat) (hf : ∀ j, f j ≤ h j) : sm f n k ≤ sm h n k := by
  induction n generalizing k with
  | zero => exact Nat.le_refl _
  | succ n ih => exact Nat.add_le_add (hf k) (ih (k + 1))
theorem sm_mul (c : Nat) (f : Nat → Nat) (n k : Nat) : sm (fun j => c * f j) n k = c * sm f n k := by
  induction n generalizing k with
  | zero => rfl
  | succ n ih => simp only [sm, ih, Nat.mul_add]
theorem sm_add (f h : Nat → Nat) (n k : Nat) : sm (fun j => f j + h j) n k = sm f n k + sm h n k := by
  induction n generalizing k with
  | zero => rfl
  | succ n ih => simp only [sm, ih]; omega
def sp_cf (P : Nat → Nat) (j : Nat) : Nat := if P j = 0 then 0 else 1
theorem sp_cf_0 {P : Nat → Nat} {j : Nat} (h : P j = 0) : sp_cf P j = 0 := by simp [sp_cf, h]
theorem sp_cf_1 {P : Nat → Nat} {j : Nat} (h : ¬ P j = 0) : sp_cf P j = 1 := by simp [sp_cf, h]
def sp_gN (N al : Nat) (P : Nat → Nat) (j : Nat) : Nat := N * P j / al
theorem sp_cnt1 {N al : Nat} (P : Nat → Nat) (n k : Nat) : al * sm (sp_gN N al P) n k + sm (fun j => N * P j % al) n k = N * sm P n k := by
  rw [← sm_mul, ← sm_add, ← sm_mul]
  congr 1
  funext j
  exact Nat.div_add_mod _ _
theorem sp_cnt2 {N al : Nat} (h0 : 0 < al) (P : Nat → Nat) (n k : Nat) : sm (fun j => N * P j % al) n k ≤ al * sm (sp_cf P) n k := by
  rw [← sm_mul]
  refine sm_mono n k fun j => ?_
  unfold sp_cf
  split
  · rename_i h; rw [h]; simp
  · have := Nat.mod_lt (N * P j) h0; omega
theorem sp_cnt3 {N al : Nat} (h0 : 0 < al) {P : Nat → Nat} {n k : Nat} (hal : sm P n k = al) : sm (sp_gN N al P) n k ≤ N ∧ N ≤ sm (sp_gN N al P) n k + sm (sp_cf P) n k := by
  have h1 := sp_cnt1 (N := N) (al := al) P n k
  have h2 := sp_cnt2 (N := N) h0 P n k
  rw [hal] at h1
  constructor
  · refine Nat.le_of_mul_le_mul_left (c := al) ?_ h0
    rw [Nat.mul_comm al N]; omega
  · refine Nat.le_of_mul_le_mul_left (c := al) ?_ h0
    rw [Nat.mul_comm al N, Nat.mul_add]; omega
theorem sp_bm {x : Int} (h1 : -(2 ^ 31) ≤ x) (h2 : x < 2 ^ 31) : x.bmod (2 ^ 32) = x := Int.bmod_eq_of_le (by omega) (by omega)
theorem sp_bm64 {x : Int} (h1 : -(2 ^ 63) ≤ x) (h2 : x < 2 ^ 63) : x.bmod (2 ^ 64) = x := Int.bmod_eq_of_le (by omega) (by omega)
/-- what a floor gets, as a number: its sign, and how much -/
theorem sp_got_int {q : Int32} {N P al : Nat} {g : Int} (hg : g = 1 ∨ g = -1) (hq : q.toInt = g * N) (h0 : 0 < al) (hal : al ≤ 2 ^ 24) (hP : P ≤ al) : (sp_got q P al).toInt = g * ((N * P / al : Nat) : Int) := by
  have hlo := q.le_toInt
  have hhi := q.toInt_lt
  have hN : N ≤ 2 ^ 31 := by rcases hg with rfl | rfl <;> omega
  have hNP : N * P ≤ 2 ^ 31 * 2 ^ 24 := Nat.mul_le_mul hN (by omega)
  have hv : N * P / al ≤ N := Nat.div_le_of_le_mul (by rw [Nat.mul_comm al N]; exact Nat.mul_le_mul_left N hP)
  have e1 : (q.toInt64 * lN P).toInt = g * ((N * P : Nat) : Int) := by
    rw [Int64.toInt_mul, Int32.toInt_toInt64, lN_toInt (by omega), hq, Int.mul_assoc, ← Int.natCast_mul]
    exact sp_bm64 (by rcases hg with rfl | rfl <;> omega) (by rcases hg with rfl | rfl <;> omega)
  have e2 : ((q.toInt64 * lN P) / lN al).toInt = g * ((N * P / al : Nat) : Int) := by
    rw [Int64.toInt_div_of_ne_right _ _ (by
      intro hc
      have := congrArg Int64.toInt hc
      rw [lN_toInt (by omega)] at this
      have h1 : (-1 : Int64).toInt = -1 := by decide
      omega), e1, lN_toInt (by omega)]
    rcases hg with rfl | rfl
    · rw [Int.one_mul, Int.one_mul]; exact (Int.ofNat_tdiv _ _).symm
    · rw [Int.neg_mul, Int.one_mul, Int.neg_tdiv, Int.neg_mul, Int.one_mul]; first | done | rfl | congr 1
  unfold sp_got
  rw [Int64.toInt_toInt32, e2]
  clear e1 e2
  generalize N * P / al = v at hv ⊢
  refine sp_bm ?_ ?_
  · rcases hg with rfl | rfl <;> omega
  · rcases hg with rfl | rfl <;> omega
theorem sp_left {q : Int32} {P : Nat → Nat} {al N : Nat} {g : Int} (hg : g = 1 ∨ g = -1) (hq : q.toInt = g * N) (h0 : 0 < al) (hal : al ≤ 2 ^ 24) (n k : Nat) (hP : ∀ j, k ≤ j → j < k + n → P j ≤ al) (f : Nat → Int32) (x : Int32) (M : Nat) (hx : x.toInt = g * M) (hM : sm (sp_gN N al P) n k ≤ M) (hMN : M ≤ N) :
    (lp (sp_s1 q P al) n k (f, x)).2.toInt = g * ((M - sm (sp_gN N al P) n k : Nat) : Int) := by
  have hlo := q.le_toInt
  have hhi := q.toInt_lt
  have hN : N ≤ 2 ^ 31 := by rcases hg with rfl | rfl <;> omega
  induction n generalizing k f x M with
  | zero => simpa [lp, sm] using hx
  | succ n ih =>
    simp only [lp, sp_s1]
    have hgt := sp_got_int (P := P k) hg hq h0 hal (hP k (Nat.le_refl _) (by omega))
    have hM' : sp_gN N al P k + sm (sp_gN N al P) n (k + 1) ≤ M := hM
    have hgk : N * P k / al = sp_gN N al P k := rfl
    rw [ih (k + 1) (fun j h1 h2 => hP j (by omega) (by omega)) _ _ (M - sp_gN N al P k) ?_ (by omega) (by omega)]
    · simp only [sm]; congr 2; omega
    · rw [Int32.toInt_sub, hx, hgt, hgk]
      rw [sp_bm]
      · rcases hg with rfl | rfl <;> omega
      · rcases hg with rfl | rfl <;> omega
      · rcases hg with rfl | rfl <;> omega
theorem sp_sg_int {x : Int32} {M : Nat} {g : Int} (hg : g = 1 ∨ g = -1) (hx : x.toInt = g * M) (hM : 0 < M) : (sp_sg x).toInt = g := by
  unfold sp_sg
  have h1 : (-1 : Int32).toInt = -1 := by decide
  have h2 : (1 : Int32).toInt = 1 := by decide
  have h3 : (0 : Int32).toInt = 0 := by decide
  rcases hg with rfl | rfl
  · rw [if_neg (by rw [Int32.lt_iff_toInt_lt, h3]; omega)]; exact h2
  · rw [if_pos (by rw [Int32.lt_iff_toInt_lt, h3]; omega)]; exact h1
theorem sp_s2_0 (P : Nat → Nat) (n k : Nat) (f : Nat → Int32) : lp (sp_s2 P) n k (f, 0) = (f, 0) := by
  induction n generalizing k with
  | zero => rfl
  | succ n ih =>
    have : sp_s2 P k (f, 0) = (f, 0) := by simp [sp_s2]
    simp only [lp, this, ih]
theorem sp_s2_end {P : Nat → Nat} {g : Int} (hg : g = 1 ∨ g = -1) (n k : Nat) (f : Nat → Int32) (x : Int32) (M : Nat) (hx : x.toInt = g * M) (hM : M ≤ sm (sp_cf P) n k) (hM2 : M ≤ 2 ^ 31) : (lp (sp_s2 P) n k (f, x)).2 = 0 := by
  have h3 : (0 : Int32).toInt = 0 := by decide
  induction n generalizing k f x M with
  | zero =>
    simp only [sm] at hM
    apply Int32.toInt_inj.mp
    simp only [lp]
    rw [hx, show M = 0 by omega, h3]; simp
  | succ n ih =>
    simp only [lp]
    have hM' : M ≤ sp_cf P k + sm (sp_cf P) n (k + 1) := hM
    by_cases hz : x = 0
    · subst hz
      have : sp_s2 P k (f, 0) = (f, 0) := by simp [sp_s2]
      rw [this, sp_s2_0]
    · have hMp : 0 < M := by
        rcases Nat.eq_zero_or_pos M with h | h
        · exact absurd (Int32.toInt_inj.mp (by rw [hx, h, h3]; simp)) hz
        · exact h
      by_cases hp : P k = 0
      · have : sp_s2 P k (f, x) = (f, x) := by simp [sp_s2, hp]
        rw [this]
        exact ih (k + 1) f x M hx (by rw [sp_cf_0 hp] at hM'; omega) hM2
      · have : sp_s2 P k (f, x) = (upd f k (f k + sp_sg x), x - sp_sg x) := by simp [sp_s2, hz, hp]
        rw [this]
        refine ih (k + 1) _ _ (M - 1) ?_ (by rw [sp_cf_1 hp] at hM'; omega) (by omega)
        have hlo := x.le_toInt
        have hhi := x.toInt_lt
        rw [Int32.toInt_sub, sp_sg_int hg hx hMp, hx, sp_bm]
        · rcases hg with rfl | rfl <;> omega
        · rcases hg with rfl | rfl <;> omega
        · rcases hg with rfl | rfl <;> omega
/-- one round is enough -/
theorem sp_share_end (q : Int32) {P : Nat → Nat} {al n k : Nat} (h0 : 0 < al) (hal : al ≤ 2 ^ 24) (hs : sm P n k = al) (hP : ∀ j, k ≤ j → j < k + n → P j ≤ al) (f : Nat → Int32) : (lp (sp_s2 P) n k (lp (sp_s1 q P al) n k (f, q))).2 = 0 := by
  have hlo := q.le_toInt
  have hhi := q.toInt_lt
  obtain ⟨g, N, hg, hq⟩ : ∃ (g : Int) (N : Nat), (g = 1 ∨ g = -1) ∧ q.toInt = g * N := by
    rcases Int.le_total 0 q.toInt with h | h
    · exact ⟨1, q.toInt.toNat, Or.inl rfl, by omega⟩
    · exact ⟨-1, (-q.toInt).toNat, Or.inr rfl, by omega⟩
  have hN : N ≤ 2 ^ 31 := by rcases hg with rfl | rfl <;> omega
  obtain ⟨c1, c2⟩ := sp_cnt3 (N := N) h0 hs
  have hl := sp_left hg hq h0 hal n k hP f q N hq c1 (Nat.le_refl _)
  generalize lp (sp_s1 q P al) n k (f, q) = r at hl ⊢
  obtain ⟨f', x⟩ := r
  exact sp_s2_end hg n k f' x _ hl (by omega) (by omega)
/-- the sign stays till nothing is left -/
theorem sp_sg_step {x : Int32} (h : ¬ x = 0) : x - sp_sg x = 0 ∨ sp_sg (x - sp_sg x) = sp_sg x := by
  have h1 : (-1 : Int32).toInt = -1 := by decide
  have h2 : (1 : Int32).toInt = 1 := by decide
  have h3 : (0 : Int32).toInt = 0 := by decide
  have hlo := x.le_toInt
  have hhi := x.toInt_lt
  have hne : x.toInt ≠ 0 := fun q => h (Int32.toInt_inj.mp (by rw [q, h3]))
  by_cases hx : x < 0
  · have hxi := Int32.lt_iff_toInt_lt.mp hx
    rw [h3] at hxi
    have hs : sp_sg x = -1 := by simp [sp_sg, hx]
    rw [hs]
    have e : (x - -1).toInt = x.toInt + 1 := by rw [Int32.toInt_sub, h1, sp_bm] <;> omega
    by_cases hz : x.toInt = -1
    · exact Or.inl (Int32.toInt_inj.mp (by rw [e, h3]; omega))
    · refine Or.inr ?_
      unfold sp_sg
      rw [if_pos (Int32.lt_iff_toInt_lt.mpr (by rw [e, h3]; omega))]
  · have hxi : 0 ≤ x.toInt := by
      rcases Int.lt_or_le x.toInt 0 with q | q
      · exact absurd (Int32.lt_iff_toInt_lt.mpr (by rw [h3]; exact q)) hx
      · exact q
    have hs : sp_sg x = 1 := by simp [sp_sg, hx]
    rw [hs]
    have e : (x - 1).toInt = x.toInt - 1 := by rw [Int32.toInt_sub, h2, sp_bm] <;> omega
    by_cases hz : x.toInt = 1
    · exact Or.inl (Int32.toInt_inj.mp (by rw [e, h3]; omega))
    · refine Or.inr ?_
      unfold sp_sg
      rw [if_neg (fun q => by have := Int32.lt_iff_toInt_lt.mp q; rw [e, h3] at this; omega)]
/-- only the floors that there are matter -/
theorem lp_s1_cong {n : Nat} (q : Int32) (P : Nat → Nat) (al : Nat) (m k : Nat) (h : k + m ≤ n) (f f' : Nat → Int32) (x : Int32) (hf : ∀ j, j < n → f j = f' j) : (∀ j, j < n → (lp (sp_s1 q P al) m k (f, x)).1 j = (lp (sp_s1 q P al) m k (f', x)).1 j) ∧ (lp (sp_s1 q P al) m k (f, x)).2 = (lp (sp_s1 q P al) m k (f', x)).2 := by
  induction m generalizing k f f' x with
  | zero => exact ⟨hf, rfl⟩
  | succ m ih =>
    simp only [lp, sp_s1]
    refine ih (k + 1) (by omega) _ _ _ (fun j hj => ?_)
    unfold upd
    rw [hf k (by omega), hf j hj]
theorem lp_s2_cong {n : Nat} (P : Nat → Nat) (m k : Nat) (h : k + m ≤ n) (f f' : Nat → Int32) (x : Int32) (hf : ∀ j, j < n → f j = f' j) : (∀ j, j < n → (lp (sp_s2 P) m k (f, x)).1 j = (lp (sp_s2 P) m k (f', x)).1 j) ∧ (lp (sp_s2 P) m k (f, x)).2 = (lp (sp_s2 P) m k (f', x)).2 := by
  induction m generalizing k f f' x with
  | zero => exact ⟨hf, rfl⟩
  | succ m ih =>
    simp only [lp]
    by_cases hc : x = 0 ∨ P k = 0
    · have e1 : sp_s2 P k (f, x) = (f, x) := by simp [sp_s2, hc]
      have e2 : sp_s2 P k (f', x) = (f', x) := by simp [sp_s2, hc]
      rw [e1, e2]
      exact ih (k + 1) (by omega) _ _ _ hf
    · have e1 : sp_s2 P k (f, x) = (upd f k (f k + sp_sg x), x - sp_sg x) := by simp only [sp_s2]; rw [if_neg hc]
      have e2 : sp_s2 P k (f', x) = (upd f' k (f' k + sp_sg x), x - sp_sg x) := by simp only [sp_s2]; rw [if_neg hc]
      rw [e1, e2]
      refine ih (k + 1) (by omega) _ _ _ (fun j hj => ?_)
      unfold upd
      rw [hf k (by omega), hf j hj]
/-- parts that the loops read alike -/
theorem lp_s1_P {q : Int32} {P P' : Nat → Nat} {al m k : Nat} (h : ∀ j, k ≤ j → j < k + m → P j = P' j) (s : (Nat → Int32) × Int32) : lp (sp_s1 q P al) m k s = lp (sp_s1 q P' al) m k s := by
  induction m generalizing k s with
  | zero => show s = s; rfl
  | succ m ih =>
    have e : sp_s1 q P al k s = sp_s1 q P' al k s := by unfold sp_s1; rw [h k (Nat.le_refl _) (by omega)]
    show lp (sp_s1 q P al) m (k + 1) (sp_s1 q P al k s) = lp (sp_s1 q P' al) m (k + 1) (sp_s1 q P' al k s)
    rw [e]
    exact ih (fun j h1 h2 => h j (by omega) (by omega)) _
theorem lp_s2_P {P P' : Nat → Nat} {m k : Nat} (h : ∀ j, k ≤ j → j < k + m → P j = P' j) (s : (Nat → Int32) × Int32) : lp (sp_s2 P) m k s = lp (sp_s2 P') m k s := by
  induction m generalizing k s with
  | zero => show s = s; rfl
  | succ m ih =>
    simp only [lp]
    rw [show sp_s2 P k s = sp_s2 P' k s by simp only [sp_s2]; rw [h k (Nat.le_refl _) (by omega)]]
    exact ih (fun j h1 h2 => h j (by omega) (by omega)) _
