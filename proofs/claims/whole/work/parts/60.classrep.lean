/-! ===== the class: its cells, and how they hold the system ===== -/
section SPV
variable {p : Program} {l : Launch} {e : Env} {R : Room} {s : State} {m : MethodId} {args : Array Value} {below : List Frame} {meth : Method} {c : Code} {H : Heap} {locs : List Loc} {Q : State → Prop} {pc : Nat} {ls : Array Slot} {rest : List Value}
theorem sp_topv {v w : Value} (h : v = w) (k : W p l e R s m args below meth c H locs 0 0 Q (F0 m pc ls (w :: rest))) : W p l e R s m args below meth c H locs 0 0 Q (F0 m pc ls (v :: rest)) := h ▸ k
end SPV
abbrev sp_BU : Type := (Nat → Int32) × (Nat → Int32) × Int32
abbrev sp_A3 : Type := Nat × Nat × Nat
def bkW (g : sp_G) (a : sp_A3) (u : sp_BU) : va_W := [(a.1, .inr (0, [.ref a.2.1, .ref a.2.2, .int u.2.2])), (a.2.1, .inl (g.2.1, 20, .inl u.1)), (a.2.2, .inl (g.2.1, 20, .inl u.2.1))]
def xoW (x0 : Nat) (aN aT : sp_A) (ap ab ai : Nat) (sd : Int32) : va_W := [(x0, .inr (4, [.ref aN.1, .ref aT.1, .ref ap, .ref ab, .ref ai, .int sd]))]
def poW (ap ar : Nat) (nx sz : Int32) : va_W := [(ap, .inr (2, [.ref ar, .int nx, .int sz]))]
def ioW (i a : Nat) (s k : Int32) : va_W := [(i, .inr (1, [.ref a, .int s, .int k]))]
def iaW (g : sp_G) (ai i0 i1 : Nat) : va_W := [(ai, .inl (g.2.2.2.2.1, 2, .inr (.inr (.inr (.inr (fun k => if k = 0 then some i0 else some i1))))))]
def raW (g : sp_G) (ar : Nat) (ad : Nat → sp_A) : va_W := [(ar, .inl (g.2.2.2.2.2, 20, .inr (.inr (.inr (.inr (fun k => some (ad k).1))))))]
def rgW (g : sp_G) (ad : Nat → sp_A) (cs : Nat → sp_U) : Nat → va_W
  | 0 => []
  | n + 1 => twW g (ad n) (cs n) ++ rgW g ad cs n
/-- the ring without its tower k -/
def rgX (g : sp_G) (ad : Nat → sp_A) (cs : Nat → sp_U) (k : Nat) : Nat → va_W
  | 0 => []
  | n + 1 => if n = k then rgW g ad cs n else twW g (ad n) (cs n) ++ rgX g ad cs k n
def updU (cs : Nat → sp_U) (k : Nat) (u : sp_U) : Nat → sp_U := fun j => if j = k then u else cs j
theorem rg_perm (g : sp_G) (ad : Nat → sp_A) (cs : Nat → sp_U) (k n : Nat) (h : k < n) : (rgW g ad cs n).Perm (twW g (ad k) (cs k) ++ rgX g ad cs k n) := by
  induction n with
  | zero => omega
  | succ n ih =>
    by_cases hz : n = k
    · subst hz
      simp only [rgW, rgX, if_pos rfl]
      exact List.Perm.refl _
    · simp only [rgW, rgX, if_neg hz]
      exact (List.Perm.append_left _ (ih (by omega))).trans (List.perm_append_comm_assoc _ _ _)
theorem rgW_cong (g : sp_G) (ad : Nat → sp_A) {cs cs' : Nat → sp_U} (n : Nat) (h : ∀ j, j < n → cs j = cs' j) : rgW g ad cs n = rgW g ad cs' n := by
  induction n with
  | zero => rfl
  | succ n ih => simp only [rgW]; rw [h n (by omega), ih (fun j hj => h j (by omega))]
theorem rgX_upd (g : sp_G) (ad : Nat → sp_A) (cs : Nat → sp_U) (k : Nat) (u : sp_U) (n : Nat) : rgX g ad (updU cs k u) k n = rgX g ad cs k n := by
  induction n with
  | zero => rfl
  | succ n ih =>
    by_cases hz : n = k
    · simp only [rgX, if_pos hz]
      exact rgW_cong g ad n (fun j hj => by simp [updU, show j ≠ k by omega])
    · simp only [rgX, if_neg hz]
      rw [ih]; simp [updU, hz]
theorem rg_back (g : sp_G) (ad : Nat → sp_A) (cs : Nat → sp_U) (k : Nat) (u : sp_U) (n : Nat) (h : k < n) : (twW g (ad k) u ++ rgX g ad cs k n).Perm (rgW g ad (updU cs k u) n) := by
  have := (rg_perm g ad (updU cs k u) k n h).symm
  rw [rgX_upd] at this
  simpa [updU] using this
/-- numbers -/
theorem sp_irem {a b : Nat} (ha : a < 2 ^ 31) (hb : b < 2 ^ 31) (h0 : 0 < b) : nI a - nI a / nI b * nI b = nI (a % b) := by
  have h := Nat.div_mul_le_self a b
  rw [sp_div ha hb h0, sp_mul, sp_sub h]
  congr 1
  have := Nat.div_add_mod a b
  rw [Nat.mul_comm] at this
  omega
theorem sp_msk31 (a : Nat) : nI a &&& nI 2147483647 = nI (a % 2147483648) := by
  apply Int32.toBitVec_inj.mp
  show BitVec.ofNat 32 a &&& BitVec.ofNat 32 2147483647 = BitVec.ofNat 32 (a % 2147483648)
  apply BitVec.eq_of_toNat_eq
  rw [BitVec.toNat_and, BitVec.toNat_ofNat, BitVec.toNat_ofNat, BitVec.toNat_ofNat]
  rw [show (2147483647 % 2 ^ 32 : Nat) = 2 ^ 31 - 1 by decide, Nat.and_two_pow_sub_one_eq_mod]
  omega
theorem sp_mn {a : Nat} (h : a ≤ 20) : (if nI 20 < nI (a + 1) then nI 20 else nI (a + 1)) = nI (min (a + 1) 20) := by
  by_cases hz : 20 < a + 1
  · rw [if_pos ((nI_ltI (by omega) (by omega)).mpr hz)]; congr 1; omega
  · rw [if_neg (mt (nI_ltI (by omega) (by omega)).mp hz)]; congr 1; omega
/-- bits counted -/
def bc1 (x : Int32) : Int32 := x - ((x.toUInt32 >>> ((nI 1).toUInt32 &&& Int32.toUInt32 31)).toInt32 &&& nI 1431655765)
def bc2 (x : Int32) : Int32 := (x &&& nI 858993459) + ((x.toUInt32 >>> ((nI 2).toUInt32 &&& Int32.toUInt32 31)).toInt32 &&& nI 858993459)
def bc3 (x : Int32) : Int32 := (x + (x.toUInt32 >>> ((nI 4).toUInt32 &&& Int32.toUInt32 31)).toInt32) &&& nI 252645135
def bc4 (x : Int32) : Int32 := x + (x.toUInt32 >>> ((nI 8).toUInt32 &&& Int32.toUInt32 31)).toInt32
def bc5 (x : Int32) : Int32 := x + (x.toUInt32 >>> ((nI 16).toUInt32 &&& Int32.toUInt32 31)).toInt32
theorem sp_bc : ∀ a, a < 256 → bc5 (bc4 (bc3 (bc2 (bc1 (nI a))))) &&& nI 63 = nI (pcN a) := by decide +kernel
