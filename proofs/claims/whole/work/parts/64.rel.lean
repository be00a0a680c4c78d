/-! the relation between the class's state and the reference's -/
def qf (a0 : Int32) (x : UInt32) (y : UInt64) : Nat := if a0 = 0 then x.toNat else y.toNat
theorem qf_0 (x : UInt32) (y : UInt64) : qf 0 x y = x.toNat := if_pos rfl
theorem qf_1 (x : UInt32) (y : UInt64) : qf 1 x y = y.toNat := if_neg (by decide)
/-- a dial -/
def dK (f g : Int32) (R P L : Int64) (rF pF : UInt32) (rD pD : UInt64) (l : Int64) : Prop := (f = 0 ∨ f = 1) ∧ g = f ∧ (R = xb f (qf f rF rD) ∧ fN f (qf f rF rD) ∧ ¬ qf f rF rD % 2 ^ hN f = 0) ∧ (P = xb f (qf f pF pD) ∧ fN f (qf f pF pD)) ∧ L = l
def rlD (o : Os) (m : Ms) : Prop := c_nd o ≤ 12 ∧ m_dials m = nI (c_nd o) ∧ ∀ i, i < c_nd o → dK (c_dF o i) (m_isFine m i) (c_dR o i) (c_dP o i) (c_dL o i) (m_rimF m i) (m_placeF m i) (m_rimD m i) (m_placeD m i) (m_lapsOf m i)
/-- a drive, in the first k calls -/
def vK (k : Nat) (s : Nat) (t : Int32) (P : Int64) (p : UInt64) (G g C c : Int32) : Prop := s ≤ 2 ∧ t = nI s ∧ (P = xb 1 p.toNat ∧ fN 1 p.toNat) ∧ (G = g ∧ g.toInt.natAbs ≤ 1000) ∧ C = c ∧ ∃ n, c = nI n ∧ n ≤ k
def rlV (k : Nat) (o : Os) (m : Ms) : Prop := c_nv o ≤ 20 ∧ m_drives m = nI (c_nv o) ∧ ∀ i, i < c_nv o → vK k (c_vS o i) (m_sortOf m i) (c_vP o i) (m_pullOf m i) (c_vG o i) (m_gearOf m i) (c_vC o i) (m_pulled m i)
/-- what stands in a slot or at a shaft's place -/
def sK (n : Nat) (x : Option Nat) (y : Int32) : Prop := (x = none ∧ y = -1) ∨ ∃ d, x = some d ∧ d < n ∧ y = nI d
def rlS (o : Os) (m : Ms) : Prop := (∀ i, i < 6 → sK (c_nv o) (c_sl o i) (m_slots m i)) ∧ ∀ i, i < 8 → sK (c_nv o) (c_sh o i) (m_shafts m i)
/-- a log's row -/
def rlR (o : Os) (m : Ms) : Prop := ∀ L, L < 8 → ∀ b, b < 2 → (m_many m (2 * L + b) = c_rS o (2 * L + b) ∧ (c_rS o (2 * L + b) = -1 ∨ ∃ n, n ≤ 16 ∧ c_rS o (2 * L + b) = nI n)) ∧ ∀ j, j < 16 → c_rP o (2 * L + b) j = xb (nI b) (qf (nI b) (m_floats m (16 * L + j)) (m_doubles m (16 * L + j))) ∧ nN (nI b) (qf (nI b) (m_floats m (16 * L + j)) (m_doubles m (16 * L + j)))
def rlT (o : Os) (m : Ms) : Prop := c_se o = m_seen m ∧ ∀ j, j < 5 → c_cn o j = m_counts m j
/-- all but the latest failure -/
def r0 (k : Nat) (o : Os) (m : Ms) : Prop := rlD o m ∧ rlV k o m ∧ rlS o m ∧ rlR o m ∧ rlT o m
def rl (k : Nat) (o : Os) (m : Ms) : Prop := r0 k o m ∧ c_fl o = m_failed m
theorem vK.more {k k' s : Nat} {t : Int32} {P : Int64} {p : UInt64} {G g C c : Int32} (h : vK k s t P p G g C c) (hk : k ≤ k') : vK k' s t P p G g C c := by
  obtain ⟨h1, h2, h3, h4, h5, n, h6, h7⟩ := h
  exact ⟨h1, h2, h3, h4, h5, n, h6, Nat.le_trans h7 hk⟩
theorem r0.more {k k' : Nat} {o : Os} {m : Ms} (h : r0 k o m) (hk : k ≤ k') : r0 k' o m := by
  obtain ⟨hD, hV, hS, hR, hT⟩ := h
  exact ⟨hD, ⟨hV.1, hV.2.1, fun i hi => (hV.2.2 i hi).more hk⟩, hS, hR, hT⟩
theorem rl.more {k k' : Nat} {o : Os} {m : Ms} (h : rl k o m) (hk : k ≤ k') : rl k' o m := ⟨h.1.more hk, h.2⟩
/-! numbers of a range -/
theorem i_toInt (a : Int32) : -2147483648 ≤ a.toInt ∧ a.toInt < 2147483648 := ⟨a.le_toInt, a.toInt_lt⟩
theorem rg_c (a : Int32) {n : Nat} (hn : n < 2147483648) : (∃ i, i < n ∧ a = nI i) ∨ (a.toInt < 0 ∨ (n : Int) ≤ a.toInt) := by
  by_cases h : a.toInt < 0
  · exact Or.inr (Or.inl h)
  · by_cases g : (n : Int) ≤ a.toInt
    · exact Or.inr (Or.inr g)
    · refine Or.inl ⟨a.toInt.toNat, by omega, ?_⟩
      apply Int32.toInt_inj.mp
      rw [nI_toInt (by omega)]
      omega
theorem in_c (a : Int32) (lo hi : Int64) : jX8_in a.toInt64 lo hi = if lo.toInt ≤ a.toInt ∧ a.toInt ≤ hi.toInt then 1 else 0 := by
  unfold jX8_in
  have e1 : a.toInt64 < lo ↔ a.toInt < lo.toInt := by rw [Int64.lt_iff_toInt_lt, Int32.toInt_toInt64]
  have e2 : hi < a.toInt64 ↔ hi.toInt < a.toInt := by rw [Int64.lt_iff_toInt_lt, Int32.toInt_toInt64]
  by_cases h : a.toInt < lo.toInt
  · rw [if_pos (e1.mpr h), if_neg (by omega)]
  · rw [if_neg (fun q => h (e1.mp q))]
    by_cases g : hi.toInt < a.toInt
    · rw [if_pos (e2.mpr g), if_neg (by omega)]
    · rw [if_neg (fun q => g (e2.mp q)), if_pos (by omega)]
theorem l_m1 {n : Nat} (h : n < 2147483648) : ((nI n).toInt64 - (1 : Int64)).toInt = (n : Int) - 1 := by
  rw [nI_l (by omega)]
  by_cases h0 : n = 0
  · subst h0; decide
  · rw [show (1 : Int64) = lN 1 from rfl, lN_sub (by omega), lN_toInt (by omega)]
    omega
theorem ltz_i {a : Int32} (h : a.toInt < 0) : a < 0 := Int32.lt_iff_toInt_lt.mpr h
theorem le_n {a : Int32} {n : Nat} (hn : n < 2147483648) (h : (n : Int) ≤ a.toInt) : nI n ≤ a := Int32.le_iff_toInt_le.mpr (by rw [nI_toInt (by omega)]; exact h)
theorem sl_c (a : Int32) : (∃ i, i < 6 ∧ a = nI i ∧ jX7_isSlot a = 1 ∧ jX8_isSlot a = 1) ∨ (jX7_isSlot a = 0 ∧ jX8_isSlot a = 0) := by
  unfold jX7_isSlot jX8_isSlot
  rw [in_c]
  rcases rg_c a (n := 6) (by decide) with ⟨i, hi, rfl⟩ | h
  · refine Or.inl ⟨i, hi, rfl, ?_, ?_⟩
    · rw [if_neg (nI_pos (by omega)), if_neg (show ¬ (6 : Int32) ≤ nI i from nI_ge (b := 6) (by omega) (by decide))]
    · rw [nI_toInt (by omega)]; exact if_pos ⟨by show (0 : Int) ≤ _; omega, by show _ ≤ (5 : Int); omega⟩
  · refine Or.inr ⟨?_, if_neg ?_⟩
    · rcases h with h | h
      · rw [if_pos (ltz_i h)]
      · rw [if_neg (fun g => by have := Int32.lt_iff_toInt_lt.mp g; have e : (0 : Int32).toInt = 0 := rfl; omega), if_pos (show (6 : Int32) ≤ a from le_n (n := 6) (by decide) h)]
    · show ¬ ((0 : Int) ≤ _ ∧ _ ≤ (5 : Int)); omega
theorem sf_c (a : Int32) : (∃ i, i < 2 ∧ a = nI i ∧ jX7_isShaft a = 1 ∧ jX8_isShaft a = 1) ∨ (jX7_isShaft a = 0 ∧ jX8_isShaft a = 0) := by
  unfold jX7_isShaft jX8_isShaft
  rw [in_c]
  rcases rg_c a (n := 2) (by decide) with ⟨i, hi, rfl⟩ | h
  · refine Or.inl ⟨i, hi, rfl, ?_, ?_⟩
    · rw [if_neg (nI_pos (by omega)), if_neg (show ¬ (2 : Int32) ≤ nI i from nI_ge (b := 2) (by omega) (by decide))]
    · rw [nI_toInt (by omega)]; exact if_pos ⟨by show (0 : Int) ≤ _; omega, by show _ ≤ (1 : Int); omega⟩
  · refine Or.inr ⟨?_, if_neg ?_⟩
    · rcases h with h | h
      · rw [if_pos (ltz_i h)]
      · rw [if_neg (fun g => by have := Int32.lt_iff_toInt_lt.mp g; have e : (0 : Int32).toInt = 0 := rfl; omega), if_pos (show (2 : Int32) ≤ a from le_n (n := 2) (by decide) h)]
    · show ¬ ((0 : Int) ≤ _ ∧ _ ≤ (1 : Int)); omega
theorem sp_c (a : Int32) : (∃ i, i < 4 ∧ a = nI i ∧ jX7_isShaftPlace a = 1 ∧ jX8_in a.toInt64 (0 : Int64) (3 : Int64) = 1) ∨ (jX7_isShaftPlace a = 0 ∧ jX8_in a.toInt64 (0 : Int64) (3 : Int64) = 0) := by
  unfold jX7_isShaftPlace
  rw [in_c]
  rcases rg_c a (n := 4) (by decide) with ⟨i, hi, rfl⟩ | h
  · refine Or.inl ⟨i, hi, rfl, ?_, ?_⟩
    · rw [if_neg (nI_pos (by omega)), if_neg (show ¬ (4 : Int32) ≤ nI i from nI_ge (b := 4) (by omega) (by decide))]
    · rw [nI_toInt (by omega)]; exact if_pos ⟨by show (0 : Int) ≤ _; omega, by show _ ≤ (3 : Int); omega⟩
  · refine Or.inr ⟨?_, if_neg ?_⟩
    · rcases h with h | h
      · rw [if_pos (ltz_i h)]
      · rw [if_neg (fun g => by have := Int32.lt_iff_toInt_lt.mp g; have e : (0 : Int32).toInt = 0 := rfl; omega), if_pos (show (4 : Int32) ≤ a from le_n (n := 4) (by decide) h)]
    · show ¬ ((0 : Int) ≤ _ ∧ _ ≤ (3 : Int)); omega
/-- a dial's number -/
theorem da_c {o : Os} {m : Ms} (h : rlD o m) (a : Int32) : sX7_dialAt o a ∧ ((∃ i, i < c_nd o ∧ a = nI i ∧ jX7_dialAt o a = some i ∧ jX8_isDial m a = 1) ∨ (jX7_dialAt o a = none ∧ jX8_isDial m a = 0)) := by
  obtain ⟨h1, h2, -⟩ := h
  unfold sX7_dialAt jX7_dialAt jX8_isDial
  rw [in_c, h2, l_m1 (by omega)]
  rcases rg_c a (n := c_nd o) (by omega) with ⟨i, hi, rfl⟩ | h
  · rw [if_neg (nI_pos (by omega)), if_neg (nI_ge (by omega) (by omega)), if_neg (nI_pos (by omega)), if_neg (nI_ge (by omega) (by omega)), nI_clamp (by omega), nI_toInt (by omega)]
    exact ⟨⟨trivial, nI_in (by omega) (by decide), hi, trivial⟩, Or.inl ⟨i, hi, rfl, rfl, if_pos ⟨by show (0 : Int) ≤ _; omega, by omega⟩⟩⟩
  · rcases h with h | h
    · rw [if_pos (ltz_i h), if_pos (ltz_i h)]
      exact ⟨⟨trivial, trivial⟩, Or.inr ⟨rfl, if_neg (by show ¬ ((0 : Int) ≤ _ ∧ _); omega)⟩⟩
    · have g : ¬ a < 0 := fun g => by have := Int32.lt_iff_toInt_lt.mp g; have e : (0 : Int32).toInt = 0 := rfl; omega
      rw [if_neg g, if_pos (le_n (by omega) h), if_neg g, if_pos (le_n (by omega) h)]
      exact ⟨⟨trivial, trivial⟩, Or.inr ⟨rfl, if_neg (by omega)⟩⟩
theorem va_c {k : Nat} {o : Os} {m : Ms} (h : rlV k o m) (a : Int32) : sX7_driveAt o a ∧ ((∃ i, i < c_nv o ∧ a = nI i ∧ jX7_driveAt o a = some i ∧ jX8_isDrive m a = 1) ∨ (jX7_driveAt o a = none ∧ jX8_isDrive m a = 0)) := by
  obtain ⟨h1, h2, -⟩ := h
  unfold sX7_driveAt jX7_driveAt jX8_isDrive
  rw [in_c, h2, l_m1 (by omega)]
  rcases rg_c a (n := c_nv o) (by omega) with ⟨i, hi, rfl⟩ | h
  · rw [if_neg (nI_pos (by omega)), if_neg (nI_ge (by omega) (by omega)), if_neg (nI_pos (by omega)), if_neg (nI_ge (by omega) (by omega)), nI_clamp (by omega), nI_toInt (by omega)]
    exact ⟨⟨trivial, nI_in (by omega) (by decide), hi, trivial⟩, Or.inl ⟨i, hi, rfl, rfl, if_pos ⟨by show (0 : Int) ≤ _; omega, by omega⟩⟩⟩
  · rcases h with h | h
    · rw [if_pos (ltz_i h), if_pos (ltz_i h)]
      exact ⟨⟨trivial, trivial⟩, Or.inr ⟨rfl, if_neg (by show ¬ ((0 : Int) ≤ _ ∧ _); omega)⟩⟩
    · have g : ¬ a < 0 := fun g => by have := Int32.lt_iff_toInt_lt.mp g; have e : (0 : Int32).toInt = 0 := rfl; omega
      rw [if_neg g, if_pos (le_n (by omega) h), if_neg g, if_pos (le_n (by omega) h)]
      exact ⟨⟨trivial, trivial⟩, Or.inr ⟨rfl, if_neg (by omega)⟩⟩
/-- a log's row -/
theorem nI_2 (L b : Nat) : ((2 : Int32) * nI L) + nI b = nI (2 * L + b) := by
  rw [show (2 : Int32) = nI 2 from rfl, ← nI_add]
  congr 1
  exact (Int32.ofNat_mul 2 L).symm
theorem ro_c (o : Os) (a b : Int32) (hb : b = 0 ∨ b = 1) : sX7_rowAt o a b ∧ ((∃ L c, L < 8 ∧ c < 2 ∧ a = nI L ∧ b = nI c ∧ jX7_rowAt o a b = some (2 * L + c) ∧ jX8_isLog a = 1 ∧ jX8_rowOf a b = nI (2 * L + c)) ∨ (jX7_rowAt o a b = none ∧ jX8_isLog a = 0)) := by
  unfold sX7_rowAt jX7_rowAt jX8_isLog sX7_rowAt_y3 jX7_rowAt_y3
  rw [in_c]
  rcases rg_c a (n := 8) (by decide) with ⟨L, hL, rfl⟩ | h
  · have e8 : nI L < (8 : Int32) := nI_lt (b := 8) hL (by decide)
    obtain ⟨c, hc, rfl, e3⟩ : ∃ c, c < 2 ∧ b = nI c ∧ (if b = 0 then (0 : Int32) else (1 : Int32)) = nI c := by
      rcases hb with rfl | rfl
      · exact ⟨0, by decide, rfl, rfl⟩
      · exact ⟨1, by decide, rfl, rfl⟩
    rw [if_neg (nI_pos (by omega)), if_pos e8, if_neg (nI_pos (by omega)), if_pos e8, e3, nI_2, nI_clamp (by omega), nI_toInt (by omega)]
    refine ⟨⟨trivial, trivial, nI_in (by omega) (by decide), trivial⟩, Or.inl ⟨L, c, hL, hc, rfl, rfl, rfl, if_pos ⟨by show (0 : Int) ≤ _; omega, by show _ ≤ (7 : Int); omega⟩, ?_⟩⟩
    unfold jX8_rowOf
    rcases hb with h | h
    · rw [if_pos h, ← nI_2, h]; simp
    · rw [if_neg (by rw [h]; decide), ← nI_2, h]
  · rcases h with h | h
    · rw [if_pos (ltz_i h), if_pos (ltz_i h)]
      exact ⟨⟨trivial, trivial⟩, Or.inr ⟨rfl, if_neg (by show ¬ ((0 : Int) ≤ _ ∧ _); omega)⟩⟩
    · have g : ¬ a < 0 := fun g => by have := Int32.lt_iff_toInt_lt.mp g; have e : (0 : Int32).toInt = 0 := rfl; omega
      have g8 : ¬ a < (8 : Int32) := fun g => by have := Int32.lt_iff_toInt_lt.mp g; have e : (8 : Int32).toInt = 8 := rfl; omega
      rw [if_neg g, if_neg g8, if_neg g, if_neg g8]
      exact ⟨⟨trivial, trivial⟩, Or.inr ⟨rfl, if_neg (by show ¬ (_ ∧ _ ≤ (7 : Int)); omega)⟩⟩
