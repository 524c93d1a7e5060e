/-! what the text's reader does -/
def sgF (ch : Int → Int) (len i : Int) : Int := if 0 ≤ i ∧ i < len then ch i else 0
def ChOK (ch : Int → Int) (len : Int) : Prop := (0 ≤ len ∧ len ≤ 60) ∧ ∀ j, 0 ≤ j → j < len → 32 ≤ ch j ∧ ch j ≤ 126
theorem sg_R {ch : Int → Int} {len : Int} (h : ChOK ch len) (i : Int) : 0 ≤ sgF ch len i ∧ sgF ch len i ≤ 126 ∧ (sgF ch len i ≠ 0 → 0 ≤ i ∧ i < len) := by
  unfold sgF
  split
  · rename_i q
    have := h.2 i q.1 q.2
    exact ⟨by omega, by omega, fun _ => q⟩
  · exact ⟨by omega, by omega, fun q => absurd rfl q⟩
abbrev TS : Type := Int × Int × Int
def tkF (ch : Int → Int) (len x : Int) (t : TS) : TS := if t.2.1 = 0 then (if sgF ch len t.1 = x then (t.1 + 1, t.2.1, t.2.2) else (t.1, 1, t.2.2)) else t
def sameJ (ch : Int → Int) (len a k : Int) : Nat → Int → Int
  | 0, j => j
  | n + 1, j => if j < sL k ∧ sgF ch len (a + j) = sCh k j then sameJ ch len a k n (j + 1) else j
def sameF (ch : Int → Int) (len a k : Int) : Int := sameJ ch len a k 6 0
theorem same_R {ch : Int → Int} {len a k : Int} : ∀ (n : Nat) (j : Int), 0 ≤ j → j ≤ sL k → j ≤ sameJ ch len a k n j ∧ sameJ ch len a k n j ≤ sL k
  | 0, j, _, h => ⟨Int.le_refl _, h⟩
  | n + 1, j, h0, h => by
    unfold sameJ
    split
    · rename_i q
      have := same_R (ch := ch) (len := len) (a := a) (k := k) n (j + 1) (by omega) (by omega)
      omega
    · exact ⟨Int.le_refl _, h⟩
theorem same_in {ch : Int → Int} {len a k : Int} (hc : ChOK ch len) (hk : 0 ≤ k ∧ k < 5) (ha : 0 ≤ a ∧ a ≤ len) : ∀ (n : Nat) (j : Int), 0 ≤ j → a + j ≤ len → a + sameJ ch len a k n j ≤ len
  | 0, j, _, h => h
  | n + 1, j, h0, h => by
    unfold sameJ
    split
    · rename_i q
      have h2 := (sg_R hc (a + j)).2.2 (by rw [q.2]; have := sCh_R hk ⟨h0, q.1⟩; omega)
      exact same_in hc hk ha n (j + 1) (by omega) (by omega)
    · exact h
def lgM (ch : Int → Int) (len a : Int) : Nat → Int
  | 0 => 0
  | k + 1 => max (lgM ch len a k) (sameF ch len a (k : Int))
theorem lgM_s {ch : Int → Int} {len a : Int} {k : Int} (h : 0 ≤ k) : lgM ch len a (k + 1).toNat = max (lgM ch len a k.toNat) (sameF ch len a k) := by
  rw [show (k + 1).toNat = k.toNat + 1 by omega, lgM, Int.toNat_of_nonneg h]
theorem lgM_R {ch : Int → Int} {len a : Int} (hc : ChOK ch len) (ha : 0 ≤ a ∧ a ≤ len) : ∀ k : Nat, k ≤ 5 → 0 ≤ lgM ch len a k ∧ lgM ch len a k ≤ 5 ∧ a + lgM ch len a k ≤ len
  | 0, _ => by
    unfold lgM
    omega
  | k + 1, hk => by
    have h1 := lgM_R hc ha k (by omega)
    have hl := sL_R (k : Int)
    have h2 := same_R (ch := ch) (len := len) (a := a) (k := (k : Int)) 6 0 (by omega) (by omega)
    have h3 := same_in (k := (k : Int)) hc (by omega) ha 6 0 (by omega) (by omega)
    unfold lgM
    unfold sameF
    omega
/-- the first word that stands here; -1: none -/
def twJ (ch : Int → Int) (len a : Int) : Nat → Int → Int
  | 0, _ => -1
  | n + 1, k => if sameF ch len a k = sL k then k else twJ ch len a n (k + 1)
def twK (ch : Int → Int) (len a : Int) : Int := twJ ch len a 5 0
def twF (ch : Int → Int) (len : Int) (t : TS) : Int × TS := if t.2.1 = 0 then (if twK ch len t.1 = -1 then (4, t.1 + lgM ch len t.1 5, 1, t.2.2) else (twK ch len t.1, t.1 + sL (twK ch len t.1), t.2.1, t.2.2)) else (4, t)
theorem twJ_R {ch : Int → Int} {len a : Int} : ∀ (n : Nat) (k : Int), 0 ≤ k → twJ ch len a n k = -1 ∨ (k ≤ twJ ch len a n k ∧ twJ ch len a n k < k + n ∧ sameF ch len a (twJ ch len a n k) = sL (twJ ch len a n k))
  | 0, _, _ => Or.inl rfl
  | n + 1, k, h => by
    unfold twJ
    split
    · rename_i q
      exact Or.inr ⟨Int.le_refl _, by omega, q⟩
    · rcases twJ_R (ch := ch) (len := len) (a := a) n (k + 1) (by omega) with e | ⟨e1, e2, e3⟩
      · exact Or.inl e
      · exact Or.inr ⟨by omega, by omega, e3⟩
/-- digits, five at the most: where they end, and the number -/
def dgJ (ch : Int → Int) (len : Int) : Nat → Int → Int → Int × Int
  | 0, a, x => (a, x)
  | n + 1, a, x => if 48 ≤ sgF ch len a ∧ sgF ch len a ≤ 57 then dgJ ch len n (a + 1) (10 * x + (sgF ch len a - 48)) else (a, x)
theorem dg_R {ch : Int → Int} {len : Int} (hc : ChOK ch len) : ∀ (n : Nat) (a x : Int), 0 ≤ a → a ≤ len → 0 ≤ x → (a ≤ (dgJ ch len n a x).1 ∧ (dgJ ch len n a x).1 ≤ a + n ∧ (dgJ ch len n a x).1 ≤ len) ∧ 0 ≤ (dgJ ch len n a x).2 ∧ (dgJ ch len n a x).2 < (x + 1) * 10 ^ n
  | 0, a, x, h0, h1, h2 => ⟨⟨Int.le_refl _, by simp [dgJ], h1⟩, h2, by simp [dgJ]; omega⟩
  | n + 1, a, x, h0, h1, h2 => by
    unfold dgJ
    have hp : (0 : Int) < 10 ^ n := Int.pow_pos (by decide)
    split
    · rename_i q
      have h3 := (sg_R hc a).2.2 (by omega)
      have e := dg_R hc n (a + 1) (10 * x + (sgF ch len a - 48)) (by omega) (by omega) (by omega)
      refine ⟨⟨by omega, by omega, by omega⟩, e.2.1, Int.lt_of_lt_of_le e.2.2 ?_⟩
      have : (10 * x + (sgF ch len a - 48) + 1) * 10 ^ n ≤ ((x + 1) * 10) * 10 ^ n := Int.mul_le_mul_of_nonneg_right (by omega) (Int.le_of_lt hp)
      rw [Int.pow_succ, Int.mul_comm (10 ^ n : Int) 10, ← Int.mul_assoc]
      exact this
    · refine ⟨⟨Int.le_refl _, by omega, h1⟩, h2, ?_⟩
      have h4 : (x + 1) * 1 ≤ (x + 1) * 10 ^ (n + 1) := Int.mul_le_mul_of_nonneg_left (Int.pow_pos (by decide)) (by omega)
      omega
def ngF (ch : Int → Int) (len neg a : Int) : Int := if neg ≠ 0 ∧ sgF ch len a = 45 then 1 else 0
def tnF (ch : Int → Int) (len lo hi neg : Int) (t : TS) : Int × TS :=
  if t.2.1 = 0 then
    let s := t.1 + ngF ch len neg t.1
    let d := dgJ ch len 5 s 0
    let x := if ngF ch len neg t.1 = 0 then d.2 else -d.2
    (x, d.1, (if d.1 = s then 1 else 0), (if t.2.2 < 0 ∧ (x < lo ∨ hi < x) then s else t.2.2))
  else (0, t)
theorem tk_a {ch : Int → Int} {len x a b o : Int} (hb : b = 0) (h : sgF ch len a = x) : tkF ch len x (a, b, o) = (a + 1, b, o) := by
  unfold tkF
  rw [if_pos hb, if_pos h]
theorem tk_b {ch : Int → Int} {len x a b o : Int} (hb : b = 0) (h : ¬ sgF ch len a = x) : tkF ch len x (a, b, o) = (a, 1, o) := by
  unfold tkF
  rw [if_pos hb, if_neg h]
theorem tk_c {ch : Int → Int} {len x a b o : Int} (hb : ¬ b = 0) : tkF ch len x (a, b, o) = (a, b, o) := if_neg hb
/-- the reader's place, whether it is broken, the first number out of its range -/
def TI (len : Int) (t : TS) : Prop := (0 ≤ t.1 ∧ t.1 ≤ len) ∧ Z01 t.2.1 ∧ (-1 ≤ t.2.2 ∧ t.2.2 ≤ len)
theorem tk_I {ch : Int → Int} {len x : Int} {t : TS} (hc : ChOK ch len) (hx : x ≠ 0) (h : TI len t) : TI len (tkF ch len x t) := by
  obtain ⟨a, b, o⟩ := t
  obtain ⟨h1, h2, h3⟩ := h
  dsimp only at h1 h2 h3
  by_cases hb : b = 0
  · by_cases hs : sgF ch len a = x
    · rw [tk_a hb hs]
      have := (sg_R hc a).2.2 (by omega)
      exact ⟨by dsimp only; omega, h2, h3⟩
    · rw [tk_b hb hs]
      exact ⟨h1, Or.inr rfl, h3⟩
  · rw [tk_c hb]
    exact ⟨h1, h2, h3⟩
theorem tw_I {ch : Int → Int} {len : Int} {t : TS} (hc : ChOK ch len) (h : TI len t) : TI len (twF ch len t).2 ∧ (0 ≤ (twF ch len t).1 ∧ (twF ch len t).1 ≤ 4) := by
  obtain ⟨a, b, o⟩ := t
  obtain ⟨h1, h2, h3⟩ := h
  dsimp only at h1 h2 h3
  have hl := lgM_R hc h1 5 (Nat.le_refl _)
  unfold twF
  dsimp only
  split
  · split
    · exact ⟨⟨by dsimp only; omega, Or.inr rfl, h3⟩, by dsimp only; omega⟩
    · rename_i hk
      rcases twJ_R (ch := ch) (len := len) (a := a) 5 0 (by omega) with e | ⟨e1, e2, e3⟩
      · exact absurd e hk
      · have e4 := same_in (k := twK ch len a) hc (by unfold twK; omega) h1 6 0 (by omega) (by omega)
        have hs := sL_R (twK ch len a)
        have e5 : sameJ ch len a (twK ch len a) 6 0 = sL (twK ch len a) := e3
        rw [e5] at e4
        exact ⟨⟨by dsimp only; omega, h2, h3⟩, by unfold twK; dsimp only; omega⟩
  · exact ⟨⟨h1, h2, h3⟩, by dsimp only; omega⟩
theorem tn_I {ch : Int → Int} {len lo hi neg : Int} {t : TS} (hc : ChOK ch len) (h : TI len t) : TI len (tnF ch len lo hi neg t).2 ∧ (-100000 < (tnF ch len lo hi neg t).1 ∧ (tnF ch len lo hi neg t).1 < 100000) := by
  obtain ⟨a, b, o⟩ := t
  obtain ⟨h1, h2, h3⟩ := h
  dsimp only at h1 h2 h3
  unfold tnF
  dsimp only
  split
  · have hg : 0 ≤ a + ngF ch len neg a ∧ a + ngF ch len neg a ≤ len := by
      unfold ngF
      split
      · rename_i q
        have := (sg_R hc a).2.2 (by omega)
        omega
      · omega
    have hd := dg_R hc 5 (a + ngF ch len neg a) 0 hg.1 hg.2 (by decide)
    refine ⟨⟨by dsimp only; omega, ?_, ?_⟩, ?_⟩
    · dsimp only
      split
      · exact Or.inr rfl
      · exact Or.inl rfl
    · dsimp only
      split <;> omega
    · have := hd.2
      simp only [show (10 : Int) ^ 5 = 100000 by decide] at this
      split <;> omega
  · exact ⟨⟨h1, h2, h3⟩, by dsimp only; omega⟩
theorem same_e {ch : Int → Int} {len a k j : Int} (n : Nat) (h : j < sL k ∧ sgF ch len (a + j) = sCh k j) : sameJ ch len a k (n + 1) j = sameJ ch len a k n (j + 1) := if_pos h
theorem same_x {ch : Int → Int} {len a k j : Int} (n : Nat) (h : ¬ (j < sL k ∧ sgF ch len (a + j) = sCh k j)) : sameJ ch len a k (n + 1) j = j := if_neg h
theorem twJ_e {ch : Int → Int} {len a k : Int} (n : Nat) (h : sameF ch len a k = sL k) : twJ ch len a (n + 1) k = k := if_pos h
theorem twJ_x {ch : Int → Int} {len a k : Int} (n : Nat) (h : ¬ sameF ch len a k = sL k) : twJ ch len a (n + 1) k = twJ ch len a n (k + 1) := if_neg h
theorem tw_a {ch : Int → Int} {len a b o : Int} (hb : b = 0) (h : twK ch len a = -1) : twF ch len (a, b, o) = (4, a + lgM ch len a 5, 1, o) := by
  unfold twF
  rw [if_pos hb, if_pos h]
theorem tw_b {ch : Int → Int} {len a b o : Int} (hb : b = 0) (h : ¬ twK ch len a = -1) : twF ch len (a, b, o) = (twK ch len a, a + sL (twK ch len a), b, o) := by
  unfold twF
  rw [if_pos hb, if_neg h]
theorem tw_c {ch : Int → Int} {len a b o : Int} (hb : ¬ b = 0) : twF ch len (a, b, o) = (4, a, b, o) := if_neg hb
theorem dg_e {ch : Int → Int} {len a x : Int} (n : Nat) (h : 48 ≤ sgF ch len a ∧ sgF ch len a ≤ 57) : dgJ ch len (n + 1) a x = dgJ ch len n (a + 1) (10 * x + (sgF ch len a - 48)) := if_pos h
theorem dg_x {ch : Int → Int} {len a x : Int} (n : Nat) (h : ¬ (48 ≤ sgF ch len a ∧ sgF ch len a ≤ 57)) : dgJ ch len (n + 1) a x = (a, x) := if_neg h
theorem tn_c {ch : Int → Int} {len lo hi neg a b o : Int} (hb : ¬ b = 0) : tnF ch len lo hi neg (a, b, o) = (0, a, b, o) := if_neg hb
theorem tn_a {ch : Int → Int} {len lo hi neg a b o : Int} (hb : b = 0) : tnF ch len lo hi neg (a, b, o) = ((if ngF ch len neg a = 0 then (dgJ ch len 5 (a + ngF ch len neg a) 0).2 else -(dgJ ch len 5 (a + ngF ch len neg a) 0).2), (dgJ ch len 5 (a + ngF ch len neg a) 0).1, (if (dgJ ch len 5 (a + ngF ch len neg a) 0).1 = a + ngF ch len neg a then 1 else 0), (if o < 0 ∧ ((if ngF ch len neg a = 0 then (dgJ ch len 5 (a + ngF ch len neg a) 0).2 else -(dgJ ch len 5 (a + ngF ch len neg a) 0).2) < lo ∨ hi < (if ngF ch len neg a = 0 then (dgJ ch len 5 (a + ngF ch len neg a) 0).2 else -(dgJ ch len 5 (a + ngF ch len neg a) 0).2)) then a + ngF ch len neg a else o)) := if_pos hb
