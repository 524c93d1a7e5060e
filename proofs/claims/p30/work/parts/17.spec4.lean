/-! what the shot does -/
def bgM (m : Int) : Int := if m < 100 then m + 1 else m
def bgZ (f : Int → Int) (m x : Int) : Int → Int := if m < 100 then zup f m x else f
def refO (ra : Int → Nat) (b : Int) : Value := if b = -1 then .null else .ref (ra b)
theorem refO_n {ra : Int → Nat} {b : Int} (h : b = -1) : refO ra b = .null := if_pos h
theorem refO_r {ra : Int → Nat} {b : Int} (h : ¬ b = -1) : refO ra b = .ref (ra b) := if_neg h
def erlF (T U : Int → Int) : Nat → Int
  | 0 => -1
  | k + 1 => if ¬ U (k : Int) = 0 ∧ (erlF T U k = -1 ∨ T (k : Int) < T (erlF T U k)) then (k : Int) else erlF T U k
theorem erl_R (T U : Int → Int) : ∀ k : Nat, -1 ≤ erlF T U k ∧ erlF T U k < k
  | 0 => by
    unfold erlF
    omega
  | k + 1 => by
    have := erl_R T U k
    unfold erlF
    split <;> omega
theorem erl_s {T U : Int → Int} {i : Int} (h : 0 ≤ i) : erlF T U (i + 1).toNat = if ¬ U i = 0 ∧ (erlF T U i.toNat = -1 ∨ T i < T (erlF T U i.toNat)) then i else erlF T U i.toNat := by
  rw [show (i + 1).toNat = i.toNat + 1 by omega, erlF, Int.toNat_of_nonneg h]
theorem pokO2 {a0 : Option Value} {ra : Int → Nat} {b : Int} {t : List (Option Value)} : pok (a0 :: some (refO ra b) :: t) 2 = true := by
  unfold refO
  split <;> rfl
/-- the rays: how many, place, step, energy, arrival, going -/
abbrev RX : Type := Int × (Int → Int) × (Int → Int) × (Int → Int) × (Int → Int) × (Int → Int)
def spX (thr k r : Int) (x : RX) : RX :=
  if ¬ tiltF (x.2.2.1 r) k = 0 ∧ thr ≤ x.2.2.2.1 r / 2 then
    (bgM x.1, bgZ x.2.1 x.1 (x.2.1 r), bgZ x.2.2.1 x.1 (tiltF (x.2.2.1 r) k), bgZ (zup x.2.2.2.1 r (x.2.2.2.1 r - x.2.2.2.1 r / 2)) x.1 (x.2.2.2.1 r / 2), bgZ x.2.2.2.2.1 x.1 (x.2.2.2.2.1 r + chordF (tiltF (x.2.2.1 r) k)), bgZ x.2.2.2.2.2 x.1 1)
  else (x.1, x.2.1, x.2.2.1, zup x.2.2.2.1 r (x.2.2.2.1 r - x.2.2.2.1 r / 2), x.2.2.2.2.1, x.2.2.2.2.2)
theorem sp_t {thr k r m : Int} {P S E T U : Int → Int} (h : ¬ tiltF (S r) k = 0 ∧ thr ≤ E r / 2) : spX thr k r (m, P, S, E, T, U) = (bgM m, bgZ P m (P r), bgZ S m (tiltF (S r) k), bgZ (zup E r (E r - E r / 2)) m (E r / 2), bgZ T m (T r + chordF (tiltF (S r) k)), bgZ U m 1) := if_pos h
theorem sp_f {thr k r m : Int} {P S E T U : Int → Int} (h : ¬ (¬ tiltF (S r) k = 0 ∧ thr ≤ E r / 2)) : spX thr k r (m, P, S, E, T, U) = (m, P, S, zup E r (E r - E r / 2), T, U) := if_neg h
/-- and what is heard: the ears, the echoes -/
abbrev SX : Type := RX × (Int → Int) × Int × (Int → Int)
noncomputable def actX (thr h kd k p r : Int) (x : SX) : SX :=
  if kd = 0 then ((x.1.1, x.1.2.1, x.1.2.2.1, zup x.1.2.2.2.1 r (x.1.2.2.2.1 r * (1000 - k) / 1000), x.1.2.2.2.2.1, x.1.2.2.2.2.2), x.2)
  else if kd = 1 then ((x.1.1, x.1.2.1, zup x.1.2.2.1 r (-(x.1.2.2.1 r)), x.1.2.2.2.1, x.1.2.2.2.2.1, x.1.2.2.2.2.2), x.2)
  else if kd = 2 then ((x.1.1, x.1.2.1, zup x.1.2.2.1 r (if tiltF (x.1.2.2.1 r) k = 0 then x.1.2.2.1 r else tiltF (x.1.2.2.1 r) k), x.1.2.2.2.1, x.1.2.2.2.2.1, zup x.1.2.2.2.2.2 r (if tiltF (x.1.2.2.1 r) k = 0 then 0 else x.1.2.2.2.2.2 r)), x.2)
  else if kd = 3 then (spX thr k r x.1, x.2)
  else (x.1, hearF x.2.1 p (x.1.2.2.2.2.1 r) (x.1.2.2.2.1 r), eC x.2.2.1 x.2.2.2 h, eF x.2.2.1 x.2.2.2 h)
section ACT
variable {thr h kd k p r m ec : Int} {P S E T U A Ec : Int → Int}
theorem act_0 (e : kd = 0) : actX thr h kd k p r ((m, P, S, E, T, U), A, ec, Ec) = ((m, P, S, zup E r (E r * (1000 - k) / 1000), T, U), A, ec, Ec) := if_pos e
theorem act_1 (e : kd = 1) : actX thr h kd k p r ((m, P, S, E, T, U), A, ec, Ec) = ((m, P, zup S r (-(S r)), E, T, U), A, ec, Ec) := by
  unfold actX; rw [if_neg (by omega), if_pos e]
theorem act_2 (e : kd = 2) : actX thr h kd k p r ((m, P, S, E, T, U), A, ec, Ec) = ((m, P, zup S r (if tiltF (S r) k = 0 then S r else tiltF (S r) k), E, T, zup U r (if tiltF (S r) k = 0 then 0 else U r)), A, ec, Ec) := by
  unfold actX; rw [if_neg (by omega), if_neg (by omega), if_pos e]
theorem act_3 (e : kd = 3) : actX thr h kd k p r ((m, P, S, E, T, U), A, ec, Ec) = (spX thr k r (m, P, S, E, T, U), A, ec, Ec) := by
  unfold actX; rw [if_neg (by omega), if_neg (by omega), if_neg (by omega), if_pos e]
theorem act_4 (e : kd = 4) : actX thr h kd k p r ((m, P, S, E, T, U), A, ec, Ec) = ((m, P, S, E, T, U), hearF A p (T r) (E r), eC ec Ec h, eF ec Ec h) := by
  unfold actX; rw [if_neg (by omega), if_neg (by omega), if_neg (by omega), if_neg (by omega)]
end ACT
/-- the numbers of a part are as its kind asks -/
abbrev PartOK (f : Int → Int) (i : Int) : Prop := allowP (f (i * 4 + 0)) (f (i * 4 + 1)) (f (i * 4 + 2)) (f (i * 4 + 3))
theorem PartOK.k {f : Int → Int} {i : Int} (h : PartOK f i) : (f (i * 4 + 0) = 0 → 0 ≤ f (i * 4 + 3) ∧ f (i * 4 + 3) ≤ 1000) ∧ -9999 ≤ f (i * 4 + 3) ∧ f (i * 4 + 3) ≤ 9999 := by
  obtain ⟨h1, -, -, h3, h4⟩ := h
  have q1 := least_R (f (i * 4 + 0))
  have q2 := most_R (f (i * 4 + 0))
  refine ⟨fun e => ?_, by omega, by omega⟩
  unfold leastF at h3
  unfold mostF at h4
  rw [if_neg (by omega)] at h3
  rw [if_neg (by omega), if_pos e] at h4
  exact ⟨h3, h4⟩
