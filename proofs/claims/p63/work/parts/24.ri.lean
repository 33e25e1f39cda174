/-! the relation between the class (its cells in M) and the model (its cells in N) -/
def dis (l cs : List (Nat × Nat × Nat)) : Bool := l.all fun q => cs.all fun c => Nat.blt q.2.1 c.1 || (Nat.blt c.2.1 q.1 || (q.2.2 != 0 && (c.2.2 != 0 && q.2.2 != c.2.2)))
theorem dis_T {l cs : List (Nat × Nat × Nat)} (h : dis l cs = true) {c : Nat × Nat × Nat} (hc : c ∈ cs) {b k : Nat} (h1 : c.1 ≤ b) (h2 : b ≤ c.2.1) (h3 : c.2.2 = 0 ∨ c.2.2 = k + 1) : inT l b k = false := by
  unfold inT
  rw [List.any_eq_false]
  intro q hq hq2
  have h4 := List.all_eq_true.mp (List.all_eq_true.mp h q hq) c hc
  simp only [Bool.and_eq_true, Bool.or_eq_true, Nat.ble_eq, Nat.blt_eq, bne_iff_ne, beq_iff_eq, ne_eq] at h4 hq2
  omega
/-- the memories agree on these cells -/
def Ag (cs : List (Nat × Nat × Nat)) (M M' : Mm) : Prop := ∀ b k, inT cs b k = true → M' b k = M b k
theorem Ag.of {l cs : List (Nat × Nat × Nat)} {M M' : Mm} (f : Fr l M M') (h : dis l cs = true) : Ag cs M M' := by
  intro b k hb
  obtain ⟨c, hc, h2⟩ := List.any_eq_true.mp hb
  simp only [Bool.and_eq_true, Bool.or_eq_true, Nat.ble_eq, beq_iff_eq] at h2
  exact f b k (dis_T h hc h2.1 h2.2.1 h2.2.2)
theorem Ag.rf (cs : List (Nat × Nat × Nat)) (M : Mm) : Ag cs M M := fun _ _ _ => rfl
theorem Ag.tr {cs : List (Nat × Nat × Nat)} {M M1 M2 : Mm} (h : Ag cs M M1) (h2 : Ag cs M1 M2) : Ag cs M M2 := fun b k q => (h2 b k q).trans (h b k q)
theorem Ag.sy {cs : List (Nat × Nat × Nat)} {M M1 : Mm} (h : Ag cs M M1) : Ag cs M1 M := fun b k q => (h b k q).symm
theorem Ag.su {cs ds : List (Nat × Nat × Nat)} {M M1 : Mm} (h : Ag cs M M1) (hs : (ds.all fun q => cs.any fun r => frle q r) = true) : Ag ds M M1 := by
  intro b k q
  apply h b k
  obtain ⟨c, hc, h2⟩ := List.any_eq_true.mp q
  obtain ⟨r, hr, h3⟩ := List.any_eq_true.mp (List.all_eq_true.mp hs c hc)
  refine List.any_eq_true.mpr ⟨r, hr, ?_⟩
  unfold frle at h3
  simp only [Bool.and_eq_true, Bool.or_eq_true, beq_iff_eq, Nat.ble_eq] at h2 h3 ⊢
  omega
theorem CS.ag {M M' : Mm} {a lo hi : Nat} {r : Rw} (h : CS M a r) (f : Ag [(lo, hi, 0)] M M') (h1 : lo ≤ a) (h2 : a + 9 ≤ hi) : CS M' a r :=
  h.cg fun b k q1 q2 => f b k (by simp [inT]; omega)
theorem MS.ag {M M' : Mm} {c off : Nat} {r : Rw} (h : MS M c off r) (f : Ag [(c, c, 0)] M M') : MS M' c off r :=
  fun k hk => (f c _ (by simp [inT])).trans (h k hk)
def PR (M N : Mm) (r : Rw) : Prop := V r ∧ CS M 15 r ∧ MS N 135 0 r
def UND (M N : Mm) : Prop := ∃ cnt nx : Nat, cnt ≤ 8 ∧ nx < 8 ∧ M 0 11 = oN nx ∧ M 0 12 = oN cnt ∧ N 134 6 = oN cnt ∧ ∀ j, j < cnt → ∃ r, V r ∧ CS M (34 + 10 * ((nx + 8 - cnt + j) % 8)) r ∧ MS N 137 (284 * j) r
def SAV (M N : Mm) : Prop := ∀ s, s < 2 → isZ (M 33 s) ∧ N 140 s = M 33 s ∧ (M 33 s ≠ 0 → ∃ r, V r ∧ CS M (114 + 10 * s) r ∧ MS N 138 (284 * s) r)
/-- a byte of the text in both -/
def byt (x y : Int32) : Prop := ∃ c : Nat, c ≤ 255 ∧ y = oN c ∧ x = (oN c).toInt8.toInt32
def TX (M N : Mm) : Prop := ∃ len : Nat, len ≤ 900 ∧ M 0 2 = oN len ∧ N 134 14 = oN len ∧ ∀ k, k < len → byt (M 3 k) (N 141 k)
def OU (M N : Mm) : Prop := ∃ len : Nat, len ≤ 512 ∧ M 0 6 = oN len ∧ N 134 15 = oN len ∧ ∀ k, k < len → M 14 k = N 142 k
def ER (M N : Mm) : Prop := M 0 3 = N 134 16 ∧ M 0 4 = N 134 17
def Z0 (M : Mm) : Prop := M 26 0 = 0 ∧ M 27 0 = 0 ∧ M 28 0 = 0
def CO (N : Mm) : Prop := ∀ k, N 146 k = cosL.getD k 0
def DZ (M : Mm) : Prop := ∀ i, i < 20 → isZ (M 7 i)
def RI (M N : Mm) : Prop := (∃ r, PR M N r) ∧ UND M N ∧ SAV M N ∧ TX M N ∧ OU M N ∧ ER M N ∧ Z0 M ∧ CO N ∧ DZ M
section RIS
variable {M M' N N' : Mm} {r : Rw}
theorem PR.ag (h : PR M N r) (f : Ag [(15, 24, 0)] M M') (g : Ag [(135, 135, 0)] N N') : PR M' N' r := ⟨h.1, h.2.1.ag f (by decide) (by decide), h.2.2.ag g⟩
theorem UND.ag (h : UND M N) (f : Ag [(0, 0, 12), (0, 0, 13), (34, 113, 0)] M M') (g : Ag [(134, 134, 7), (137, 137, 0)] N N') : UND M' N' := by
  obtain ⟨cnt, nx, h1, h2, h3, h4, h5, h6⟩ := h
  refine ⟨cnt, nx, h1, h2, (f _ _ (by rfl)).trans h3, (f _ _ (by rfl)).trans h4, (g _ _ (by rfl)).trans h5, fun j hj => ?_⟩
  obtain ⟨r, v, c, m⟩ := h6 j hj
  exact ⟨r, v, c.ag (f.su (ds := [(34, 113, 0)]) (by rfl)) (by omega) (by omega), m.ag (g.su (by rfl))⟩
theorem SAV.ag (h : SAV M N) (f : Ag [(33, 33, 0), (114, 133, 0)] M M') (g : Ag [(138, 138, 0), (140, 140, 0)] N N') : SAV M' N' := by
  intro s hs
  obtain ⟨h1, h2, h3⟩ := h s hs
  rw [f 33 s (by rfl), g 140 s (by rfl)]
  refine ⟨h1, h2, fun q => ?_⟩
  obtain ⟨r, v, c, m⟩ := h3 q
  exact ⟨r, v, c.ag (f.su (ds := [(114, 133, 0)]) (by rfl)) (by omega) (by omega), m.ag (g.su (by rfl))⟩
theorem TX.ag (h : TX M N) (f : Ag [(0, 0, 3), (3, 3, 0)] M M') (g : Ag [(134, 134, 15), (141, 141, 0)] N N') : TX M' N' := by
  obtain ⟨len, h1, h2, h3, h4⟩ := h
  refine ⟨len, h1, (f _ _ (by rfl)).trans h2, (g _ _ (by rfl)).trans h3, fun k hk => ?_⟩
  rw [f 3 k (by rfl), g 141 k (by rfl)]; exact h4 k hk
theorem OU.ag (h : OU M N) (f : Ag [(0, 0, 7), (14, 14, 0)] M M') (g : Ag [(134, 134, 16), (142, 142, 0)] N N') : OU M' N' := by
  obtain ⟨len, h1, h2, h3, h4⟩ := h
  refine ⟨len, h1, (f _ _ (by rfl)).trans h2, (g _ _ (by rfl)).trans h3, fun k hk => ?_⟩
  rw [f 14 k (by rfl), g 142 k (by rfl)]; exact h4 k hk
theorem ER.ag (h : ER M N) (f : Ag [(0, 0, 4), (0, 0, 5)] M M') (g : Ag [(134, 134, 17), (134, 134, 18)] N N') : ER M' N' := by
  unfold ER at *
  rw [f 0 3 (by rfl), f 0 4 (by rfl), g 134 16 (by rfl), g 134 17 (by rfl)]; exact h
theorem Z0.ag (h : Z0 M) (f : Ag [(26, 28, 1)] M M') : Z0 M' := by
  unfold Z0 at *
  rw [f 26 0 (by rfl), f 27 0 (by rfl), f 28 0 (by rfl)]; exact h
theorem CO.ag (h : CO N) (g : Ag [(146, 146, 0)] N N') : CO N' := fun k => (g 146 k (by rfl)).trans (h k)
theorem DZ.ag (h : DZ M) (f : Ag [(7, 7, 0)] M M') : DZ M' := fun i hi => by rw [f 7 i (by rfl)]; exact h i hi
def cC : List (Nat × Nat × Nat) := [(15, 24, 0), (0, 0, 12), (0, 0, 13), (34, 113, 0), (33, 33, 0), (114, 133, 0), (0, 0, 3), (3, 3, 0), (0, 0, 7), (14, 14, 0), (0, 0, 4), (0, 0, 5), (7, 7, 0)]
def cM : List (Nat × Nat × Nat) := [(135, 135, 0), (134, 134, 7), (137, 137, 0), (138, 138, 0), (140, 140, 0), (134, 134, 15), (141, 141, 0), (134, 134, 16), (142, 142, 0), (134, 134, 17), (134, 134, 18), (146, 146, 0)]
theorem RI.ag (h : RI M N) (f : Ag cC M M') (z : Z0 M') (g : Ag cM N N') : RI M' N' := by
  obtain ⟨⟨r, p⟩, u, s, t, o, e, _, c, d⟩ := h
  exact ⟨⟨r, p.ag (f.su (by rfl)) (g.su (by rfl))⟩, u.ag (f.su (by rfl)) (g.su (by rfl)), s.ag (f.su (by rfl)) (g.su (by rfl)), t.ag (f.su (by rfl)) (g.su (by rfl)), o.ag (f.su (by rfl)) (g.su (by rfl)), e.ag (f.su (by rfl)) (g.su (by rfl)), z, c.ag (g.su (by rfl)), d.ag (f.su (by rfl))⟩
theorem RI.z (h : RI M N) : Z0 M := h.2.2.2.2.2.2.1
theorem RI.co (h : RI M N) : CO N := h.2.2.2.2.2.2.2.1
theorem RI.agN (h : RI M N) (g : Ag cM N N') : RI M N' := h.ag (Ag.rf _ _) h.z g
theorem RI.agM (h : RI M N) (f : Ag cC M M') (z : Z0 M') : RI M' N := h.ag f z (Ag.rf _ _)
theorem RI.frN {l : List (Nat × Nat × Nat)} (h : RI M N) (g : Fr l N N') (e : dis l cM = true) : RI M N' := h.agN (Ag.of g e)
theorem RI.frM {l : List (Nat × Nat × Nat)} (h : RI M N) (g : Fr l M M') (e : dis l cC = true) (z : Z0 M') : RI M' N := h.agM (Ag.of g e) z
theorem RI.n7 (h : RI M N) (x : Int32) : RI M (wr N 134 7 x) := h.frN (l := [(134, 134, 8)]) (fr_wr rfl (by rfl)) (by rfl)
end RIS
/-! small functions -/
theorem c_between (x a b : Int32) : f_C_isBetween x a b = some (if a ≤ x ∧ x ≤ b then 1 else 0) := by
  unfold f_C_isBetween f_C_isBetween_14 f_C_isBetween_15
  by_cases h1 : x < a
  · rw [if_pos h1, chk_t (by decide), if_neg (fun q => i_nl.mpr q.1 h1)]
  · rw [if_neg h1]
    by_cases h2 : b < x
    · rw [if_pos h2, chk_t (by decide), if_neg (fun q => i_nl.mpr q.2 h2)]
    · rw [if_neg h2, chk_t (by decide), if_pos ⟨i_nl.mp h1, i_nl.mp h2⟩]
theorem m_isIn (x a b : Int32) : f_M_isIn x a b = some (if a ≤ x ∧ x ≤ b then 1 else 0) := by
  unfold f_M_isIn f_M_isIn_14 f_M_isIn_15
  by_cases h1 : x < a
  · rw [if_pos h1, chk_t (by decide), if_neg (fun q => i_nl.mpr q.1 h1)]
  · rw [if_neg h1]
    by_cases h2 : b < x
    · rw [if_pos h2, chk_t (by decide), if_neg (fun q => i_nl.mpr q.2 h2)]
    · rw [if_neg h2, chk_t (by decide), if_pos ⟨i_nl.mp h1, i_nl.mp h2⟩]
theorem m_fails (a b c : Int32) (N : Mm) : f_M_fails a b c N = some (if a = 0 ∧ b = 0 ∧ c = 0 then 0 else 1, wr N 134 7 (if a = 0 then if b = 0 then if c = 0 then 0 else 3 else 2 else 1)) := by
  unfold f_M_fails f_M_fails_26 f_M_fails_41
  by_cases h1 : a = 0
  · by_cases h2 : b = 0
    · by_cases h3 : c = 0
      · simp [h1, h2, h3, bm_s, wr_s, chk]
      · simp [h1, h2, h3, bm_s, wr_s, chk]
    · simp [h1, h2, bm_s, wr_s, chk]
  · simp [h1, bm_s, wr_s, chk]
theorem m_told (x : Int32) (N : Mm) : f_M_told x N = some (x, wr N 134 7 0) := rfl
/-- the numbers from 0 -/
theorem in_n {l : Int32} {n : Nat} (hn : n ≤ 1000) : (0 ≤ l ∧ l ≤ oN n) ↔ ∃ i, i ≤ n ∧ l = oN i := by
  constructor
  · rintro ⟨h1, h2⟩
    obtain ⟨i, hi, rfl⟩ := oN_ex h1
    exact ⟨i, (oN_le hi (by omega)).mp h2, rfl⟩
  · rintro ⟨i, hi, rfl⟩
    exact ⟨oN_ge0 (by omega), (oN_le (by omega) (by omega)).mpr hi⟩
theorem oN_P {n : Nat} (h : n ≠ 0) : oN n - 1 = oN (n - 1) := by
  rw [oN, oN, Int32.ofNat_sub _ _ (by omega)]; rfl
theorem in_p {l : Int32} {n : Nat} (hn : n ≤ 1000) : (0 ≤ l ∧ l ≤ oN n - 1) ↔ ∃ i, i < n ∧ l = oN i := by
  by_cases h0 : n = 0
  · subst h0
    constructor
    · rintro ⟨h1, h2⟩
      have h3 : l ≤ -1 := h2
      have := Int32.le_iff_toInt_le.mp (Int32.le_trans h1 h3)
      exact absurd this (by decide)
    · rintro ⟨i, hi, -⟩; omega
  · rw [oN_P h0, in_n (by omega)]
    exact ⟨fun ⟨i, hi, e⟩ => ⟨i, by omega, e⟩, fun ⟨i, hi, e⟩ => ⟨i, by omega, e⟩⟩
/-- the answers of both are the same: a number, or one of two exceptions -/
def An (e1 e2 : Nat) (o : Nat ⊕ Int32) (v t : Int32) : Prop := match o with
  | .inr x => v = x ∧ t = 0
  | .inl e => (e = e1 ∧ t = 1) ∨ (e2 ≠ 9 ∧ e = e2 ∧ t = 2)
theorem c_leg {M : Mm} {r : Rw} (v : V r) (h : CS M 15 r) (l : Int32) : (∃ i, i < r 0 ∧ l = oN i ∧ f_C_requireLeg M l = some (.inr ())) ∨ ((¬ ∃ i, i < r 0 ∧ l = oN i) ∧ f_C_requireLeg M l = some (.inl 3)) := by
  have hv := v.1
  unfold f_C_requireLeg
  rw [h.1, c_between, bn_s]
  by_cases c : 0 ≤ l ∧ l ≤ oN (r 0) - 1
  · rw [if_pos c, if_neg (by decide)]
    obtain ⟨i, hi, e⟩ := (in_p (by omega)).mp c
    exact Or.inl ⟨i, hi, e, rfl⟩
  · rw [if_neg c, if_pos rfl]
    exact Or.inr ⟨fun q => c ((in_p (by omega)).mpr q), rfl⟩
theorem m_noLeg {N : Mm} {r : Rw} (v : V r) (h : MS N 135 0 r) (l : Int32) : f_M_noLeg N l = some (if (0 ≤ l ∧ l ≤ oN (r 0) - 1) then 0 else 1) := by
  unfold f_M_noLeg f_M_noLeg_21
  rw [show ix (0 : Int32) = 0 from rfl, m_at h (by decide), m_isIn, bn_s]
  by_cases c : 0 ≤ l ∧ l ≤ oN (r 0) - 1
  · rw [if_pos c, if_neg (by decide), chk_t (by decide), if_pos c]
  · rw [if_neg c, if_pos rfl, chk_t (by decide), if_neg c]
theorem m_noLeg_y {N : Mm} {r : Rw} {l : Int32} (v : V r) (h : MS N 135 0 r) (c : ∃ i, i < r 0 ∧ l = oN i) : f_M_noLeg N l = some 0 := by
  rw [m_noLeg v h, if_pos ((in_p (by have := v.1; omega)).mpr c)]
theorem m_noLeg_n {N : Mm} {r : Rw} {l : Int32} (v : V r) (h : MS N 135 0 r) (c : ¬ ∃ i, i < r 0 ∧ l = oN i) : f_M_noLeg N l = some 1 := by
  rw [m_noLeg v h, if_neg (fun q => c ((in_p (by have := v.1; omega)).mp q))]
theorem m_bad_y {N : Mm} {r : Rw} {l : Int32} (v : V r) (h : MS N 135 0 r) (c : ∃ i, i < r 0 ∧ l = oN i) : f_M_isBad l N = some (0, wr N 134 7 0) := by
  unfold f_M_isBad
  rw [m_noLeg_y v h c, bn_s, m_fails, bn2_s]; rfl
theorem m_bad_n {N : Mm} {r : Rw} {l : Int32} (v : V r) (h : MS N 135 0 r) (c : ¬ ∃ i, i < r 0 ∧ l = oN i) : f_M_isBad l N = some (1, wr N 134 7 1) := by
  unfold f_M_isBad
  rw [m_noLeg_n v h c, bn_s, m_fails, bn2_s]; rfl
theorem MS.n7 {N : Mm} {r : Rw} {off c : Nat} (h : MS N c off r) (hc : c ≠ 134) (x : Int32) : MS (wr N 134 7 x) c off r := fun k hk => by rw [wr_n (by omega)]; exact h k hk
theorem CO.n7 {N : Mm} (h : CO N) (x : Int32) : CO (wr N 134 7 x) := fun k => by rw [wr_n (by omega)]; exact h k
