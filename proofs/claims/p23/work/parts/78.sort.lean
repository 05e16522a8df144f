/-! a machine sorts: both sides as one row of writes -/
def rjK (X : Sg) (b l h bad : Nat) : Sg := u2 (u2 (u2 (u2 (u2 X 10 l (if bad ≠ 0 ∧ h = 0 then nI b else X 10 l)) 0 4 (if bad ≠ 0 ∧ h = 0 then nI (l + 1) else nI l)) (11 + b) 5 (nI (h + bad))) 0 2 (X 0 2 + nI bad)) (11 + b) 9 (if bad = 0 then X (11 + b) 9 else if X (11 + b) 9 = 0 then 3 else X (11 + b) 9)
def SO (D : Sg) (m b l x w h y many bad : Nat) : Sg := u2 (u2 (u2 (u2 (u2 (u2 (u2 (u2 (u2 (u2 D (3 + m) 3 (nI (x + many))) (11 + b) 4 (nI (w - many))) (11 + b) 6 (nI (y + many - bad))) 10 l (if bad ≠ 0 ∧ h = 0 then nI b else D 10 l)) 0 4 (if bad ≠ 0 ∧ h = 0 then nI (l + 1) else nI l)) (11 + b) 5 (nI (h + bad))) 0 2 (D 0 2 + nI bad)) (11 + b) 9 (if bad = 0 then D (11 + b) 9 else if D (11 + b) 9 = 0 then 3 else D (11 + b) 9)) (3 + m) 0 (if w - many = 0 then -6 else D (3 + m) 0)) (11 + b) 10 (if w - many = 0 ∧ h + bad = 0 then D 0 0 else D (11 + b) 10)
def KO (s : Sg) (m b l x w h y many bad : Nat) : Sg := u2 (u2 (u2 (u2 (u2 (u2 (u2 (u2 (u2 (u2 (u2 s (3 + m) 3 (nI (x + many))) 0 5 (s 0 5 + nI many)) 0 2 (s 0 2 + nI bad)) 10 l (if bad ≠ 0 ∧ h = 0 then nI b else s 10 l)) 0 4 (if bad ≠ 0 ∧ h = 0 then nI (l + 1) else nI l)) (11 + b) 4 (nI (w - many))) (11 + b) 5 (nI (h + bad))) (11 + b) 6 (nI (y + many - bad))) (11 + b) 9 (if bad = 0 then s (11 + b) 9 else if s (11 + b) 9 = 0 then 3 else s (11 + b) 9)) (11 + b) 10 (if w - many = 0 ∧ h + bad = 0 then s 0 0 else s (11 + b) 10)) (3 + m) 0 (if w - many = 0 then -6 else s (3 + m) 0)
section SO
variable {D s X : Sg} {n m b l x w h y many bad : Nat}
theorem z_e {k : Nat} (hk : k < 100000) : (nI k = 0) = (k = 0) := nI_eq_iff (b := 0) hk (by omega)
theorem z_l {k : Nat} (hk : k < 100000) : (nI k ≤ 0) = (k = 0) := by
  rw [show (0 : Int32) = nI 0 from rfl, nI_le_iff hk (by omega)]
  exact propext ⟨fun q => by omega, fun q => by omega⟩
theorem u2_v {g k : Nat} {v : Int32} (e : s g k = v) : u2 s g k v = s := by rw [← e, u2_id]
theorem rj_nf (hX5 : X (11 + b) 5 = nI h) (hXl : X 0 4 = nI l) (hh : h < 10000) (hb : bad < 10000) : rjF X b l (nI bad) = rjK X b l h bad := by
  unfold rjF rjK
  by_cases c1 : bad = 0
  · subst c1
    rw [if_pos (by decide), if_neg (by omega), if_neg (by omega), if_pos rfl, u2_id, u2_v hXl, Nat.add_zero, u2_v hX5, show nI 0 = 0 from rfl, Int32.add_zero, u2_id, u2_id]
  · rw [if_neg (fun q => c1 ((z_l (by omega)).mp q)), if_neg c1]
    dsimp only
    by_cases c2 : h = 0
    · rw [hX5, if_pos ((z_e (by omega)).mpr c2), if_pos ⟨c1, c2⟩, if_pos ⟨c1, c2⟩, dl_u]
      simp (disch := omega) only [u2_ne, u2_s, hX5, hXl, nI_add, nI_1]
    · rw [hX5, if_neg (fun q => c2 ((z_e (by omega)).mp q)), if_neg (fun q => c2 q.2), if_neg (fun q => c2 q.2), u2_id, u2_v hXl, dl_u]
      simp (disch := omega) only [u2_ne, u2_s, hX5, nI_add]
theorem ed_nf {Y : Sg} {w' h' : Nat} (h4 : Y (11 + b) 4 = nI w') (h5 : Y (11 + b) 5 = nI h') (hw : w' < 10000) (hh : h' < 10000) (hm : m < 3) : (if Y (11 + b) 4 = 0 then edF (u2 Y (3 + m) 0 (-6)) b else Y) = u2 (u2 Y (3 + m) 0 (if w' = 0 then -6 else Y (3 + m) 0)) (11 + b) 10 (if w' = 0 ∧ h' = 0 then Y 0 0 else Y (11 + b) 10) := by
  by_cases c1 : w' = 0
  · rw [if_pos (by rw [h4]; exact (z_e (by omega)).mpr c1), if_pos c1]
    unfold edF
    rw [u2_ne (by omega), u2_ne (by omega), u2_ne (by omega), h4, if_pos ((z_e (by omega)).mpr c1), h5]
    by_cases c2 : h' = 0
    · rw [if_pos ((z_e (by omega)).mpr c2), if_pos ⟨c1, c2⟩]
    · rw [if_neg (fun q => c2 ((z_e (by omega)).mp q)), if_neg (fun q => c2 q.2)]
      exact (u2_v (u2_ne (by omega))).symm
  · rw [if_neg (by rw [h4]; exact fun q => c1 ((z_e (by omega)).mp q)), if_neg c1, if_neg (fun q => c1 q.1), u2_id, u2_id]
theorem so_nf (hm : m < 3) (h4 : D (11 + b) 4 = nI w) (h5 : D (11 + b) 5 = nI h) (h6 : D (11 + b) 6 = nI y) (hx : D (3 + m) 3 = nI x) (hl : D 0 4 = nI l)
    (hmany : (if D (11 + b) 4 ≤ D 1 (6 + m) then D (11 + b) 4 else D 1 (6 + m)) = nI many)
    (hbad : (if nI many ≤ (D 3 3 + D 4 3 + D 5 3 + nI many) * D 1 1 / 1000 - (D 3 3 + D 4 3 + D 5 3) * D 1 1 / 1000 then nI many else (D 3 3 + D 4 3 + D 5 3 + nI many) * D 1 1 / 1000 - (D 3 3 + D 4 3 + D 5 3) * D 1 1 / 1000) = nI bad)
    (k1 : many ≤ w) (k2 : bad ≤ many) (k3 : w < 1000) (k4 : h < 1000) : soF D m b l = SO D m b l x w h y many bad := by
  unfold soF
  dsimp only
  rw [hmany, hbad, hx, nI_add, u2_ne (s := D) (show ¬ (11 + b = 3 + m ∧ 4 = 3) by omega), h4, pk_sub k1]
  have e6 : u2 (u2 D (3 + m) 3 (nI (x + many))) (11 + b) 4 (nI (w - many)) (11 + b) 6 + nI many - nI bad = nI (y + many - bad) := by
    rw [u2_ne (by omega), u2_ne (by omega), h6, nI_add, pk_sub (by omega)]
  rw [e6, rj_nf (h := h) (by simp (disch := omega) only [u2_ne, h5]) (by simp (disch := omega) only [u2_ne, hl]) (by omega) (by omega)]
  unfold rjK
  rw [ed_nf (w' := w - many) (h' := h + bad) (by simp (disch := omega) only [u2_ne, u2_s]) (by simp (disch := omega) only [u2_ne, u2_s]) (by omega) (by omega) hm]
  unfold SO
  simp (disch := omega) only [u2_ne]
theorem cl_nf {t : Int32} (h4 : X (11 + b) 4 = nI w) (h5 : X (11 + b) 5 = nI h) (h6 : X (11 + b) 6 = nI y) (k1 : many ≤ w) (k2 : bad ≤ many) (k3 : w < 1000) (k4 : h < 1000) : clM X b (nI many) (nI bad) t = u2 (u2 (u2 (u2 (u2 X (11 + b) 4 (nI (w - many))) (11 + b) 5 (nI (h + bad))) (11 + b) 6 (nI (y + many - bad))) (11 + b) 9 (if bad = 0 then X (11 + b) 9 else if X (11 + b) 9 = 0 then 3 else X (11 + b) 9)) (11 + b) 10 (if w - many = 0 ∧ h + bad = 0 then t else X (11 + b) 10) := by
  unfold clM
  dsimp only
  rw [h4, pk_sub k1, u2_ne (s := X) (show ¬ (11 + b = 11 + b ∧ 5 = 4) by omega), h5, nI_add]
  have e6 : u2 (u2 X (11 + b) 4 (nI (w - many))) (11 + b) 5 (nI (h + bad)) (11 + b) 6 + (nI many - nI bad) = nI (y + many - bad) := by
    rw [u2_ne (by omega), u2_ne (by omega), h6, pk_sub k2, nI_add, show y + (many - bad) = y + many - bad by omega]
  rw [e6]
  have e9 : ∀ Z : Sg, Z (11 + b) 9 = X (11 + b) 9 → (if nI bad ≤ 0 then Z else dlF Z b 3) = u2 Z (11 + b) 9 (if bad = 0 then X (11 + b) 9 else if X (11 + b) 9 = 0 then 3 else X (11 + b) 9) := fun Z hZ => by
    by_cases c1 : bad = 0
    · rw [if_pos ((z_l (by omega)).mpr c1), if_pos c1, u2_v hZ]
    · rw [if_neg (fun q => c1 ((z_l (by omega)).mp q)), if_neg c1, dl_u, hZ]
  rw [e9 _ (by simp (disch := omega) only [u2_ne])]
  simp (disch := omega) only [u2_ne, u2_s, z_e]
  split
  · rfl
  · exact (u2_v (by simp (disch := omega) only [u2_ne])).symm
theorem ko_nf (hm : m < 3) (h0 : s (3 + m) 0 = nI b) (h4 : s (11 + b) 4 = nI w) (h5 : s (11 + b) 5 = nI h) (h6 : s (11 + b) 6 = nI y) (hx : s (3 + m) 3 = nI x) (hl : s 0 4 = nI l)
    (hbad : sbR s (nI many) = nI bad) (k1 : many ≤ w) (k2 : bad ≤ many) (k3 : w < 1000) (k4 : h < 1000) : sbF s m b (nI many) l = KO s m b l x w h y many bad := by
  unfold sbF
  dsimp only
  rw [hbad, hx, nI_add]
  have e9 : ∀ Z : Sg, Z (11 + b) 5 = nI h → Z (3 + m) 0 = nI b → Z 0 4 = nI l → (if nI bad ≤ 0 then Z else if Z (11 + b) 5 = 0 then u2 (u2 Z 10 l (Z (3 + m) 0)) 0 4 (nI (l + 1)) else Z) = u2 (u2 Z 10 l (if bad ≠ 0 ∧ h = 0 then nI b else Z 10 l)) 0 4 (if bad ≠ 0 ∧ h = 0 then nI (l + 1) else nI l) := fun Z hZ hZ0 hZl => by
    by_cases c1 : bad = 0
    · rw [if_pos ((z_l (by omega)).mpr c1), if_neg (fun q => q.1 c1), if_neg (fun q => q.1 c1), u2_id, u2_v hZl]
    · rw [if_neg (fun q => c1 ((z_l (by omega)).mp q))]
      by_cases c2 : h = 0
      · rw [if_pos (by rw [hZ]; exact (z_e (by omega)).mpr c2), if_pos ⟨c1, c2⟩, if_pos ⟨c1, c2⟩, hZ0]
      · rw [if_neg (by rw [hZ]; exact fun q => c2 ((z_e (by omega)).mp q)), if_neg (fun q => c2 q.2), if_neg (fun q => c2 q.2), u2_id, u2_v hZl]
  rw [e9 _ (by simp (disch := omega) only [u2_ne, h5]) (by simp (disch := omega) only [u2_ne, h0]) (by simp (disch := omega) only [u2_ne, hl])]
  rw [cl_nf (w := w) (h := h) (y := y) (by simp (disch := omega) only [u2_ne, h4]) (by simp (disch := omega) only [u2_ne, h5]) (by simp (disch := omega) only [u2_ne, h6]) k1 k2 k3 k4]
  unfold KO
  simp (disch := omega) only [u2_ne, u2_s, z_e]
  split
  · rfl
  · exact (u2_v (by simp (disch := omega) only [u2_ne])).symm
theorem ko_so (hm : m < 3) : sG n (KO s m b l x w h y many bad) (SO s m b l x w h y many bad) := by
  intro g k hg hk _
  unfold KO SO
  by_cases pw0 : g = 3 + m ∧ k = 3
  · simp only [u2_at, if_pos pw0, if_neg (show ¬ (g = 0 ∧ k = 2) by omega), if_neg (show ¬ (g = 10 ∧ k = l) by omega), if_neg (show ¬ (g = 0 ∧ k = 4) by omega), if_neg (show ¬ (g = 11 + b ∧ k = 4) by omega), if_neg (show ¬ (g = 11 + b ∧ k = 5) by omega), if_neg (show ¬ (g = 11 + b ∧ k = 6) by omega), if_neg (show ¬ (g = 11 + b ∧ k = 9) by omega), if_neg (show ¬ (g = 11 + b ∧ k = 10) by omega), if_neg (show ¬ (g = 3 + m ∧ k = 0) by omega), if_neg (show ¬ (g = 0 ∧ k = 5) by omega)]
  by_cases pw1 : g = 0 ∧ k = 2
  · simp only [u2_at, if_pos pw1, if_neg pw0, if_neg (show ¬ (g = 10 ∧ k = l) by omega), if_neg (show ¬ (g = 0 ∧ k = 4) by omega), if_neg (show ¬ (g = 11 + b ∧ k = 4) by omega), if_neg (show ¬ (g = 11 + b ∧ k = 5) by omega), if_neg (show ¬ (g = 11 + b ∧ k = 6) by omega), if_neg (show ¬ (g = 11 + b ∧ k = 9) by omega), if_neg (show ¬ (g = 11 + b ∧ k = 10) by omega), if_neg (show ¬ (g = 3 + m ∧ k = 0) by omega), if_neg (show ¬ (g = 0 ∧ k = 5) by omega)]
  by_cases pw2 : g = 10 ∧ k = l
  · simp only [u2_at, if_pos pw2, if_neg pw0, if_neg pw1, if_neg (show ¬ (g = 0 ∧ k = 4) by omega), if_neg (show ¬ (g = 11 + b ∧ k = 4) by omega), if_neg (show ¬ (g = 11 + b ∧ k = 5) by omega), if_neg (show ¬ (g = 11 + b ∧ k = 6) by omega), if_neg (show ¬ (g = 11 + b ∧ k = 9) by omega), if_neg (show ¬ (g = 11 + b ∧ k = 10) by omega), if_neg (show ¬ (g = 3 + m ∧ k = 0) by omega), if_neg (show ¬ (g = 0 ∧ k = 5) by omega)]
  by_cases pw3 : g = 0 ∧ k = 4
  · simp only [u2_at, if_pos pw3, if_neg pw0, if_neg pw1, if_neg pw2, if_neg (show ¬ (g = 11 + b ∧ k = 4) by omega), if_neg (show ¬ (g = 11 + b ∧ k = 5) by omega), if_neg (show ¬ (g = 11 + b ∧ k = 6) by omega), if_neg (show ¬ (g = 11 + b ∧ k = 9) by omega), if_neg (show ¬ (g = 11 + b ∧ k = 10) by omega), if_neg (show ¬ (g = 3 + m ∧ k = 0) by omega), if_neg (show ¬ (g = 0 ∧ k = 5) by omega)]
  by_cases pw4 : g = 11 + b ∧ k = 4
  · simp only [u2_at, if_pos pw4, if_neg pw0, if_neg pw1, if_neg pw2, if_neg pw3, if_neg (show ¬ (g = 11 + b ∧ k = 5) by omega), if_neg (show ¬ (g = 11 + b ∧ k = 6) by omega), if_neg (show ¬ (g = 11 + b ∧ k = 9) by omega), if_neg (show ¬ (g = 11 + b ∧ k = 10) by omega), if_neg (show ¬ (g = 3 + m ∧ k = 0) by omega), if_neg (show ¬ (g = 0 ∧ k = 5) by omega)]
  by_cases pw5 : g = 11 + b ∧ k = 5
  · simp only [u2_at, if_pos pw5, if_neg pw0, if_neg pw1, if_neg pw2, if_neg pw3, if_neg pw4, if_neg (show ¬ (g = 11 + b ∧ k = 6) by omega), if_neg (show ¬ (g = 11 + b ∧ k = 9) by omega), if_neg (show ¬ (g = 11 + b ∧ k = 10) by omega), if_neg (show ¬ (g = 3 + m ∧ k = 0) by omega), if_neg (show ¬ (g = 0 ∧ k = 5) by omega)]
  by_cases pw6 : g = 11 + b ∧ k = 6
  · simp only [u2_at, if_pos pw6, if_neg pw0, if_neg pw1, if_neg pw2, if_neg pw3, if_neg pw4, if_neg pw5, if_neg (show ¬ (g = 11 + b ∧ k = 9) by omega), if_neg (show ¬ (g = 11 + b ∧ k = 10) by omega), if_neg (show ¬ (g = 3 + m ∧ k = 0) by omega), if_neg (show ¬ (g = 0 ∧ k = 5) by omega)]
  by_cases pw7 : g = 11 + b ∧ k = 9
  · simp only [u2_at, if_pos pw7, if_neg pw0, if_neg pw1, if_neg pw2, if_neg pw3, if_neg pw4, if_neg pw5, if_neg pw6, if_neg (show ¬ (g = 11 + b ∧ k = 10) by omega), if_neg (show ¬ (g = 3 + m ∧ k = 0) by omega), if_neg (show ¬ (g = 0 ∧ k = 5) by omega)]
  by_cases pw8 : g = 11 + b ∧ k = 10
  · simp only [u2_at, if_pos pw8, if_neg pw0, if_neg pw1, if_neg pw2, if_neg pw3, if_neg pw4, if_neg pw5, if_neg pw6, if_neg pw7, if_neg (show ¬ (g = 3 + m ∧ k = 0) by omega), if_neg (show ¬ (g = 0 ∧ k = 5) by omega)]
  by_cases pw9 : g = 3 + m ∧ k = 0
  · simp only [u2_at, if_pos pw9, if_neg pw0, if_neg pw1, if_neg pw2, if_neg pw3, if_neg pw4, if_neg pw5, if_neg pw6, if_neg pw7, if_neg pw8, if_neg (show ¬ (g = 0 ∧ k = 5) by omega)]
  by_cases pw10 : g = 0 ∧ k = 5
  · simp only [u2_at, if_pos pw10, if_neg pw0, if_neg pw1, if_neg pw2, if_neg pw3, if_neg pw4, if_neg pw5, if_neg pw6, if_neg pw7, if_neg pw8, if_neg pw9]
    exact absurd (hk pw10.1).2 (by omega)
  simp only [u2_at, if_neg pw0, if_neg pw1, if_neg pw2, if_neg pw3, if_neg pw4, if_neg pw5, if_neg pw6, if_neg pw7, if_neg pw8, if_neg pw9, if_neg pw10]
theorem ko_j : KO s m b l x w h y many bad 0 3 = s 0 3 ∧ KO s m b l x w h y many bad 0 5 = s 0 5 + nI many ∧ KO s m b l x w h y many bad 0 6 = s 0 6 := by
  unfold KO
  refine ⟨?_, ?_, ?_⟩ <;> simp (disch := omega) only [u2_ne, u2_s]
end SO
