/-! what is taken, begins -/
def LBR (pr : T_Pg) (c : T_Mc) : Prop := ∃ nc, Pg_nameCount pr = NN nc ∧ M_number c 9 = NN nc ∧ nc ≤ 140 ∧ ∀ k, k < nc → Pg_names pr k = M_labelName c k ∧ ∃ a, a ≤ 40 ∧ Pg_namedPlaces pr k = NN a ∧ M_labelAt c k = NN a
def LW (pr : T_Pg) (c : T_Mc) : Prop := LBR pr c ∧ (∃ sz, (Pg_size pr = NN sz ∧ M_number c 8 = NN sz ∧ sz ≤ 40) ∧ (∀ p, sz ≤ p → p < 64 → Pg_code pr p = NN 0) ∧
  (∀ p, p < sz → ∃ f a b d, IN f a b d ∧ Pg_code pr p = NN f ∧ Pg_first pr p = NN a ∧ Pg_second pr p = NN b ∧ Pg_third pr p = NN d ∧ M_codeSort c p = NN (if f = 0 then 24 else f + 6) ∧ M_codeA c p = NN a ∧ M_codeB c p = NN b ∧ (f < 14 → M_codeC c p = NN d) ∧ (14 ≤ f → M_codeTo c p = NN d))) ∧
  (∀ k, k < 8 → ∃ r, bdR k r ∧ Pg_rules pr k = NN r ∧ M_number c k = NN r) ∧ (∀ a, a < 32 → Pg_data pr a = M_data c a)
theorem LW_take {pr : T_Pg} {m : T_M} {c : T_Mc} (h : TXT pr m) (g : TKN (M_cd m) c) : LW pr c := by
  obtain ⟨sz, nc, ln, h1, h2, h3, h4, h5, h6, h7, h8, -⟩ := h
  obtain ⟨g1, g2, g3, g4⟩ := g
  refine ⟨⟨nc, h2.1, (g1 9 (by omega)).trans h2.2.1, h2.2.2, fun k hk => ?_⟩, ⟨sz, ⟨h1.1, (g1 8 (by omega)).trans h1.2.1, h1.2.2⟩, h7, fun p hp => ?_⟩, fun k hk => ?_, fun a ha => (h5 a ha).trans (g4 a ha).symm⟩
  · have hnc := h2.2.2
    obtain ⟨u1, a, u2, u3, u4⟩ := h6 k hk
    exact ⟨u1.trans (g3 k (by omega)).1.symm, a, u2, u3, (g3 k (by omega)).2.trans u4⟩
  · have hsz := h1.2.2
    obtain ⟨f, a, b, d, w1, w2, w3, w4, w5, w6, w7, w8, w9, w10⟩ := h8 p hp
    obtain ⟨x1, x2, x3, x4, x5⟩ := g2 p (by omega)
    exact ⟨f, a, b, d, w1, w2, w3, w4, w5, x1.trans w6, x2.trans w7, x3.trans w8, fun q => x4.trans (w9 q), fun q => x5.trans (w10 q)⟩
  · obtain ⟨r, r1, r2, r3⟩ := h4 k hk
    exact ⟨r, r1, r2, (g1 k (by omega)).trans r3⟩
theorem LW_take0 {pr : T_Pg} {m : T_M} {c k : T_Mc} (h : TXT pr m) (hl : Pg_lines pr = NN 0) (hk : M_number k = frN (M_number (M_cd m))) (hd : ∀ a, a < 32 → M_data k (32 + a) = NN 0) (g : TKN k c) : LW pr c := by
  obtain ⟨sz, nc, ln, h1, h2, h3, h4, h5, h6, h7, h8, h9⟩ := h
  have l0 : ln = 0 := n_inj (by have := h3.2.2; omega) (by omega) (h3.1.symm.trans hl)
  obtain ⟨rfl, rfl, j1, j2⟩ := h9 l0
  obtain ⟨g1, g2, g3, g4⟩ := g
  have e : ∀ k, k < 10 → M_number c k = M_number (M_cd m) (10 + k) := fun k hk' => by rw [g1 k hk', hk, frN_at _ k hk']; exact (j1 k hk').symm
  refine ⟨⟨0, h2.1, (e 9 (by omega)).trans h2.2.1, by omega, fun k hk => by omega⟩, ⟨0, ⟨h1.1, (e 8 (by omega)).trans h1.2.1, by omega⟩, h7, fun p hp => by omega⟩, fun k hk => ?_, fun a ha => ?_⟩
  · obtain ⟨r, r1, r2, r3⟩ := h4 k hk
    exact ⟨r, r1, r2, (e k (by omega)).trans r3⟩
  · rw [h5 a ha, j2 a ha, g4 a ha, hd a ha]
theorem LW_RCf {pr : T_Pg} {m : T_M} (h : LW pr (M_cd m)) : RCf pr m := by
  obtain ⟨-, ⟨sz, h1, h2, h3⟩, h4, h5⟩ := h
  obtain ⟨sp, a1, a2, a3⟩ := h4 0 (by omega)
  obtain ⟨lo, b1, b2, b3⟩ := h4 1 (by omega)
  obtain ⟨hi, c1, c2, c3⟩ := h4 2 (by omega)
  obtain ⟨z0, d1, d2, d3⟩ := h4 3 (by omega)
  obtain ⟨z1, e1, e2, e3⟩ := h4 4 (by omega)
  obtain ⟨z2, f1, f2, f3⟩ := h4 5 (by omega)
  obtain ⟨tr, g1, g2, g3⟩ := h4 6 (by omega)
  obtain ⟨se, i1, i2, i3⟩ := h4 7 (by omega)
  exact ⟨sz, sp, lo, hi, z0, z1, z2, tr, se, ⟨h1.2.2, h1.1, h1.2.1, h2, h3⟩, ⟨a2, a3, (a1.1 rfl).1, (a1.1 rfl).2⟩, ⟨b2, b3, b1.2.1 rfl⟩, ⟨c2, c3, c1.2.2.1 rfl⟩,
    ⟨d2, d3, d1.2.2.2.1 (by omega)⟩, ⟨e2, e3, e1.2.2.2.1 (by omega)⟩, ⟨f2, f3, f1.2.2.2.1 (by omega)⟩, ⟨g2, g3, (g1.2.2.2.2.1 rfl).1, (g1.2.2.2.2.1 rfl).2⟩, ⟨i2, i3, i1.2.2.2.2.2 rfl⟩, h5⟩
theorem begins_all {pr : T_Pg} {W : T_M} (h : LW pr (M_cd W)) (old : T_Pa) : ∃ pa m, f_Pa_begin old pr = some pa ∧ f_M_begins W = some m ∧ RCf pr m ∧ RPa 0 pa pr m ∧ RAs m ∧ M_cd m = M_cd W ∧ M_tp m = M_tp W ∧ M_rd m = M_rd W ∧ M_lf m = M_lf W ∧ M_im m = M_im W ∧ M_al m = M_al W ∧ M_thrown m = M_thrown W := by
  obtain ⟨pa, e1, hB⟩ := C_begin old pr
  obtain ⟨row, sz, e2, h2, h3⟩ := M_begins1 W
  obtain ⟨m, hm⟩ : ∃ m, m = mZ W row (M_number (M_cd W) 0) sz (M_placeThen (M_rn W)) (M_ex W) (M_al W) (M_thrown W) := ⟨_, rfl⟩
  rw [← hm] at e2
  have hcd : M_cd m = M_cd W := by rw [hm]; rfl
  have hcf : RCf pr m := LW_RCf (by rw [hcd]; exact h)
  have hsp : M_spanNow (M_rn m) = M_number (M_cd m) 0 := by rw [hm]; rfl
  have hsz : ∀ k, k < 3 → M_sizeNow (M_rn m) k = M_number (M_cd m) (3 + k) := by rw [hm]; exact h2
  have hrow : M_s (M_rn m) = row := by rw [hm]; rfl
  refine ⟨pa, m, e1, e2, hcf, ?_, ⟨hsp, hsz⟩, hcd, by rw [hm]; rfl, by rw [hm]; rfl, by rw [hm]; rfl, by rw [hm]; rfl, by rw [hm]; rfl, by rw [hm]; rfl⟩
  obtain ⟨n, sp, lo, hi, z0, z1, z2, tr, se, hcd0, ⟨c1, c2, c3, c4⟩, ⟨c5, c6, c7⟩, ⟨c8, c9, c10⟩, ⟨c11, c12, c13⟩, ⟨c14, c15, c16⟩, ⟨c17, c18, c19⟩, ⟨c20, c21, c22, c23⟩, -, hd⟩ := hcf
  have hr := hB.1
  have hbg : bgRow m (M_s (M_rn m)) := by rw [hrow]; unfold bgRow; rw [hcd]; exact h3
  exact RPa_begin (ru := Pa_rules pa) hB hcd0 ⟨⟨(hr 0 (by omega)).trans c1, hsp.trans c2, c4⟩, ⟨(hr 1 (by omega)).trans c5, c6, c7⟩, ⟨(hr 2 (by omega)).trans c8, c9, c10⟩, ⟨(hr 3 (by omega)).trans c11, (hsz 0 (by omega)).trans c12, c13⟩, ⟨(hr 4 (by omega)).trans c14, (hsz 1 (by omega)).trans c15, c16⟩, ⟨(hr 5 (by omega)).trans c17, (hsz 2 (by omega)).trans c18, c19⟩, ⟨(hr 6 (by omega)).trans c20, c21, c22, c23⟩⟩ hd hbg
