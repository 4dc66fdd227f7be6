/-! every call, alike: what changes -/
theorem KP_mTS (m : T_M) (row : Nat → Int32) : KP m (mT (mS m row)) := ⟨rfl, rfl, rfl, rfl, rfl, rfl, fun h => h⟩
theorem KP_mST (m : T_M) (row : Nat → Int32) : KP m (mS (mT m) row) := ⟨rfl, rfl, rfl, rfl, rfl, rfl, fun h => h⟩
theorem KP_mPT (m : T_M) (row : Nat → Int32) (pt : Int32) : KP m (mP (mT m) row pt) := ⟨rfl, rfl, rfl, rfl, rfl, rfl, fun h => h⟩
theorem RPa_T {B : Nat} {pa : T_Pa} {pr : T_Pg} {m : T_M} (h : RPa B pa pr m) : RPa B pa pr (mT m) := h
theorem o_go {B : Nat} {tt : T_TT} {rd : T_Rd} {pa im : T_Pa} {al : T_Al} {pr : T_Pg} {m : T_M} (h : RTT B tt rd pa im al pr m) (hB : B < 800000) (a1 : Int32) : ∃ r pa' m', f_TT_go tt pa pr a1 = some (r, pa') ∧ f_M_go m a1 = some (r, m') ∧ RTT (B + 300) tt rd pa' im al pr m' := by
  obtain ⟨r, pa', row, pt, e1, e2, e3⟩ := sim_go h.1 (by omega) tt a1
  exact ⟨r, pa', _, e1, e2, RTT_KP h e3 (KP_mPT m row pt) (by omega) h.2.2.2.2.2.1⟩
theorem o_stick {B : Nat} {tt : T_TT} {rd : T_Rd} {pa im : T_Pa} {al : T_Al} {pr : T_Pg} {m : T_M} (h : RTT B tt rd pa im al pr m) (a1 a2 a3 : Int32) (g : Nat) (hg : g < 2) : ∃ r pa' m', r < 2 ∧ f_TT_stick tt pa a1 a2 a3 (NN g) = some (NN r, pa') ∧ f_M_stick m a1 a2 a3 (NN g) = some (NN r, m') ∧ RTT B tt rd pa' im al pr m' := by
  obtain ⟨r, pa', row, e1, e2, e3, e4⟩ := sim_stick h.1 tt a1 a2 a3 g hg
  exact ⟨r, pa', _, e4, e1, e2, RTT_KP h (RPa_T e3) (KP_mTS m row) (Nat.le_refl _) h.2.2.2.2.2.1⟩
theorem o_loose {B : Nat} {tt : T_TT} {rd : T_Rd} {pa im : T_Pa} {al : T_Al} {pr : T_Pg} {m : T_M} (h : RTT B tt rd pa im al pr m) : ∃ r pa' m', f_TT_loose tt pa = some (r, pa') ∧ f_M_loose m = some (r, m') ∧ RTT B tt rd pa' im al pr m' := by
  obtain ⟨r, pa', row, e1, e2, e3⟩ := sim_loose h.1 tt
  exact ⟨r, pa', _, e1, e2, RTT_KP h (RPa_T e3) (KP_mTS m row) (Nat.le_refl _) h.2.2.2.2.2.1⟩
theorem o_flip {B : Nat} {tt : T_TT} {rd : T_Rd} {pa im : T_Pa} {al : T_Al} {pr : T_Pg} {m : T_M} (h : RTT B tt rd pa im al pr m) (a1 a2 a3 : Int32) : ∃ r pa' m', r < 2 ∧ f_TT_flip tt pa a1 a2 a3 = some (NN r, pa') ∧ f_M_flip m a1 a2 a3 = some (NN r, m') ∧ RTT B tt rd pa' im al pr m' := by
  have hT : RPa B pa pr (mT m) := h.1
  unfold f_TT_flip f_M_flip
  have i0 : isB (NN 0) := by decide
  have i1 : isB (NN 1) := by decide
  rcases sim_flip hT a1 a2 a3 with ⟨e1, e2⟩ | ⟨b, i, pa', hb, rfl, hi, e1, e2, e3, -, -, -, -⟩
  · have e2' := M_flips0 e2
    exact ⟨0, pa, mT m, by omega, s_bd2 e1 (if_pos i0), s_bd2 e2' (if_pos i0), RTT_mT h⟩
  · have e2' := M_flips1 hb (by omega) e2
    obtain ⟨row, hrow⟩ : ∃ row, row = stk (upd (M_s (M_rn (mT m))) i (M_s (M_rn (mT m)) i ^^^ NN (2 ^ b))) := ⟨_, rfl⟩
    rw [← hrow] at e2' e3
    exact ⟨1, pa', mS (mT m) row, by omega, s_bd2 e1 (if_pos i1), s_bd2 e2' (if_pos i1), RTT_KP h e3 (KP_mST m row) (Nat.le_refl _) h.2.2.2.2.2.1⟩
theorem o_keep {B : Nat} {tt : T_TT} {rd : T_Rd} {pa im : T_Pa} {al : T_Al} {pr : T_Pg} {m : T_M} (h : RTT B tt rd pa im al pr m) : ∃ r im' m', f_TT_keep tt pa im = some (r, NN 1, im') ∧ f_M_keep m = some (r, m') ∧ RTT B (NN 1) rd pa im' al pr m' := by
  obtain ⟨r, im', g, e1, e2, e3⟩ := sim_keep h.1 tt im
  obtain ⟨h1, h2, h3, h4, h5, h6, h7⟩ := h
  exact ⟨r, im', mI m g (NN 1), e1, e2, h1, RCf_same h2 rfl, h3, RDR_same h4 rfl rfl, h5, h6, Or.inr ⟨rfl, rfl, e3⟩⟩
theorem o_back {B : Nat} {tt : T_TT} {rd : T_Rd} {pa im : T_Pa} {al : T_Al} {pr : T_Pg} {m : T_M} (h : RTT B tt rd pa im al pr m) (xpa xim : Nat) : ∃ r pa' m', f_TT_back xpa xim tt pa im = some (r, pa', if tt = NN 0 then xpa else xim) ∧ f_M_back m = some (r, m') ∧ RTT B tt rd pa' im al pr m' := by
  rcases h.2.2.2.2.2.2 with ⟨a, b⟩ | ⟨a, b, c⟩
  · obtain ⟨e1, e2⟩ := sim_back0 xpa xim pa im a b
    exact ⟨-1, pa, mT m, by rw [if_pos a]; exact e1, e2, RTT_mT h⟩
  · obtain ⟨r, pa', row, e1, e2, e3⟩ := sim_back xpa xim pa a b c
    exact ⟨r, pa', mS (mT m) row, by rw [if_neg (by rw [a]; decide)]; exact e1, e2, RTT_KP h e3 (KP_mST m row) (Nat.le_refl _) h.2.2.2.2.2.1⟩
theorem o_feed {B : Nat} {tt : T_TT} {rd : T_Rd} {pa im : T_Pa} {al : T_Al} {pr : T_Pg} {m : T_M} (h : RTT B tt rd pa im al pr m) (a1 a2 a3 a4 a5 : Int32) : ∃ r rd' m', f_TT_feed tt rd a1 a2 a3 a4 a5 = some (r, rd') ∧ f_M_feed m a1 a2 a3 a4 a5 = some (r, m') ∧ RTT B tt rd' pa im al pr m' := by
  obtain ⟨r, rd', m', e1, e2, e3, c1, c2, c3, c4, c5, c6⟩ := sim_feed h.2.2.2.1 tt a1 a2 a3 a4 a5
  obtain ⟨h1, h2, h3, h4, h5, h6, h7⟩ := h
  have hl : LOW (M_cd m) (M_cd m') := by rw [c1]; exact LOW_refl _
  exact ⟨r, rd', m', e1, e2, RPa_LOW h1 hl c2, RCf_LOW h2 hl, RAs_LOW h3 hl c2, e3, LBR_LOW h5 hl, h6, IMG_keep h7 (Nat.le_refl _) h3 (RAs_LOW h3 hl c2) c1 c4⟩
theorem RPa_imgL {B : Nat} {im : T_Pa} {pr : T_Pg} {m m' : T_M} {X : Nat → Int32} (hl : LOW (M_cd m) (M_cd m')) (e : M_rn m' = M_rn m) (h : RPa B im pr (mS m X)) : RPa B im pr (mS m' X) := by
  have e2 : M_rn (mS m' X) = M_rn (mS m X) := by show (X, (M_spanNow (M_rn m')), (M_sizeNow (M_rn m')), (M_placeThen (M_rn m'))) = (X, (M_spanNow (M_rn m)), (M_sizeNow (M_rn m)), (M_placeThen (M_rn m))); rw [e]
  exact RPa_LOW (m := mS m X) (m' := mS m' X) h hl e2
/-- TEXT: either what is there stays, or all begins anew -/
theorem o_text {B : Nat} {tt : T_TT} {rd : T_Rd} {pa im : T_Pa} {al : T_Al} {pr : T_Pg} {m : T_M} (h : RTT B tt rd pa im al pr m) (g qe : Nat → Nat) (xpa : Nat) (df : T_Pg) (a1 : Int32) :
    (∃ r rd' df' m', f_TT_text g qe xpa tt rd pa pr df a1 = some (r, tt, rd', pa, df', xpa, qe 0, g 0) ∧ f_M_text m a1 = some (r, m') ∧ RTT B tt rd' pa im al pr m') ∨
    (∃ r rd' pa' pr' m', f_TT_text g qe xpa tt rd pa pr df a1 = some (r, NN 0, rd', pa', pr', qe 0, g 0, qe 0) ∧ f_M_text m a1 = some (r, m') ∧ RTT B (NN 0) rd' pa' im al pr' m') := by
  obtain ⟨h1, h2, h3, h4, h5, h6, h7⟩ := h
  rcases sim_text h4 g qe xpa tt pa pr df a1 with ⟨r, rd', df', m', e1, e2, e3, hl, c2, c3, c4, c5, c6⟩ | ⟨r, rd', pa', pr', m', e1, e2, e3, e4, e5, e6, e7, e8, e9, e10⟩
  · refine Or.inl ⟨r, rd', df', m', e1, e2, RPa_LOW h1 hl c2, RCf_LOW h2 hl, RAs_LOW h3 hl c2, e3, LBR_LOW h5 hl, h6, ?_⟩
    rcases h7 with ⟨a, b⟩ | ⟨a, b, c⟩
    · exact Or.inl ⟨a, by rw [c4]; exact b⟩
    · exact Or.inr ⟨a, by rw [c4]; exact b, by rw [c4]; exact RPa_imgL hl c2 c⟩
  · exact Or.inr ⟨r, rd', pa', pr', m', e1, e2, RPa_mono e5 (by omega), e4, e6, e3, e7, h6, Or.inl ⟨rfl, e8⟩⟩
