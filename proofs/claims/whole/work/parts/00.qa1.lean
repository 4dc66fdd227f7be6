/-! the relation of all -/
def IMG (B : Nat) (tt : T_TT) (im : T_Pa) (pr : T_Pg) (m : T_M) : Prop := (tt = NN 0 ∧ M_hasImage (M_im m) = NN 0) ∨ (tt = NN 1 ∧ M_hasImage (M_im m) = NN 1 ∧ RPa B im pr (mS m (M_image (M_im m))))
def RTT (B : Nat) (tt : T_TT) (rd : T_Rd) (pa im : T_Pa) (al : T_Al) (pr : T_Pg) (m : T_M) : Prop := RPa B pa pr m ∧ RCf pr m ∧ RAs m ∧ RDR rd m ∧ LBR pr (M_cd m) ∧ AL0 al ∧ IMG B tt im pr m
theorem RPa_img {B : Nat} {im : T_Pa} {pr : T_Pg} {m m' : T_M} {X : Nat → Int32} (hA : RAs m) (hA' : RAs m') (hcd : M_cd m' = M_cd m) (h : RPa B im pr (mS m X)) : RPa B im pr (mS m' X) := by
  have hcd' := hcd
  clear hcd
  obtain ⟨n, sp, lo, hi, z0, z1, z2, tr, pl, nl, pt, nt, pb, fl, nld, fb, nbr, nh, nc, ns, no, tu, po, al, si, sm, dn, dw, hcd, hru, hq, hbk, hou, hta, hdn, hdw, hbd⟩ := h
  have hcd1 := hcd
  clear hcd
  have hcd := hcd'
  obtain ⟨u1, u2, u3, u4, u5, u6, u7⟩ := hru
  have e0 : M_spanNow (M_rn m') = M_spanNow (M_rn m) := by rw [hA.1, hA'.1, hcd]
  have e1 : ∀ k, k < 3 → M_sizeNow (M_rn m') k = M_sizeNow (M_rn m) k := fun k hk => by rw [hA.2 k hk, hA'.2 k hk, hcd]
  refine ⟨n, sp, lo, hi, z0, z1, z2, tr, pl, nl, pt, nt, pb, fl, nld, fb, nbr, nh, nc, ns, no, tu, po, al, si, sm, dn, dw, ?_, ⟨⟨u1.1, e0.trans u1.2.1, u1.2.2⟩, ⟨u2.1, ?_, u2.2.2⟩, ⟨u3.1, ?_, u3.2.2⟩, ⟨u4.1, (e1 0 (by omega)).trans u4.2.1, u4.2.2⟩, ⟨u5.1, (e1 1 (by omega)).trans u5.2.1, u5.2.2⟩, ⟨u6.1, (e1 2 (by omega)).trans u6.2.1, u6.2.2⟩, ⟨u7.1, ?_, u7.2.2⟩⟩, hq, hbk, hou, hta, hdn, hdw, hbd⟩
  · exact RCd_LOW (m := mS m X) hcd1 (by show LOW (M_cd m) (M_cd m'); rw [hcd]; exact LOW_refl _)
  · exact (congrFun (congrArg M_number hcd) 1).trans u2.2.1
  · exact (congrFun (congrArg M_number hcd) 2).trans u3.2.1
  · exact (congrFun (congrArg M_number hcd) 6).trans u7.2.1
theorem IMG_keep {B B' : Nat} {tt : T_TT} {im : T_Pa} {pr : T_Pg} {m m' : T_M} (h : IMG B tt im pr m) (hB : B ≤ B') (hA : RAs m) (hA' : RAs m') (hcd : M_cd m' = M_cd m) (him : M_im m' = M_im m) : IMG B' tt im pr m' := by
  rcases h with ⟨h1, h2⟩ | ⟨h1, h2, h3⟩
  · exact Or.inl ⟨h1, by rw [him]; exact h2⟩
  · exact Or.inr ⟨h1, by rw [him]; exact h2, by rw [him]; exact RPa_mono (RPa_img hA hA' hcd h3) hB⟩
theorem RDR_same {rd : T_Rd} {m m' : T_M} (h : RDR rd m) (e : M_tp m' = M_tp m) (e2 : M_lf m' = M_lf m) : RDR rd m' := by
  unfold RDR
  rw [e, e2]
  exact h
theorem RCf_same {pr : T_Pg} {m m' : T_M} (h : RCf pr m) (e : M_cd m' = M_cd m) : RCf pr m' := RCf_LOW h (by rw [e]; exact LOW_refl _)
theorem RTT_KP {B B' : Nat} {tt : T_TT} {rd : T_Rd} {pa pa' im : T_Pa} {al al' : T_Al} {pr : T_Pg} {m m' : T_M} (h : RTT B tt rd pa im al pr m) (hp : RPa B' pa' pr m') (k : KP m m') (hB : B ≤ B') (ha : AL0 al') : RTT B' tt rd pa' im al' pr m' := by
  obtain ⟨h1, h2, h3, h4, h5, h6, h7⟩ := h
  obtain ⟨k1, k2, k3, k4, k5, k6, k7⟩ := k
  exact ⟨hp, RCf_same h2 k4, k7 h3, RDR_same h4 k1 k3, by rw [k4]; exact h5, ha, IMG_keep h7 hB h3 (k7 h3) k4 k5⟩
theorem RTT_mT {B : Nat} {tt : T_TT} {rd : T_Rd} {pa im : T_Pa} {al : T_Al} {pr : T_Pg} {m : T_M} (h : RTT B tt rd pa im al pr m) : RTT B tt rd pa im al pr (mT m) := RTT_KP h h.1 (KP_mT m) (Nat.le_refl _) h.2.2.2.2.2.1
theorem RTT_mono {B B' : Nat} {tt : T_TT} {rd : T_Rd} {pa im : T_Pa} {al : T_Al} {pr : T_Pg} {m : T_M} (h : RTT B tt rd pa im al pr m) (hB : B ≤ B') : RTT B' tt rd pa im al pr m := by
  obtain ⟨h1, h2, h3, h4, h5, h6, h7⟩ := h
  refine ⟨RPa_mono h1 hB, h2, h3, h4, h5, h6, ?_⟩
  rcases h7 with h7 | ⟨a, b, c⟩
  · exact Or.inl h7
  · exact Or.inr ⟨a, b, RPa_mono c hB⟩
