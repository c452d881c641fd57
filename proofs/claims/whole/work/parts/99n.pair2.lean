theorem pst_ev {D idW idM : Nat} {as : List mV} {h : mH} {σ : Sg} {R : Int × Nt × List Nt} (r : RR h σ) (c : cOK D idW as h (Sum.inl R.1) (zev σ R.2.1 R.2.2)) (m : ∀ g, LAY g → MI g σ → evOK D idM as g (zT σ) R) : pst Sum.inl D idW idM as h := by
  obtain ⟨g, -, -, w1, w2⟩ := m h r.1 r.2.2.2
  exact pst_mk r c (fun g L M => mOK_ev L r.2.1 M (m g L M)) (wfS_ev r.2.1 w1 w2.2.2.1)
theorem pst_q {D idW idM : Nat} {as : List mV} {h : mH} {σ : Sg} {a : Int} (r : RR h σ) (c : callA D idW (Sum.inr (Sum.inr (some 0)) :: as) h = some (some (Sum.inl a), h)) (m : ∀ g, LAY g → MI g σ → ∃ g2, callA D idM (Sum.inr (Sum.inr (some 141)) :: as) g = some (some (Sum.inl a), g2) ∧ scr g g2) : pst Sum.inl D idW idM as h := pst_mk r (cOK_s r.1 r.2.2.1 c) (fun g L M => mOK_q L r.2.1 M (m g L M)) r.2.1
theorem p_wid {h : mH} {σ : Sg} (r : RR h σ) (c : Int) : pst Sum.inl 40 71 164 [Sum.inl c] h := pst_ev r (cWid_ok 36 h r.1 σ r.2.1 r.2.2.1 c) (fun g L M => mWid_ok 34 g L _ _ _ r.2.1.1 r.2.1.2.1 M.1 M.2.1 c)
theorem p_lat {h : mH} {σ : Sg} (r : RR h σ) (c is : Int) : pst Sum.inl 40 67 160 [Sum.inl c, Sum.inl is] h := pst_ev r (cLate_ok 36 h r.1 σ r.2.1 r.2.2.1 c is) (fun g L M => mLateE_ok 34 g L _ _ _ r.2.1.1 r.2.1.2.1 M.1 M.2.1 c is)
theorem p_flo {h : mH} {σ : Sg} (r : RR h σ) (c is : Int) : pst Sum.inl 40 72 165 [Sum.inl c, Sum.inl is] h := pst_ev r (cFlo_ok 36 h r.1 σ r.2.1 r.2.2.1 c is) (fun g L M => mFlo_ok 34 g L _ _ _ r.2.1.1 r.2.1.2.1 M.1 M.2.1 c is)
theorem p_und {h : mH} {σ : Sg} (r : RR h σ) : pst Sum.inl 40 74 167 [] h := pst_ev r (cUnd_ok 36 h r.1 σ r.2.1 r.2.2.1) (fun g L M => mUnd_ok 34 g L _ _ _ r.2.1.1 r.2.1.2.1 M.2.1)
theorem p_pin {h : mH} {σ : Sg} (r : RR h σ) (c : Int) : pst Sum.inl 40 69 162 [Sum.inl c] h := pst_ev r (cPin_ok 36 h r.1 σ r.2.1 r.2.2.1 c) (fun g L M => mPin_ok 34 g L _ _ _ r.2.1.1 r.2.1.2.1 M.1 M.2.1 c)
theorem p_sto {h : mH} {σ : Sg} (r : RR h σ) : pst Sum.inl 40 70 163 [] h := pst_ev r (cSto_ok 36 h r.1 σ r.2.1 r.2.2.1) (fun g L M => mSto_ok 34 g L _ _ _ r.2.1.1 r.2.1.2.1 M.2.1)
theorem p_nin {h : mH} {σ : Sg} (r : RR h σ) : pst Sum.inl 40 68 161 [] h := pst_ev r (cNin_ok 36 h r.1 σ r.2.1 r.2.2.1) (fun g L M => mNin_ok 34 g L _ _ _ r.2.1.1 r.2.1.2.1 M.2.1)
theorem p_los {h : mH} {σ : Sg} (r : RR h σ) (c is : Int) : pst Sum.inl 40 73 166 [Sum.inl c, Sum.inl is] h := pst_ev r (cLos_ok 36 h r.1 σ r.2.1 r.2.2.1 c is (fun i hi z u => by
  unfold losN
  by_cases e : is = 1
  · rw [if_pos e]; exact los1_wf r.2.1.2.1.1
  · rw [if_neg e]
    have e0 : is = 0 := u.resolve_right e
    refine los0_wf r.2.1.2.1.1 hi (fun y => ?_)
    rw [if_neg (plF_in.mpr y)] at z
    exact z e0.symm)) (fun g L M => mLos_ok 34 g L _ _ _ r.2.1.1 r.2.1.2.1 M.1 M.2.1 c is)
theorem p_cart {h : mH} {σ : Sg} (r : RR h σ) (a b : Int) : pst Sum.inl 40 64 155 [Sum.inl a, Sum.inl b] h := pst_q r (cCart_ok 37 h r.1 _ _ r.2.1.1 r.2.1.2.1.1 (CI_q r.2.2.1) a b) (fun g L M => mCart_ok 35 g L _ _ r.2.1.1 r.2.1.2.1.1 M.1 (MI_now M) a b)
theorem p_gnd {h : mH} {σ : Sg} (r : RR h σ) (a : Int) : pst Sum.inl 40 65 156 [Sum.inl a] h := pst_q r (cGround_ok 37 h r.1 _ _ r.2.1.1 r.2.1.2.1.1 (CI_q r.2.2.1) a) (fun g L M => ⟨g, mGround_ok 37 g L _ _ r.2.1.1 M.1 (MI_now M) a, scr_rf g⟩)
theorem p_tak {h : mH} {σ : Sg} (r : RR h σ) (a : Int) : pst Sum.inl 40 66 157 [Sum.inl a] h := pst_q r (cTakes_ok 37 h r.1 _ _ r.2.1.1 r.2.1.2.1.1 (CI_q r.2.2.1) a) (fun g L M => mTakes_ok 35 g L _ _ r.2.1.1 r.2.1.2.1.1 M.1 (MI_now M) a)
theorem p_now {h : mH} {σ : Sg} (r : RR h σ) (a : Int) : pst Sum.inl 40 75 168 [Sum.inl a] h := pst_q r (cNow_ok 35 h r.1 _ _ r.2.1.1 r.2.1.2.1.1 (CI_q r.2.2.1) a) (fun g L M => mNow_ok 35 g L _ _ r.2.1.1 r.2.1.2.1.1 M.1 (MI_now M) a)
theorem p_ord {h : mH} {σ : Sg} (r : RR h σ) (a : Int) : pst Sum.inl 40 76 169 [Sum.inl a] h := pst_q r (cOrder_ok 39 h r.1 _ _ r.2.1.1 r.2.1.2.1.1 (CI_q r.2.2.1) a) (fun g L M => ⟨g, mOrder_ok 38 g L _ _ r.2.1.1 r.2.1.2.1.1 (MI_now M) a, scr_rf g⟩)
theorem p_btw {h : mH} {σ : Sg} (r : RR h σ) (a b : Int) : pst Sum.inl 40 77 171 [Sum.inl a, Sum.inl b] h := pst_q r (cBtw_ok 36 h r.1 _ _ r.2.1.1 r.2.1.2.1.1 (CI_q r.2.2.1) a b) (fun g L M => mBtw_ok 34 g L _ _ r.2.1.1 r.2.1.2.1.1 M.1 (MI_now M) a b)
theorem p_wnd {h : mH} {σ : Sg} (r : RR h σ) (a b : Int) : pst Sum.inl 40 78 172 [Sum.inl a, Sum.inl b] h := pst_q r (cWnd_ok 37 h r.1 _ _ r.2.1.1 r.2.1.2.1.1 (CI_q r.2.2.1) a b) (fun g L M => mWnd_ok 34 g L _ _ r.2.1.1 r.2.1.2.1.1 M.1 (MI_now M) a b)
theorem p_dar {h : mH} {σ : Sg} (r : RR h σ) (a : Int) : pst Sum.inl 40 81 181 [Sum.inl a] h := pst_q r (cDark_ok 38 h r.1 _ _ r.2.1.1 r.2.1.2.1.1 (CI_q r.2.2.1) a) (fun g L M => mDark_ok 37 g L _ _ r.2.1.1 r.2.1.2.1.1 M.1 (MI_now M) a)
theorem p_rop {h : mH} {σ : Sg} (r : RR h σ) (a : Int) : pst Sum.inl 40 80 179 [Sum.inl a] h := pst_mk r (cRopes_ok 35 h r.1 σ r.2.1 r.2.2.1 a) (fun g L M => mOK_q L r.2.1 M (mRopes_ok 36 g L _ _ r.2.1.1 r.2.1.2.1.1 M.1 (MI_now M) a)) r.2.1
theorem p_odd {h : mH} {σ : Sg} (r : RR h σ) (a k x w : Int) : pst Sum.inl 40 86 187 [Sum.inl a, Sum.inl k, Sum.inl x, Sum.inl w] h := pst_mk r (cOdds_ok 36 h r.1 σ r.2.1 r.2.2.1 a k x w) (fun g L M => mOK_q L r.2.1 M (mOdds_ok 37 g L _ _ r.2.1.1 r.2.1.2.1.1 M.1 (MI_now M) a k x w)) r.2.1
theorem p_who {h : mH} {σ : Sg} (r : RR h σ) : pst Sum.inl 40 85 186 [] h := pst_mk r (cWho_ok 37 h r.1 σ r.2.1 r.2.2.1) (fun g L M => mWho_ok 38 g L σ r.2.1 M) r.2.1
theorem p_cnt {h : mH} {σ : Sg} (r : RR h σ) (a : Int) : pst Sum.inl 40 90 191 [Sum.inl a] h := pst_mk r (cCnt_ok 39 h r.1 σ r.2.2.1 a) (fun g L M => mCnt_ok 39 g L σ M a) r.2.1
theorem p_tra {h : mH} {σ : Sg} (r : RR h σ) : pst (fun x => Sum.inr (Sum.inl x)) 40 91 192 [] h := pst_mk (K := fun x => Sum.inr (Sum.inl x)) r (cTra_ok 39 h r.1 σ r.2.2.1) (fun g L M => mTra_ok 39 g L σ M) r.2.1
theorem b8_nl {T : Td} {N : Nt} (wT : wfT T) : b8 (notLost N (tN T)) := fun x hx => by
  have := (notLost_mem.mp hx).1
  have := wT.1
  omega
theorem p_bst {h : mH} {σ : Sg} (r : RR h σ) (a : Int) : pst Sum.inl 40 79 176 [Sum.inl a] h := by
  obtain ⟨b, b1, b2⟩ := cBest_ok 20 h r.1 σ r.2.1 r.2.2.1 a
  refine pst_mk r b2 (fun g L M => ?_) r.2.1
  obtain ⟨b3, g2, c1, c2, c3⟩ := mBest_ok 36 g L _ _ r.2.1.1 r.2.1.2.1.1 M.1 (MI_now M) a
  rw [isBest_un (b8_nl r.2.1.1) b1 c1]
  exact mOK_q L r.2.1 M ⟨g2, c2, c3⟩
