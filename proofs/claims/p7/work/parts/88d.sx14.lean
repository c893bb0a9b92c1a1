section SX14
variable {ra : ae_R} {d : Nat} {σ σ0 σ1 σ2 : ae_S} {w w0 w1 w2 : Nat → Nat} {C C' : Nat → Prop} {l i : Nat} {f : Nat → Option Nat} {a : AN} {k : AK}
/-- the payload is put -/
def py (g : Nat → Int32) (dg : Nat → Int32) : Nat → Nat → Int32
  | 0 => g
  | j + 1 => ub (py g dg j) (34 + j) (dg j)
def hed (l : Nat) (k : AK) (nt : Nat) (x : AG) : Nat → Int32 := tel (bgn (nI l) (nI (kso k)) (nI nt) (nI (fln (rmm (kmo k) (kqu k)) x))) x.1 (nI x.2.2.2) (fmo (rmm (kmo k) (kqu k)) x)
/-- the frame of a fragment -/
def mkf (l : Nat) (k : AK) (s : Int32) (nt : Nat) (x : AG) : AF := (fsz (fln (rmm (kmo k) (kqu k)) x), sel (fsz (fln (rmm (kmo k) (kqu k)) x)) (py (hed l k nt x) (fun i => dgb l x (x.2.2.2 + i)) (fln (rmm (kmo k) (kqu k)) x)) s)
theorem fln_le {rm : Nat} {x : AG} : fln rm x ≤ rm := by
  unfold fln
  split <;> omega
theorem c_12pz {q r po ac wa fi M N rm : Nat} {se s tm u : Int32} {x : AG} {g : Nat → Int32} (h0 : σ0.2[0]? = some (.inr (7, [.ref 1, .ref 2, .ref 3, .ref 4, .ref 6, .int tm]))) (hq : σ0.2[q]? = some (LkC l k po ac wa fi se)) (hr : σ0.2[r]? = some (FG rm x)) (hM : fln rm x = M) (hN : M + 39 ≤ N) (hne : q ≠ 4 ∧ q ≠ 5 ∧ r ≠ 4 ∧ r ≠ 5) (hx : x.2.1 ≤ 400 ∧ x.2.2.2 < 8 + x.2.1) {P : ae_S × ae_O → Prop}
    (hX : ∀ σ, FX σ 4 5 N (py g (fun i => dgb l x (x.2.2.2 + i)) M) → Op 4 5 σ0 σ → hG ra (d + 2) 12 σ [some (.ref 0), some (.ref q), some (.ref r), some (.int s), some (.int u), some (.int (nI M))] [] 104 P) :
    ∀ (m j : Nat) (σ : ae_S), j + m = M → FX σ 4 5 N (py g (fun i => dgb l x (x.2.2.2 + i)) j) → Op 4 5 σ0 σ → hG ra (d + 2) 12 σ [some (.ref 0), some (.ref q), some (.ref r), some (.int s), some (.int u), some (.int (nI j))] [] 62 P := by
  intro m
  induction m with
  | zero =>
    intro j σ hj h ho
    have hj : j = M := by omega
    subst hj
    have hr' : σ.2[r]? = some (FG rm x) := (ho.2.2 r hne.2.2.1 hne.2.2.2).trans hr
    have hn := h.2.1.1
    refine h_st rfl rfl ?_
    refine h_st rfl rfl ?_
    refine h_st rfl (e_get hr' rfl) ?_
    refine h_st rfl rfl ?_
    refine h_pc (if_pos (decide_eq_true ((by rw [hM]; exact nI_le (Nat.le_refl _) (by omega))))) ?_
    exact hX _ h ho
  | succ m ih =>
    intro j σ hj h ho
    have h0' : σ.2[0]? = some (.inr (7, [.ref 1, .ref 2, .ref 3, .ref 4, .ref 6, .int tm])) := (ho.2.2 0 (by decide) (by decide)).trans h0
    have hq' : σ.2[q]? = some (LkC l k po ac wa fi se) := (ho.2.2 q hne.1 hne.2.1).trans hq
    have hr' : σ.2[r]? = some (FG rm x) := (ho.2.2 r hne.2.2.1 hne.2.2.2).trans hr
    have hn := h.2.1.1
    have ih1 := fun σ h1 h2 => ih (j + 1) σ (by omega) h1 h2
    simp only [← nI_1] at ih1
    have hF : ¬ nI (fln rm x) ≤ nI j := by rw [hM]; exact nI_ge (by omega) (by omega)
    refine h_st rfl rfl ?_
    refine h_st rfl rfl ?_
    refine h_st rfl (e_get hr' rfl) ?_
    refine h_st rfl rfl ?_
    refine h_pc (if_neg (fun z9 => (hF) (of_decide_eq_true z9))) ?_
    refine h_st rfl rfl ?_
    refine h_st rfl (e_get h0' rfl) ?_
    refine h_st rfl rfl ?_
    refine h_st rfl rfl ?_
    refine h_st rfl rfl ?_
    refine h_st rfl rfl ?_
    refine h_st rfl rfl ?_
    refine h_st rfl (e_get hq' rfl) ?_
    refine h_st rfl rfl ?_
    refine h_st rfl (e_get hr' rfl) ?_
    refine h_st rfl rfl ?_
    refine h_st rfl rfl ?_
    refine h_ci3 rfl (Nat.le_of_ble_eq_true rfl) (e_rcv (hr')) rfl (c_20x (l := l) (k := x.2.2.2 + j) hr' (nI_add _ _) (by omega)) (fun σ2 y hy => ?_)
    obtain ⟨rfl, rfl⟩ := hy
    refine h_cv3 rfl (Nat.le_of_ble_eq_true rfl) (e_rcv (h.1)) rfl (c_17x h (j := 34 + j) (nI_add 34 j) (by omega) _) (fun σ3 h3 => ?_)
    obtain ⟨h3, o3⟩ := h3
    refine h_st rfl rfl ?_
    refine h_st rfl rfl ?_
    exact ih1 _ h3 (ho.trans o3)
/-- a frame goes over one of the two networks -/
theorem c_12nz (hck : ra 3 = (16, ckt)) {q r nt : Nat} {s : Int32} {x : AG} {x5 : Option Value} (hl : l < 8) (hnt : nt < 2) (h : CN σ w f a) (hk : nK a l = some k) (hf : f l = some q) (hr : σ.2[r]? = some (FG (rmm (kmo k) (kqu k)) x)) (hw : lb l + 8 ≤ w r ∧ w r < lb l + 16) (hx : x.2.1 ≤ 400 ∧ x.2.2.2 < 8 + x.2.1) {P : ae_S × ae_O → Prop}
    (hX : ∀ σ' w' x5', CN σ' w' f (setL a (12 * nt + kso k) (enq (12 * nt + kso k) (khi k) (mkf l k s nt x) (nL a (12 * nt + kso k)))) → σ'.2[r]? = some (FG (rmm (kmo k) (kqu k)) x) → lb l + 8 ≤ w' r ∧ w' r < lb l + 16 → hG ra (d + 3) 12 σ' [some (.ref 0), some (.ref q), some (.ref r), some (.int s), some (.int (nI (nt + 1))), x5'] [] 13 P) :
    hG ra (d + 3) 12 σ [some (.ref 0), some (.ref q), some (.ref r), some (.int s), some (.int (nI nt)), x5] [] 13 P := by
  have h' := h
  obtain ⟨hN, ⟨⟨n0, g0, hD⟩, w4, w5⟩, -, -, -, hC⟩ := h'
  obtain ⟨q', po, ac, wa, fi, se, pf, e1, hL, -⟩ := (hC l hl).2 k hk
  rw [hf] at e1
  injection e1 with e1
  subst e1
  have dne : ∀ u v : Nat, w u ≠ w v → u ≠ v := fun u v h e => h (by rw [e])
  have hwq := hL.1.1
  have hlb : 3000 ≤ lb l := by unfold lb; omega
  have hne : q ≠ 4 ∧ q ≠ 5 ∧ r ≠ 4 ∧ r ≠ 5 := ⟨dne _ _ (by omega), dne _ _ (by omega), dne _ _ (by omega), dne _ _ (by omega)⟩
  have h0 := hN.1.1
  have hq := hL.2.1
  have hso := hL.2.2.1.1
  have hrm := rmm_bd (qu := kqu k) hL.2.2.1.2.1
  generalize hM : fln (rmm (kmo k) (kqu k)) x = M
  have hM1 : M ≤ 161 := by
    have := fln_le (rm := rmm (kmo k) (kqu k)) (x := x)
    omega
  have hg := fsz_ge M
  refine h_st rfl rfl ?_
  refine h_st rfl rfl ?_
  refine h_st rfl rfl ?_
  refine h_pc (if_neg (fun z9 => (nI_ge (b := 2) hnt (by decide)) (of_decide_eq_true z9))) ?_
  refine h_st rfl rfl ?_
  refine h_st rfl (e_get h0 rfl) ?_
  refine h_st rfl rfl ?_
  refine h_st rfl (e_get hq rfl) ?_
  refine h_st rfl rfl ?_
  refine h_st rfl (e_get hq rfl) ?_
  refine h_st rfl rfl ?_
  refine h_st rfl rfl ?_
  refine h_st rfl ((e_get hr rfl).trans (by rw [hM])) ?_
  refine h_cv5 rfl (Nat.le_of_ble_eq_true rfl) (e_rcv (hD.1)) rfl (c_16x hD hM1 (nI l) (nI (kso k)) (nI nt)) (fun σ1 z1 => ?_)
  obtain ⟨f1, o1⟩ := z1
  have hr1 := (o1.2.2 r hne.2.2.1 hne.2.2.2).trans hr
  refine h_st rfl rfl ?_
  refine h_st rfl (e_get ((o1.2.2 0 (by decide) (by decide)).trans h0) rfl) ?_
  refine h_st rfl rfl ?_
  refine h_st rfl (e_get hr1 rfl) ?_
  refine h_st rfl rfl ?_
  refine h_st rfl (e_get hr1 rfl) ?_
  refine h_st rfl rfl ?_
  refine h_st rfl (e_get hr1 rfl) ?_
  refine h_cv4 rfl (Nat.le_of_ble_eq_true rfl) (e_rcv (f1.1)) rfl (c_19x f1 hg.1 x.1 (nI x.2.2.2) (fmo (rmm (kmo k) (kqu k)) x)) (fun σ2 z2 => ?_)
  obtain ⟨f2, o2⟩ := z2
  replace o2 := o1.trans o2
  refine h_st rfl rfl ?_
  refine h_st rfl rfl ?_
  refine c_12pz (N := fsz M) h0 hq hr hM hg.2 hne hx (fun σ3 f3 o3 => ?_) M 0 _ (by omega) f2 o2
  refine h_st rfl rfl ?_
  refine h_st rfl (e_get ((o3.2.2 0 (by decide) (by decide)).trans h0) rfl) ?_
  refine h_st rfl rfl ?_
  refine h_cv2 rfl (Nat.le_of_ble_eq_true rfl) (e_rcv (f3.1)) rfl (c_21x hck f3 hg.1 s) (fun σ4 z4 => ?_)
  obtain ⟨f4, o4⟩ := z4
  replace o4 := o3.trans o4
  have s4 := Sa.op (w := w) o4
  rw [w4, w5] at s4
  have h4 := h.dr s4 (fun c z => z) ⟨⟨_, _, f4⟩, w4, w5⟩
  have hq4 := (o4.2.2 q hne.1 hne.2.1).trans hq
  have e4 : mkf l k s nt x = (fsz M, sel (fsz M) (py (tel (bgn (nI l) (nI (kso k)) (nI nt) (nI M)) x.1 (nI x.2.2.2) (fmo (rmm (kmo k) (kqu k)) x)) (fun i => dgb l x (x.2.2.2 + i)) M) s) := by unfold mkf hed; rw [hM]
  have f4' : FX σ4 4 5 (mkf l k s nt x).1 (mkf l k s nt x).2 := by rw [e4]; exact f4
  refine h_st rfl rfl ?_
  refine h_st rfl rfl ?_
  refine h_st rfl rfl ?_
  refine h_st rfl (e_get hq4 rfl) ?_
  refine h_st rfl rfl ?_
  refine h_st rfl (e_get hq4 rfl) ?_
  refine h_st rfl rfl ?_
  refine h_st rfl (e_get ((o4.2.2 0 (by decide) (by decide)).trans h0) rfl) ?_
  refine h_ci5 rfl (Nat.le_of_ble_eq_true rfl) (e_rcv (h4.1.1.1)) rfl (c_25n (x := mkf l k s nt x) rfl rfl hnt (by omega) h4 f4' (by rw [e4]; exact hg.1)) (fun σ5 v hv => ?_)
  obtain ⟨w5', h5, s5, -⟩ := hv
  have hr4 := (o4.2.2 r hne.2.2.1 hne.2.2.2).trans hr
  have nc : ¬ (LQ (12 * nt + kso k) (w r) ∨ w r = 2407) := by unfold LQ; omega
  refine h_st rfl rfl ?_
  refine h_st rfl rfl ?_
  refine h_st rfl rfl ?_
  rw [show nI nt + 1 = nI (nt + 1) from nI_1 nt]
  exact hX _ w5' _ h5 (s5.at hr4 nc) (by rw [s5.wt hr4 nc]; exact hw)
def opn (k : AK) (tm : Int32) : AK := (k.1, (dfr k, dme k, dsq k, tm + kga k), k.2.2)
/-- a link sends a fragment over both networks -/
def snd1 (a : AN) (l : Nat) (k : AK) (x : AG) : AN :=
  let a1 := setK a l (nsq (pop k))
  let a2 := setL a1 (12 * 0 + kso k) (enq (12 * 0 + kso k) (khi k) (mkf l k (dsq k) 0 x) (nL a1 (12 * 0 + kso k)))
  let a3 := setL a2 (12 * 1 + kso k) (enq (12 * 1 + kso k) (khi k) (mkf l k (dsq k) 1 x) (nL a2 (12 * 1 + kso k)))
  setK a3 l (opn (nsq (pop k)) (nT a))
def snd (a : AN) (l : Nat) : AN := match nK a l with
  | none => a
  | some k => match dfr k with
    | [] => a
    | x :: _ => if nT a < dop k then a else snd1 a l k x
theorem updK_s {K : Nat → Option AK} : updK K l k l = some k := if_pos rfl
theorem updK_n {K : Nat → Option AK} {j : Nat} (h : j ≠ l) : updK K l k j = K j := if_neg h
theorem fol_rg {s : Int32} (h : rg s 256) : rg (fol s) 256 ∧ ¬ s = -1 := by
  obtain ⟨n, hn, rfl⟩ := h
  refine ⟨?_, fun z => nI_nm1 (by omega) z⟩
  unfold fol
  by_cases e : n = 255
  · rw [if_pos (by rw [e]; rfl)]
    exact ⟨1, by decide, rfl⟩
  · have hne : ¬ nI n = (255 : Int32) := fun z => e ((nI_eq (b := 255) (by omega) (by decide)).mp z)
    rw [if_neg hne]
    exact ⟨n + 1, by omega, nI_1 n⟩
theorem c_12n (hck : ra 3 = (16, ckt)) {q : Nat} {x : AG} {t : List AG} (hl : l < 8) (h : CN σ w f a) (hk : nK a l = some k) (hf : f l = some q) (hx : dfr k = x :: t) : hE ra (d + 4) 12 [.ref 0, .ref q] σ (pV (fun σ' => ∃ w', CN σ' w' f (snd1 a l k x))) := by
  have h' := h
  obtain ⟨hN, -, -, -, -, hC⟩ := h'
  obtain ⟨q', po, ac, wa, fi, se, pf, e1, hL, hpf, hsq, hPT⟩ := (hC l hl).2 k hk
  rw [hf] at e1
  injection e1 with e1
  subst e1
  have hlb : 3000 ≤ lb l := by unfold lb; omega
  have hxb : x.2.1 ≤ 400 ∧ x.2.2.2 < 8 + x.2.1 := by
    obtain ⟨_, _, _, _, _, fw, _, _, h8⟩ := hL
    have := (h8 0 x (by rw [hx]; rfl)).1
    exact ⟨this.2.1, this.2.2⟩
  have wpo := hL.1.2.1
  refine h_in rfl rfl (Nat.le_of_ble_eq_true rfl) ?_
  refine h_st rfl rfl ?_
  refine h_cr1 rfl (Nat.le_of_ble_eq_true rfl) (hL.rcv) rfl (c_13x hL hx) (fun σ1 r hr => ?_)
  obtain ⟨r, fi1, rfl, hr, hL1, s1, hw⟩ := hr
  refine h_st rfl rfl ?_
  refine h_st rfl rfl ?_
  refine h_ci1 rfl (Nat.le_of_ble_eq_true rfl) (hL1.rcv) rfl (c_14z hL1 (fol_rg hsq).2) (fun σ2 s hs => ?_)
  obtain ⟨es, hL2, s2⟩ := hs
  have es' : s = dsq k := es
  subst es'
  refine h_st rfl rfl ?_
  refine h_st rfl rfl ?_
  refine h_st rfl rfl ?_
  have s12 : Sa (fun c => c = lb l) σ w σ2 w := s1.trans s2
  have hC2 : CLk σ2 w l f (updK (nK a) l (nsq (pop k))) (nP a) := ⟨fun z => (by rw [updK_s] at z; cases z), fun k' hk' => by
    rw [updK_s] at hk'
    cases hk'
    exact ⟨q, po, ac, wa, fi1, _, pf, hf, hL2, s12.at hpf (by omega), (fol_rg hsq).1, fun e he => ⟨(hPT e he).1, fun p hp => by
      obtain ⟨r', h6, h7⟩ := (hPT e he).2 p hp
      exact ⟨r', h6, h7.sa s12 (fun c z => by unfold PC at z; omega)⟩⟩⟩⟩
  have h2 : CN σ2 w f (setK a l (nsq (pop k))) := h.lk (k := k) s12 (fun c z => by omega) hl hC2 (fun j hj => updK_n hj) (fun j hj => rfl)
  have hr2 := s2.at hr (by omega)
  refine c_12nz (k := nsq (pop k)) (nt := 0) hck hl (by decide) h2 updK_s hf hr2 hw hxb (fun σ3 w3 x5 h3 hr3 hw3 => ?_)
  refine c_12nz (k := nsq (pop k)) (nt := 1) hck hl (by decide) h3 updK_s hf hr3 hw3 hxb (fun σ4 w4 x5 h4 hr4 hw4 => ?_)
  have h4' := h4
  obtain ⟨hN4, -, -, -, -, hC4⟩ := h4'
  obtain ⟨q4, po4, ac4, wa4, fi4, se4, pf4, e4, hL4, hpf4, hsq4, hPT4⟩ := (hC4 l hl).2 (nsq (pop k)) updK_s
  rw [hf] at e4
  injection e4 with e4
  subst e4
  have wpo4 := hL4.1.2.1
  obtain ⟨g5, s5⟩ := hL4.put (a' := opn (nsq (pop k)) (nT a)) (fi' := fi4) (se' := se4) hL4.2.2.1 hL4.2.2.2.1 rfl rfl rfl (fun j y hy => ⟨j, rfl, hy⟩)
  refine h_st rfl rfl ?_
  refine h_st rfl rfl ?_
  refine h_st rfl rfl ?_
  refine h_pc (if_pos (decide_eq_true (nI_le (Nat.le_refl 2) (by decide)))) ?_
  refine h_st rfl rfl ?_
  refine h_st rfl rfl ?_
  refine h_st rfl (e_get hN4.1.1 rfl) ?_
  refine h_st rfl rfl ?_
  refine h_st rfl (e_get hL4.2.1 rfl) ?_
  refine h_st rfl rfl ?_
  refine h_st rfl (e_put hL4.2.1 rfl (Nat.le_of_ble_eq_true rfl)) ?_
  have hC5 : CLk (σ4.1, σ4.2.set q (LkC l (opn (nsq (pop k)) (nT a)) po4 ac4 wa4 fi4 se4)) w4 l f (updK (nK (setL (setL (setK a l (nsq (pop k))) (12 * 0 + kso k) (enq (12 * 0 + kso k) (khi k) (mkf l k (dsq k) 0 x) (nL (setK a l (nsq (pop k))) (12 * 0 + kso k)))) (12 * 1 + kso k) (enq (12 * 1 + kso k) (khi k) (mkf l k (dsq k) 1 x) (nL (setL (setK a l (nsq (pop k))) (12 * 0 + kso k) (enq (12 * 0 + kso k) (khi k) (mkf l k (dsq k) 0 x) (nL (setK a l (nsq (pop k))) (12 * 0 + kso k)))) (12 * 1 + kso k))))) l (opn (nsq (pop k)) (nT a))) (nP a) := ⟨fun z => (by rw [updK_s] at z; cases z), fun k' hk' => by
    rw [updK_s] at hk'
    cases hk'
    exact ⟨q, po4, ac4, wa4, fi4, _, pf4, hf, g5, s5.at hpf4 (by omega), hsq4, fun e he => ⟨(hPT4 e he).1, fun p hp => by
      obtain ⟨r', h6, h7⟩ := (hPT4 e he).2 p hp
      exact ⟨r', h6, h7.sa s5 (fun c z => by unfold PC at z; omega)⟩⟩⟩⟩
  exact h_rv rfl ⟨_, rfl, w4, h4.lk (k := k) s5 (fun c z => by omega) hl hC5 (fun j hj => updK_n hj) (fun j hj => rfl)⟩
def snda (a : AN) : Nat → AN
  | 0 => a
  | j + 1 => snd (snda a j) j
theorem c_11ln (hck : ra 3 = (16, ckt)) : ∀ (m j : Nat) (σ : ae_S) (w : Nat → Nat) (x4 : Option Value), j + m = 8 → CN σ w f (snda a j) → hG ra (d + 4) 11 σ [some (.ref 0), some (.ref 1), some (.int (nI 8)), some (.int (nI j)), x4] [] 10 (pV (fun σ' => ∃ w', CN σ' w' f (snda a 8))) := by
  intro m
  induction m with
  | zero =>
    intro j σ w x4 hj h
    have hj : j = 8 := by omega
    subst hj
    refine h_st rfl rfl ?_
    refine h_st rfl rfl ?_
    refine h_st rfl rfl ?_
    refine h_pc (if_pos (decide_eq_true (nI_le (Nat.le_refl 8) (by decide)))) ?_
    exact h_rv rfl (⟨_, rfl, w, h⟩)
  | succ m ih =>
    intro j σ w x4 hj h
    have hj8 : j < 8 := by omega
    have ih1 := fun σ w x4 h => ih (j + 1) σ w x4 (by omega) h
    simp only [← nI_1] at ih1
    have h' := h
    obtain ⟨hN, -, -, -, ⟨hA, -⟩, hC⟩ := h'
    have hin : ¬ (nI j < 0 ∨ 8 ≤ (nI j).toNatClampNeg) := nI_in hj8 (by decide)
    have ej : (nI j).toNatClampNeg = j := nI_clamp (by omega)
    refine h_st rfl rfl ?_
    refine h_st rfl rfl ?_
    refine h_st rfl rfl ?_
    refine h_pc (if_neg (fun z9 => (nI_ge (show j < 8 by omega) (by decide)) (of_decide_eq_true z9))) ?_
    refine h_st rfl rfl ?_
    refine h_st rfl rfl ?_
    refine h_st rfl ((e_aa hA (by decide) hin).trans (by rw [ej])) ?_
    cases hk : nK (snda a j) j with
    | none =>
      have en : f j = none := (hC j hj8).1 hk
      have es : snda a (j + 1) = snda a j := by
        show snd (snda a j) j = _
        unfold snd
        rw [hk]
      rw [en]
      refine h_st rfl rfl ?_
      refine h_st rfl rfl ?_
      refine h_st rfl rfl ?_
      refine h_st rfl rfl ?_
      refine h_st rfl rfl ?_
      exact ih1 _ w _ (by rw [es]; exact h)
    | some k =>
      obtain ⟨q, po, ac, wa, fi, se, pf, e1, hL, hpf, hsq, hPT⟩ := (hC j hj8).2 k hk
      rw [e1]
      have hlen := hL.2.2.1.2.2.2
      have es : snda a (j + 1) = (match dfr k with | [] => snda a j | x :: _ => if nT (snda a j) < dop k then snda a j else snd1 (snda a j) j k x) := by
        show snd (snda a j) j = _
        unfold snd
        rw [hk]
      refine h_st rfl rfl ?_
      refine h_st rfl rfl ?_
      refine h_st rfl rfl ?_
      refine h_st rfl rfl ?_
      refine h_st rfl (e_get hL.2.1 rfl) ?_
      cases hd : dfr k with
      | nil =>
        rw [hd] at es
        refine h_st rfl rfl ?_
        refine h_pc (if_pos (by decide)) ?_
        refine h_st rfl rfl ?_
        refine h_st rfl rfl ?_
        exact ih1 _ w _ (by rw [es]; exact h)
      | cons x t =>
        rw [hd] at es
        rw [hd] at hlen
        have hpos : ¬ nI (x :: t).length ≤ 0 := nI_nle (by simp) (by omega)
        refine h_st rfl rfl ?_
        refine h_pc (if_neg (fun z9 => (hpos) (of_decide_eq_true z9))) ?_
        refine h_st rfl rfl ?_
        refine h_st rfl (e_get hN.1.1 rfl) ?_
        refine h_st rfl rfl ?_
        refine h_st rfl (e_get hL.2.1 rfl) ?_
        refine h_st rfl rfl ?_
        refine h_br (fun q => ?_) (fun q => ?_)
        · refine h_st rfl rfl ?_
          refine h_st rfl rfl ?_
          exact ih1 _ w _ (by rw [es]; show CN _ _ _ (if _ then _ else _); rw [if_pos q]; exact h)
        · refine h_st rfl rfl ?_
          refine h_st rfl rfl ?_
          refine h_cv2 rfl (Nat.le_of_ble_eq_true rfl) (e_rcv (hN.1.1)) rfl (c_12n hck hj8 h hk e1 hd) (fun σ2 hq => ?_)
          obtain ⟨w2, h2⟩ := hq
          refine h_st rfl rfl ?_
          refine h_st rfl rfl ?_
          exact ih1 _ w2 _ (by rw [es]; show CN _ _ _ (if _ then _ else _); rw [if_neg q]; exact h2)
theorem c_11n (hck : ra 3 = (16, ckt)) (h : CN σ w f a) : hE ra (d + 5) 11 [.ref 0] σ (pV (fun σ' => ∃ w', CN σ' w' f (snda a 8))) := by
  have hN := h.1
  have hA := h.2.2.2.2.1.1
  refine h_in rfl rfl (Nat.le_of_ble_eq_true rfl) ?_
  refine h_st rfl rfl ?_
  refine h_st rfl (e_get hN.1.1 rfl) ?_
  refine h_st rfl rfl ?_
  refine h_st rfl rfl ?_
  refine h_st rfl (e_len hA (by decide)) ?_
  refine h_st rfl rfl ?_
  refine h_st rfl rfl ?_
  refine h_st rfl rfl ?_
  exact c_11ln hck 8 0 _ w _ rfl h
end SX14
