section SY8
variable {ra : ae_R} {d : Nat} {σ : ae_S}
section S8
variable {F F' Fb : Nat → Nat → Int32} {v v' : Nat → Nat} {L : Nat → ALn} {A A' : ALn} {f i r l : Nat} {k : AK} {K : Nat → Option AK}
def RK (F : Nat → Nat → Int32) (l : Nat) (k : AK) : Prop := (F 177 l ≠ 0 ∧ F 180 l = nI (kso k) ∧ F 181 l = kga k ∧ F 182 l = nI (kmo k) ∧ F 183 l = kta k ∧ (F 178 l = 0 ↔ khi k = 0) ∧ (F 179 l = 0 ↔ kqu k = 0)) ∧ (F 185 l = dop k ∧ F 186 l = dme k ∧ F 187 l = dsq k ∧ F 189 l = nI (dfr k).length ∧ F 188 l = kac k 0 ∧ F 188 (8 + l) = kac k 1) ∧ (kso k < 4 ∧ (64 ≤ kmo k ∧ kmo k ≤ 128) ∧ (dfr k).length ≤ 8 ∧ rg (dme k) 65536 ∧ rg (dsq k) 256) ∧ (∀ j x, (dfr k)[j]? = some x → (F 190 (8 * l + j) = nI x.2.1 ∧ F 191 (8 * l + j) = x.2.2.1 ∧ F 192 (8 * l + j) = x.1 ∧ F 193 (8 * l + j) = nI x.2.2.2) ∧ (1 ≤ x.2.1 ∧ x.2.1 ≤ 400 ∧ x.2.2.2 < 8 + x.2.1) ∧ rg x.1 65536) ∧ ∀ ln, ln < 12 → (bit (kpa k) (nI ln) ↔ ¬ opf (nI ln) (F 180 l) (F 183 l) 4 = 0)
def Mlk (F : Nat → Nat → Int32) (K : Nat → Option AK) : Prop := ∀ l, l < 8 → (K l = none → F 177 l = 0 ∧ F 185 l = 0 ∧ F 186 l = 0 ∧ F 187 l = 0 ∧ F 189 l = 0) ∧ ∀ k, K l = some k → RK F l k
theorem RK.ag (h : RK F l k) (e : ∀ q, 177 ≤ q → q < 194 → F' q = F q) : RK F' l k := by
  unfold RK at h ⊢
  rw [e 177 (by decide) (by decide), e 178 (by decide) (by decide), e 179 (by decide) (by decide), e 180 (by decide) (by decide), e 181 (by decide) (by decide), e 182 (by decide) (by decide), e 183 (by decide) (by decide), e 185 (by decide) (by decide), e 186 (by decide) (by decide), e 187 (by decide) (by decide), e 188 (by decide) (by decide), e 189 (by decide) (by decide), e 190 (by decide) (by decide), e 191 (by decide) (by decide), e 192 (by decide) (by decide), e 193 (by decide) (by decide)]
  exact h
theorem Mlk.ag (h : Mlk F K) (e : ∀ q, 177 ≤ q → q < 194 → F' q = F q) : Mlk F' K := fun l hl => ⟨fun z => by
  rw [e 177 (by decide) (by decide), e 185 (by decide) (by decide), e 186 (by decide) (by decide), e 187 (by decide) (by decide), e 189 (by decide) (by decide)]
  exact (h l hl).1 z, fun k hk => ((h l hl).2 k hk).ag e⟩
/-- a frame is made -/
theorem ML.mk {m : Nat} {gc x2 : Nat → Int32} (h : ML F v L) (hf : f < 400) (hu : F 196 f = 0) (hW : Wr (fu (fu F 196 (upd (F 196) f 1)) 195 (upd (F 195) f (nI m))) f gc F') (hm : 64 ≤ m ∧ m ≤ 200) (hb : byt gc 200) (hx : ∀ j, j < m → gc j = x2 j) : ML F' (fun q => if q = f then 2000 else v q) L ∧ RX F' (fun q => if q = f then 2000 else v q) f 2000 (m, x2) := by
  obtain ⟨w1, w2, w3⟩ := hW
  have e5 : F' 195 = upd (F 195) f (nI m) := by rw [w1 195 (by decide), fu_s]
  have e6 : F' 196 = upd (F 196) f 1 := by rw [w1 196 (by decide), fu_n (by decide), fu_s]
  refine ⟨h.ag (fun q z1 z2 => by rw [w1 q (by omega), fu_n (by omega), fu_n (by omega)]) (fun f' a1 a2 a3 => ?_), hf, if_pos rfl, by rw [e6, pk_us]; decide, by rw [e5, pk_us], hm, gc, w3, hb, hx⟩
  have hne : f' ≠ f := fun z => a2 (by rw [z]; exact hu)
  exact ⟨by rw [e6, pk_un hne], by rw [e5, pk_un hne], fun k hk => by rw [w2 _ (by omega), fu_n (by decide), fu_n (by decide)], if_neg hne⟩
/-- other frames in hand stay -/
theorem RX.mk {m c f' : Nat} {gc : Nat → Int32} {y : AF} (h : RX F v f' c y) (hu : F 196 f = 0) (hW : Wr (fu (fu F 196 (upd (F 196) f 1)) 195 (upd (F 195) f (nI m))) f gc F') : RX F' (fun q => if q = f then 2000 else v q) f' c y := by
  obtain ⟨w1, w2, w3⟩ := hW
  have e5 : F' 195 = upd (F 195) f (nI m) := by rw [w1 195 (by decide), fu_s]
  have e6 : F' 196 = upd (F 196) f 1 := by rw [w1 196 (by decide), fu_n (by decide), fu_s]
  have hne : f' ≠ f := fun z => h.2.2.1 (by rw [z]; exact hu)
  exact h.ag ⟨by rw [e6, pk_un hne], by rw [e5, pk_un hne], fun k hk => by rw [w2 _ (by omega), fu_n (by decide), fu_n (by decide)], if_neg hne⟩
theorem py_val {g dg : Nat → Int32} : ∀ (m k : Nat), py g dg m k = if 34 ≤ k ∧ k < 34 + m then dg (k - 34) &&& 255 else g k
  | 0, k => by rw [if_neg (by omega)]; rfl
  | m + 1, k => by
    show ub (py g dg m) (34 + m) (dg m) k = _
    by_cases c : k = 34 + m
    · rw [c, ub_s, if_pos (by omega), show 34 + m - 34 = m by omega]
    · rw [ub_ne c, py_val m k]
      by_cases c2 : 34 ≤ k ∧ k < 34 + m
      · rw [if_pos c2, if_pos (by omega)]
      · rw [if_neg c2, if_neg (by omega)]
theorem sma_cg {g g' : Nat → Int32} (h : ∀ k, k < 34 → g k = g' k) : ∀ j, j ≤ 10 → sma g j = sma g' j
  | 0, _ => rfl
  | j + 1, hj => by
    rw [sma, sma, sma_cg h j (by omega)]
    unfold pa
    rw [h (14 + 2 * j) (by omega), h (14 + 2 * j + 1) (by omega)]
theorem smc_cg {g g' : Nat → Int32} (h : ∀ k, k < 34 → g k = g' k) : smc g = smc g' := by
  unfold smc
  rw [sma_cg h 10 (Nat.le_refl _)]
/-- the sum put before or behind the payload -/
theorem sel_eq {nt e l pl mo : Int32} {len q m : Nat} {dg : Nat → Int32} {s : Int32} (hl : len ≤ 161) (hq : q < 65536) (hm : m ≤ len) : sel1 (fsz len) (py (tel (bgn l e nt (nI len)) (nI q) pl mo) dg m) s = ub (py (frc nt e l (nI len) (nI q) pl mo) dg m) (fsz len - 5) s := by
  have hg := fsz_ge len
  have he := hdr_eq (nt := nt) (e := e) (l := l) (pl := pl) (mo := mo) hl hq
  have e1 : tel (bgn l e nt (nI len)) (nI q) pl mo = hdr nt e l (nI len) (nI q) pl mo := funext he
  obtain ⟨s1, s, hs, s2⟩ := sum_eq (g := hdr nt e l (nI len) (nI q) pl mo) byt_hdr
  have ec : smc (py (hdr nt e l (nI len) (nI q) pl mo) dg m) = smc (hdr nt e l (nI len) (nI q) pl mo) := smc_cg (fun k hk => by rw [py_val, if_neg (by omega)])
  have ed : smc (hdr nt e l (nI len) (nI q) pl mo) >>> ((8 : Int32) &&& 31) = smc (hdr nt e l (nI len) (nI q) pl mo) / 256 := by
    rw [s2, pk_shrN (by omega) ((8 : Int32) &&& 31) 8 (by decide), show (256 : Int32) = nI 256 from rfl, pk_div (by omega) (by decide) (by decide)]
  unfold sel1 frc
  rw [e1, ec, s1, ed]
  funext k
  by_cases c : k = fsz len - 5
  · rw [c, ub_s, ub_s]
  · rw [ub_ne c, ub_ne c, py_val]
    by_cases c2 : 34 ≤ k ∧ k < 34 + m
    · rw [if_pos c2, ub_ne (by omega), ub_ne (by omega), py_val, if_pos c2]
    · rw [if_neg c2]
      by_cases c3 : k = 25
      · rw [c3, ub_s, ub_s]
      · rw [ub_ne c3, ub_ne c3]
        by_cases c4 : k = 24
        · rw [c4, ub_s, ub_s]
        · rw [ub_ne c4, ub_ne c4, py_val, if_neg c2]
theorem fsz_i {len : Nat} (h : len ≤ 161) : (if (64 : Int32) ≤ nI len + 39 then nI len + 39 else 64) = nI (fsz len) := by
  have e : nI len + 39 = nI (len + 39) := nI_add len 39
  rw [e]
  unfold fsz
  by_cases c : len + 39 < 64
  · have hn : ¬ (64 : Int32) ≤ nI (len + 39) := nI_ge (b := 64) c (by decide)
    rw [if_pos c, if_neg hn]
    rfl
  · have hn : (64 : Int32) ≤ nI (len + 39) := nI_le (a := 64) (b := len + 39) (by omega) (by omega)
    rw [if_neg c, if_pos hn]
theorem fol_eq {s : Int32} (h : rg s 256) : s - s / 255 * 255 + 1 = fol s := by
  obtain ⟨n, hn, rfl⟩ := h
  have e : nI n - nI n / 255 * 255 = nI (n % 255) := pk_rem (d := 255) (by omega) (by decide) (by decide)
  rw [e, nI_1]
  unfold fol
  by_cases c : n = 255
  · rw [c, if_pos (by rfl)]
    rfl
  · have hne : ¬ nI n = (255 : Int32) := fun z => c ((nI_eq (b := 255) (by omega) (by decide)).mp z)
    rw [if_neg hne, nI_1, Nat.mod_eq_of_lt (by omega)]
theorem ub_cg {g : Nat → Int32} {j : Nat} {y z : Int32} (h : y &&& 255 = z &&& 255) : ub g j y = ub g j z := by
  unfold ub
  rw [h]
end S8
end SY8
