section FZ
def fz1 : ae_S := fzs fz1o
def fz2o : Option (ae_S × ae_O) := ae_ev am atc rz 7 3000 95 [.ref 176] ((fz1.1.1 + 1, fz1.1.2 + 41), fz1.2 ++ [.inr (8, cd_Model)])
def fz2 : ae_S := fzs fz2o
def fz3 : ae_S := ((fz2.1.1 + 1, fz2.1.2 + 1), fz2.2 ++ [.inl (3, ae_zero 3 1)])
def vo (σ : ae_S) (p ci : Nat) (fs : List Value) : Bool := match σ.2[p]? with
  | some (.inr (c, f)) => c == ci && decide (f = fs)
  | _ => false
theorem vo_eq {σ : ae_S} {p ci : Nat} {fs : List Value} (h : vo σ p ci fs = true) : σ.2[p]? = some (.inr (ci, fs)) := by
  unfold vo at h
  split at h
  · rename_i c f he
    rw [Bool.and_eq_true] at h
    rw [he, beq_iff_eq.mp h.1, of_decide_eq_true h.2]
  · cases h
def vi (σ : ae_S) (p t n m : Nat) (c : Nat → Int32) : Bool := match σ.2[p]? with
  | some (.inl (t', n', .inl f)) => t' == t && n' == n && (List.range m).all (fun j => f j == c j)
  | _ => false
theorem vi_eq {σ : ae_S} {p t n m : Nat} {c : Nat → Int32} (h : vi σ p t n m c = true) : ∃ f, σ.2[p]? = some (.inl (t, n, .inl f)) ∧ ∀ j, j < m → f j = c j := by
  unfold vi at h
  split at h
  · rename_i t' n' f he
    rw [Bool.and_eq_true, Bool.and_eq_true] at h
    refine ⟨f, by rw [he, beq_iff_eq.mp h.1.1, beq_iff_eq.mp h.1.2], fun j hj => ?_⟩
    exact beq_iff_eq.mp (List.all_eq_true.mp h.2 j (List.mem_range.mpr hj))
  · cases h
def vq (σ : ae_S) (p t n m : Nat) (c : Nat → Option Nat) : Bool := match σ.2[p]? with
  | some (.inl (t', n', .inr (.inr (.inr (.inr f))))) => t' == t && n' == n && (List.range m).all (fun j => f j == c j)
  | _ => false
theorem vq_eq {σ : ae_S} {p t n m : Nat} {c : Nat → Option Nat} (h : vq σ p t n m c = true) : ∃ f, σ.2[p]? = some (.inl (t, n, .inr (.inr (.inr (.inr f))))) ∧ ∀ j, j < m → f j = c j := by
  unfold vq at h
  split at h
  · rename_i t' n' f he
    rw [Bool.and_eq_true, Bool.and_eq_true] at h
    refine ⟨f, by rw [he, beq_iff_eq.mp h.1.1, beq_iff_eq.mp h.1.2], fun j hj => ?_⟩
    exact beq_iff_eq.mp (List.all_eq_true.mp h.2 j (List.mem_range.mpr hj))
  · cases h
/-- the fields of the reference -/
def rf_M (code time given : Int32) : List Value := [.int code, .int time, .ref 177, .ref 178, .ref 179, .ref 180, .ref 181, .ref 182, .ref 183, .ref 184, .ref 185, .ref 186, .ref 187, .ref 188, .ref 189, .ref 190, .ref 191, .ref 192, .ref 193, .ref 194, .ref 195, .ref 196, .ref 197, .ref 198, .ref 199, .ref 200, .ref 201, .ref 202, .ref 203, .ref 204, .ref 205, .ref 206, .ref 207, .ref 208, .ref 209, .ref 210, .ref 211, .ref 212, .ref 213, .ref 214, .int given]
def ln_F (i : Nat) : List Value := [.ref (11 + 7 * i), .ref (13 + 7 * i), .int (if i % 12 < 4 then 1 else 0), .ref (9 + 7 * i), .int 0, .int 0, .int 0, .int 0, .int 0]
def vline (σ : ae_S) (i : Nat) : Bool := vo σ (8 + 7 * i) 3 (ln_F i) && vo σ (9 + 7 * i) 2 [.ref (10 + 7 * i), .int 0] && vi σ (10 + 7 * i) 1 200 200 (fun _ => 0) && vo σ (11 + 7 * i) 6 [.ref (12 + 7 * i), .int 0, .int 0] && vq σ (12 + 7 * i) 6 (if i % 12 < 4 then 16 else 4) 16 (fun _ => none) && vo σ (13 + 7 * i) 6 [.ref (14 + 7 * i), .int 0, .int 0] && vq σ (14 + 7 * i) 6 (if i % 12 < 4 then 0 else 4) 4 (fun _ => none)
def rf_A : List (Nat × Nat × Nat × Nat × Int32) := [(177, 2, 8, 8, 0), (178, 2, 8, 8, 0), (179, 2, 8, 8, 0), (180, 0, 8, 8, 0), (181, 0, 8, 8, 0), (182, 0, 8, 8, 0), (183, 0, 8, 8, 0), (184, 0, 8, 8, 0), (185, 0, 8, 8, 0), (186, 0, 8, 8, 0), (187, 0, 8, 8, 0), (188, 0, 16, 16, 0), (189, 0, 8, 8, 0), (190, 0, 64, 64, 0), (191, 0, 64, 64, 0), (192, 0, 64, 64, 0), (193, 0, 64, 64, 0), (194, 0, 80000, 0, 0), (195, 0, 400, 0, 0), (196, 2, 400, 400, 0), (197, 0, 768, 0, 0), (198, 0, 48, 48, 0), (199, 0, 24, 24, (-1)), (200, 0, 24, 24, 0), (201, 0, 24, 24, 0), (202, 0, 24, 24, (-1)), (203, 0, 64, 64, (-1)), (204, 0, 32, 32, (-1)), (205, 0, 32, 32, 0), (206, 0, 32, 32, (-1)), (207, 0, 32, 32, 0), (208, 0, 32000, 0, 0), (209, 0, 32, 32, 0), (210, 0, 128, 0, 0), (211, 0, 128000, 0, 0), (212, 0, 32, 32, 0), (213, 0, 12, 12, 0), (214, 0, 1000, 0, 0)]
def vall (σ : ae_S) : Bool := decide (σ.1 = (216, 250236)) && σ.2.length == 216 && vo σ 0 7 [.ref 1, .ref 2, .ref 3, .ref 4, .ref 6, .int 0] && vq σ 1 4 8 8 (fun _ => none) && vq σ 2 5 24 24 (fun j => some (8 + 7 * j)) && vi σ 3 0 12 12 (fun _ => 0) && vo σ 4 2 [.ref 5, .int 0] && vi σ 5 1 200 200 (fun _ => 0) && vo σ 6 0 [.ref 7, .int 0] && vi σ 7 1 1000 0 (fun _ => 0) && (List.range 24).all (vline σ) && vo σ 176 8 (rf_M 0 0 0) && rf_A.all (fun q => vi σ q.1 q.2.1 q.2.2.1 q.2.2.2.1 (fun _ => q.2.2.2.2))
theorem fz1_len : fz1.2.length = 176 := by decide +kernel
theorem fz2_ok : fzv fz2o = true ∧ fz2.2.length = 215 := by decide +kernel
theorem fz3_ok : vall fz3 = true := by decide +kernel
end FZ
