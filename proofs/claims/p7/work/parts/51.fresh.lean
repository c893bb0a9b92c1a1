section FRA
/-- a run of methods that never touch what is only read: closed, so that the kernel can do it -/
def rz : ae_R := fun _ => (0, fun _ => 0)
def o_lenc (np : Nat) : ae_Op := fun _ σ L k => match k with
  | .ref p :: r => match σ.2[p]? with
    | some (.inl (t, n, _)) => if t < 10 then some (σ, L, .int (Int32.ofNat n) :: r, np) else none
    | _ => none
  | _ => none
theorem mo_len {np : Nat} {ra : ae_R} {σ : ae_S} {L : ae_Ls} {k : List Value} {c : ae_S × ae_Ls × List Value × Nat} (h : o_lenc np rz σ L k = some c) : o_len np ra σ L k = some c := by
  unfold o_lenc at h
  split at h
  · exact h
  · cases h
def mo_i (i : ae_I) (o' : Option ae_I) : Prop := match i with
  | .inl f => ∃ f', o' = some (.inl f') ∧ ∀ (ra : ae_R) (σ : ae_S) (L : ae_Ls) (k : List Value) (c : ae_S × ae_Ls × List Value × Nat), f rz σ L k = some c → f' ra σ L k = some c
  | .inr j => o' = some (.inr j)
theorem mo_run {ra : ae_R} {t t' : List (Nat × ae_I)} {E E' : ae_Ev} {th : Bool} (ht : ∀ q ∈ t, mo_i q.2 (ae_tab t' q.1)) (hE : ∀ mid args σ r, E mid args σ = some r → E' mid args σ = some r) :
    ∀ (n : Nat) (σ : ae_S) (L : ae_Ls) (k : List Value) (pc : Nat) (r : ae_S × ae_O), ae_run rz t E th n σ L k pc = some r → ae_run ra t' E' th n σ L k pc = some r := by
  intro n
  induction n with
  | zero => intro σ L k pc r h; cases h
  | succ n ih =>
    intro σ L k pc r h
    unfold ae_run at h ⊢
    cases hq : ae_tab t pc with
    | none => rw [hq] at h; cases h
    | some i =>
      have hm := ht _ (ae_tab_mem hq)
      rw [hq] at h
      cases i with
      | inl f =>
        obtain ⟨f', e1, e2⟩ := hm
        rw [e1]
        simp only at h ⊢
        cases hf : f rz σ L k with
        | none => rw [hf] at h; cases h
        | some c =>
          rw [hf] at h
          rw [e2 ra σ L k c hf]
          exact ih _ _ _ _ _ h
      | inr j =>
        have e1 : ae_tab t' pc = some (.inr j) := hm
        rw [e1]
        rcases j with (_ | ok) | (⟨mid, na, np, rc, hs⟩ | ⟨x, c1, c2⟩)
        · exact h
        · exact h
        · simp only at h ⊢
          split at h
          · rename_i hc
            rw [if_pos hc]
            cases hev : E mid (k.take na).reverse σ with
            | none => rw [hev] at h; cases h
            | some q =>
              rw [hev] at h
              rw [hE _ _ _ _ hev]
              obtain ⟨σ', v | x⟩ := q
              · exact ih _ _ _ _ _ h
              · simp only at h ⊢
                split at h
                · cases h
                · rename_i y hp i hfd
                  exact ih _ _ _ _ _ h
          · cases h
        · exact h
theorem mo_ev {atc : ae_At} (ha : ∀ mid, ∀ q ∈ atc mid, mo_i q.2 (ae_tab (at0 mid) q.1)) (ra : ae_R) : ∀ (d n mid : Nat) (args : List Value) (σ : ae_S) (r : ae_S × ae_O), ae_ev am atc rz d n mid args σ = some r → ae_ev am at0 ra d n mid args σ = some r := by
  intro d
  induction d with
  | zero => intro n mid args σ r h; cases h
  | succ d ih =>
    intro n mid args σ r h
    unfold ae_ev at h ⊢
    split at h
    · rename_i hl
      rw [if_pos hl]
      exact mo_run (ha mid) (fun m a s q hq => ih n m a s q hq) n _ _ _ _ _ h
    · cases h
/-- more fuel does no harm -/
theorem fu_run {ra : ae_R} {t : List (Nat × ae_I)} {E E' : ae_Ev} {th : Bool} (hE : ∀ mid args σ r, E mid args σ = some r → E' mid args σ = some r) :
    ∀ (n n' : Nat), n ≤ n' → ∀ (σ : ae_S) (L : ae_Ls) (k : List Value) (pc : Nat) (r : ae_S × ae_O), ae_run ra t E th n σ L k pc = some r → ae_run ra t E' th n' σ L k pc = some r := by
  intro n
  induction n with
  | zero => intro n' _ σ L k pc r h; cases h
  | succ n ih =>
    intro n' hn σ L k pc r h
    obtain ⟨m, rfl⟩ : ∃ m, n' = m + 1 := ⟨n' - 1, by omega⟩
    have ih := ih m (by omega)
    unfold ae_run at h ⊢
    cases hq : ae_tab t pc with
    | none => rw [hq] at h; cases h
    | some i =>
      rw [hq] at h
      cases i with
      | inl f =>
        simp only at h ⊢
        cases hf : f ra σ L k with
        | none => rw [hf] at h; cases h
        | some c =>
          rw [hf] at h
          exact ih _ _ _ _ _ h
      | inr j =>
        rcases j with (_ | ok) | (⟨mid, na, np, rc, hs⟩ | ⟨x, c1, c2⟩)
        · exact h
        · exact h
        · simp only at h ⊢
          split at h
          · rename_i hc
            rw [if_pos hc]
            cases hev : E mid (k.take na).reverse σ with
            | none => rw [hev] at h; cases h
            | some q =>
              rw [hev] at h
              rw [hE _ _ _ _ hev]
              obtain ⟨σ', v | x⟩ := q
              · exact ih _ _ _ _ _ h
              · simp only at h ⊢
                split at h
                · cases h
                · rename_i y hp i hfd
                  exact ih _ _ _ _ _ h
          · cases h
        · exact h
theorem fu_ev (ra : ae_R) : ∀ (d n n' mid : Nat), n ≤ n' → ∀ (args : List Value) (σ : ae_S) (r : ae_S × ae_O), ae_ev am at0 ra d n mid args σ = some r → ae_ev am at0 ra d n' mid args σ = some r := by
  intro d
  induction d with
  | zero => intro n n' mid _ args σ r h; cases h
  | succ d ih =>
    intro n n' mid hn args σ r h
    unfold ae_ev at h ⊢
    split at h
    · rename_i hl
      rw [if_pos hl]
      exact fu_run (fun m a s q hq => ih n n' m hn a s q hq) n n' hn _ _ _ _ _ h
    · cases h
theorem gE_of {ra : ae_R} {d n mid : Nat} {args : List Value} {σ : ae_S} {r : ae_S × ae_O} (h : ae_ev am at0 ra d n mid args σ = some r) : gE ra d mid args σ r := ⟨n, fun m hm => fu_ev ra d n m mid hm args σ r h⟩
end FRA
section FRB
def tc_1 : List (Nat × ae_I) := [(0, .inl (o_al 0 1)),
  (1, .inl (o_oi 4)),
  (4, .inl (o_al 0 5)),
  (5, .inl (o_push (.int 8) 7)),
  (7, .inl (o_nq 4 10)),
  (10, .inl (o_put 7 0 k_ref 13)),
  (13, .inl (o_al 0 14)),
  (14, .inl (o_push (.int 24) 16)),
  (16, .inl (o_nq 5 19)),
  (19, .inl (o_put 7 1 k_ref 22)),
  (22, .inl (o_al 0 23)),
  (23, .inl (o_push (.int 12) 25)),
  (25, .inl (o_na 0 27)),
  (27, .inl (o_put 7 2 k_ref 30)),
  (30, .inl (o_al 0 31)),
  (31, .inl (o_new 2 2 cd_Frame 34)),
  (34, .inl (o_dup 35)),
  (35, .inr (.inr (.inl (2, 1, 38, some 2, [])))),
  (38, .inl (o_put 7 3 k_ref 41)),
  (41, .inl (o_al 0 42)),
  (42, .inl (o_new 0 2 cd_Datagram 45)),
  (45, .inl (o_dup 46)),
  (46, .inr (.inr (.inl (3, 1, 49, some 0, [])))),
  (49, .inl (o_put 7 4 k_ref 52)),
  (52, .inl (o_al 0 53)),
  (53, .inl (o_push (.int 0) 54)),
  (54, .inl (o_put 7 5 k_int 57)),
  (57, .inl (o_push (.int 0) 58)),
  (58, .inl (o_is 1 59)),
  (59, .inl (o_il 1 60)),
  (60, .inl (o_al 0 61)),
  (61, .inl (o_get 7 1 64)),
  (64, .inl (o_lenc 65)),
  (65, .inl (o_ic (fun x y => decide (y ≤ x)) 100 68)),
  (68, .inl (o_al 0 69)),
  (69, .inl (o_get 7 1 72)),
  (72, .inl (o_il 1 73)),
  (73, .inl (o_new 3 9 cd_Line 76)),
  (76, .inl (o_dup 77)),
  (77, .inl (o_il 1 78)),
  (78, .inl (o_push (.int 12) 80)),
  (80, .inl (o_dv (fun x y => x - x / y * y) 81)),
  (81, .inl (o_push (.int 4) 82)),
  (82, .inl (o_ic (fun x y => decide (y ≤ x)) 89 85)),
  (85, .inl (o_push (.int 1) 86)),
  (86, .inl (o_goto 90)),
  (89, .inl (o_push (.int 0) 90)),
  (90, .inr (.inr (.inl (4, 2, 93, some 3, [])))),
  (93, .inl (o_aas 94)),
  (94, .inl (o_inc 1 1 97)),
  (97, .inl (o_goto 59)),
  (100, .inr (.inl none))]
theorem mt_1 : ∀ q ∈ tc_1, mo_i q.2 (ae_tab (at0 1) q.1) := by
  unfold tc_1
  refine List.forall_mem_cons.mpr ⟨⟨_, rfl, fun _ _ _ _ _ h => h⟩, ?_⟩
  refine List.forall_mem_cons.mpr ⟨⟨_, rfl, fun _ _ _ _ _ h => h⟩, ?_⟩
  refine List.forall_mem_cons.mpr ⟨⟨_, rfl, fun _ _ _ _ _ h => h⟩, ?_⟩
  refine List.forall_mem_cons.mpr ⟨⟨_, rfl, fun _ _ _ _ _ h => h⟩, ?_⟩
  refine List.forall_mem_cons.mpr ⟨⟨_, rfl, fun _ _ _ _ _ h => h⟩, ?_⟩
  refine List.forall_mem_cons.mpr ⟨⟨_, rfl, fun _ _ _ _ _ h => h⟩, ?_⟩
  refine List.forall_mem_cons.mpr ⟨⟨_, rfl, fun _ _ _ _ _ h => h⟩, ?_⟩
  refine List.forall_mem_cons.mpr ⟨⟨_, rfl, fun _ _ _ _ _ h => h⟩, ?_⟩
  refine List.forall_mem_cons.mpr ⟨⟨_, rfl, fun _ _ _ _ _ h => h⟩, ?_⟩
  refine List.forall_mem_cons.mpr ⟨⟨_, rfl, fun _ _ _ _ _ h => h⟩, ?_⟩
  refine List.forall_mem_cons.mpr ⟨⟨_, rfl, fun _ _ _ _ _ h => h⟩, ?_⟩
  refine List.forall_mem_cons.mpr ⟨⟨_, rfl, fun _ _ _ _ _ h => h⟩, ?_⟩
  refine List.forall_mem_cons.mpr ⟨⟨_, rfl, fun _ _ _ _ _ h => h⟩, ?_⟩
  refine List.forall_mem_cons.mpr ⟨⟨_, rfl, fun _ _ _ _ _ h => h⟩, ?_⟩
  refine List.forall_mem_cons.mpr ⟨⟨_, rfl, fun _ _ _ _ _ h => h⟩, ?_⟩
  refine List.forall_mem_cons.mpr ⟨⟨_, rfl, fun _ _ _ _ _ h => h⟩, ?_⟩
  refine List.forall_mem_cons.mpr ⟨⟨_, rfl, fun _ _ _ _ _ h => h⟩, ?_⟩
  refine List.forall_mem_cons.mpr ⟨rfl, ?_⟩
  refine List.forall_mem_cons.mpr ⟨⟨_, rfl, fun _ _ _ _ _ h => h⟩, ?_⟩
  refine List.forall_mem_cons.mpr ⟨⟨_, rfl, fun _ _ _ _ _ h => h⟩, ?_⟩
  refine List.forall_mem_cons.mpr ⟨⟨_, rfl, fun _ _ _ _ _ h => h⟩, ?_⟩
  refine List.forall_mem_cons.mpr ⟨⟨_, rfl, fun _ _ _ _ _ h => h⟩, ?_⟩
  refine List.forall_mem_cons.mpr ⟨rfl, ?_⟩
  refine List.forall_mem_cons.mpr ⟨⟨_, rfl, fun _ _ _ _ _ h => h⟩, ?_⟩
  refine List.forall_mem_cons.mpr ⟨⟨_, rfl, fun _ _ _ _ _ h => h⟩, ?_⟩
  refine List.forall_mem_cons.mpr ⟨⟨_, rfl, fun _ _ _ _ _ h => h⟩, ?_⟩
  refine List.forall_mem_cons.mpr ⟨⟨_, rfl, fun _ _ _ _ _ h => h⟩, ?_⟩
  refine List.forall_mem_cons.mpr ⟨⟨_, rfl, fun _ _ _ _ _ h => h⟩, ?_⟩
  refine List.forall_mem_cons.mpr ⟨⟨_, rfl, fun _ _ _ _ _ h => h⟩, ?_⟩
  refine List.forall_mem_cons.mpr ⟨⟨_, rfl, fun _ _ _ _ _ h => h⟩, ?_⟩
  refine List.forall_mem_cons.mpr ⟨⟨_, rfl, fun _ _ _ _ _ h => h⟩, ?_⟩
  refine List.forall_mem_cons.mpr ⟨⟨_, rfl, fun _ _ _ _ _ h => h⟩, ?_⟩
  refine List.forall_mem_cons.mpr ⟨⟨_, rfl, fun _ _ _ _ _ h => mo_len h⟩, ?_⟩
  refine List.forall_mem_cons.mpr ⟨⟨_, rfl, fun _ _ _ _ _ h => h⟩, ?_⟩
  refine List.forall_mem_cons.mpr ⟨⟨_, rfl, fun _ _ _ _ _ h => h⟩, ?_⟩
  refine List.forall_mem_cons.mpr ⟨⟨_, rfl, fun _ _ _ _ _ h => h⟩, ?_⟩
  refine List.forall_mem_cons.mpr ⟨⟨_, rfl, fun _ _ _ _ _ h => h⟩, ?_⟩
  refine List.forall_mem_cons.mpr ⟨⟨_, rfl, fun _ _ _ _ _ h => h⟩, ?_⟩
  refine List.forall_mem_cons.mpr ⟨⟨_, rfl, fun _ _ _ _ _ h => h⟩, ?_⟩
  refine List.forall_mem_cons.mpr ⟨⟨_, rfl, fun _ _ _ _ _ h => h⟩, ?_⟩
  refine List.forall_mem_cons.mpr ⟨⟨_, rfl, fun _ _ _ _ _ h => h⟩, ?_⟩
  refine List.forall_mem_cons.mpr ⟨⟨_, rfl, fun _ _ _ _ _ h => h⟩, ?_⟩
  refine List.forall_mem_cons.mpr ⟨⟨_, rfl, fun _ _ _ _ _ h => h⟩, ?_⟩
  refine List.forall_mem_cons.mpr ⟨⟨_, rfl, fun _ _ _ _ _ h => h⟩, ?_⟩
  refine List.forall_mem_cons.mpr ⟨⟨_, rfl, fun _ _ _ _ _ h => h⟩, ?_⟩
  refine List.forall_mem_cons.mpr ⟨⟨_, rfl, fun _ _ _ _ _ h => h⟩, ?_⟩
  refine List.forall_mem_cons.mpr ⟨⟨_, rfl, fun _ _ _ _ _ h => h⟩, ?_⟩
  refine List.forall_mem_cons.mpr ⟨rfl, ?_⟩
  refine List.forall_mem_cons.mpr ⟨⟨_, rfl, fun _ _ _ _ _ h => h⟩, ?_⟩
  refine List.forall_mem_cons.mpr ⟨⟨_, rfl, fun _ _ _ _ _ h => h⟩, ?_⟩
  refine List.forall_mem_cons.mpr ⟨⟨_, rfl, fun _ _ _ _ _ h => h⟩, ?_⟩
  refine List.forall_mem_cons.mpr ⟨rfl, ?_⟩
  exact fun _ h => absurd h List.not_mem_nil
def tc_2 : List (Nat × ae_I) := [(0, .inl (o_al 0 1)),
  (1, .inl (o_oi 4)),
  (4, .inl (o_al 0 5)),
  (5, .inl (o_push (.int 200) 8)),
  (8, .inl (o_na 1 10)),
  (10, .inl (o_put 2 0 k_ref 13)),
  (13, .inl (o_al 0 14)),
  (14, .inl (o_push (.int 0) 15)),
  (15, .inl (o_put 2 1 k_int 18)),
  (18, .inr (.inl none))]
theorem mt_2 : ∀ q ∈ tc_2, mo_i q.2 (ae_tab (at0 2) q.1) := by
  unfold tc_2
  refine List.forall_mem_cons.mpr ⟨⟨_, rfl, fun _ _ _ _ _ h => h⟩, ?_⟩
  refine List.forall_mem_cons.mpr ⟨⟨_, rfl, fun _ _ _ _ _ h => h⟩, ?_⟩
  refine List.forall_mem_cons.mpr ⟨⟨_, rfl, fun _ _ _ _ _ h => h⟩, ?_⟩
  refine List.forall_mem_cons.mpr ⟨⟨_, rfl, fun _ _ _ _ _ h => h⟩, ?_⟩
  refine List.forall_mem_cons.mpr ⟨⟨_, rfl, fun _ _ _ _ _ h => h⟩, ?_⟩
  refine List.forall_mem_cons.mpr ⟨⟨_, rfl, fun _ _ _ _ _ h => h⟩, ?_⟩
  refine List.forall_mem_cons.mpr ⟨⟨_, rfl, fun _ _ _ _ _ h => h⟩, ?_⟩
  refine List.forall_mem_cons.mpr ⟨⟨_, rfl, fun _ _ _ _ _ h => h⟩, ?_⟩
  refine List.forall_mem_cons.mpr ⟨⟨_, rfl, fun _ _ _ _ _ h => h⟩, ?_⟩
  refine List.forall_mem_cons.mpr ⟨rfl, ?_⟩
  exact fun _ h => absurd h List.not_mem_nil
def tc_3 : List (Nat × ae_I) := [(0, .inl (o_al 0 1)),
  (1, .inl (o_oi 4)),
  (4, .inl (o_al 0 5)),
  (5, .inl (o_push (.int 1000) 8)),
  (8, .inl (o_na 1 10)),
  (10, .inl (o_put 0 0 k_ref 13)),
  (13, .inl (o_al 0 14)),
  (14, .inl (o_push (.int 0) 15)),
  (15, .inl (o_put 0 1 k_int 18)),
  (18, .inr (.inl none))]
theorem mt_3 : ∀ q ∈ tc_3, mo_i q.2 (ae_tab (at0 3) q.1) := by
  unfold tc_3
  refine List.forall_mem_cons.mpr ⟨⟨_, rfl, fun _ _ _ _ _ h => h⟩, ?_⟩
  refine List.forall_mem_cons.mpr ⟨⟨_, rfl, fun _ _ _ _ _ h => h⟩, ?_⟩
  refine List.forall_mem_cons.mpr ⟨⟨_, rfl, fun _ _ _ _ _ h => h⟩, ?_⟩
  refine List.forall_mem_cons.mpr ⟨⟨_, rfl, fun _ _ _ _ _ h => h⟩, ?_⟩
  refine List.forall_mem_cons.mpr ⟨⟨_, rfl, fun _ _ _ _ _ h => h⟩, ?_⟩
  refine List.forall_mem_cons.mpr ⟨⟨_, rfl, fun _ _ _ _ _ h => h⟩, ?_⟩
  refine List.forall_mem_cons.mpr ⟨⟨_, rfl, fun _ _ _ _ _ h => h⟩, ?_⟩
  refine List.forall_mem_cons.mpr ⟨⟨_, rfl, fun _ _ _ _ _ h => h⟩, ?_⟩
  refine List.forall_mem_cons.mpr ⟨⟨_, rfl, fun _ _ _ _ _ h => h⟩, ?_⟩
  refine List.forall_mem_cons.mpr ⟨rfl, ?_⟩
  exact fun _ h => absurd h List.not_mem_nil
def tc_4 : List (Nat × ae_I) := [(0, .inl (o_al 0 1)),
  (1, .inl (o_oi 4)),
  (4, .inl (o_al 0 5)),
  (5, .inl (o_new 2 2 cd_Frame 8)),
  (8, .inl (o_dup 9)),
  (9, .inr (.inr (.inl (2, 1, 12, some 2, [])))),
  (12, .inl (o_put 3 3 k_ref 15)),
  (15, .inl (o_al 0 16)),
  (16, .inl (o_push (.int 0) 17)),
  (17, .inl (o_put 3 4 k_bool 20)),
  (20, .inl (o_al 0 21)),
  (21, .inl (o_push (.int 0) 22)),
  (22, .inl (o_put 3 5 k_int 25)),
  (25, .inl (o_al 0 26)),
  (26, .inl (o_push (.int 0) 27)),
  (27, .inl (o_put 3 6 k_bool 30)),
  (30, .inl (o_al 0 31)),
  (31, .inl (o_push (.int 0) 32)),
  (32, .inl (o_put 3 7 k_int 35)),
  (35, .inl (o_al 0 36)),
  (36, .inl (o_push (.int 0) 37)),
  (37, .inl (o_put 3 8 k_int 40)),
  (40, .inl (o_al 0 41)),
  (41, .inl (o_il 1 42)),
  (42, .inl (o_put 3 2 k_bool 45)),
  (45, .inl (o_al 0 46)),
  (46, .inl (o_new 6 3 cd_Row 49)),
  (49, .inl (o_dup 50)),
  (50, .inl (o_il 1 51)),
  (51, .inl (o_if (fun x => decide (x = 0)) 59 54)),
  (54, .inl (o_push (.int 16) 56)),
  (56, .inl (o_goto 60)),
  (59, .inl (o_push (.int 4) 60)),
  (60, .inr (.inr (.inl (5, 2, 63, some 6, [])))),
  (63, .inl (o_put 3 0 k_ref 66)),
  (66, .inl (o_al 0 67)),
  (67, .inl (o_new 6 3 cd_Row 70)),
  (70, .inl (o_dup 71)),
  (71, .inl (o_il 1 72)),
  (72, .inl (o_if (fun x => decide (x = 0)) 79 75)),
  (75, .inl (o_push (.int 0) 76)),
  (76, .inl (o_goto 80)),
  (79, .inl (o_push (.int 4) 80)),
  (80, .inr (.inr (.inl (5, 2, 83, some 6, [])))),
  (83, .inl (o_put 3 1 k_ref 86)),
  (86, .inr (.inl none))]
theorem mt_4 : ∀ q ∈ tc_4, mo_i q.2 (ae_tab (at0 4) q.1) := by
  unfold tc_4
  refine List.forall_mem_cons.mpr ⟨⟨_, rfl, fun _ _ _ _ _ h => h⟩, ?_⟩
  refine List.forall_mem_cons.mpr ⟨⟨_, rfl, fun _ _ _ _ _ h => h⟩, ?_⟩
  refine List.forall_mem_cons.mpr ⟨⟨_, rfl, fun _ _ _ _ _ h => h⟩, ?_⟩
  refine List.forall_mem_cons.mpr ⟨⟨_, rfl, fun _ _ _ _ _ h => h⟩, ?_⟩
  refine List.forall_mem_cons.mpr ⟨⟨_, rfl, fun _ _ _ _ _ h => h⟩, ?_⟩
  refine List.forall_mem_cons.mpr ⟨rfl, ?_⟩
  refine List.forall_mem_cons.mpr ⟨⟨_, rfl, fun _ _ _ _ _ h => h⟩, ?_⟩
  refine List.forall_mem_cons.mpr ⟨⟨_, rfl, fun _ _ _ _ _ h => h⟩, ?_⟩
  refine List.forall_mem_cons.mpr ⟨⟨_, rfl, fun _ _ _ _ _ h => h⟩, ?_⟩
  refine List.forall_mem_cons.mpr ⟨⟨_, rfl, fun _ _ _ _ _ h => h⟩, ?_⟩
  refine List.forall_mem_cons.mpr ⟨⟨_, rfl, fun _ _ _ _ _ h => h⟩, ?_⟩
  refine List.forall_mem_cons.mpr ⟨⟨_, rfl, fun _ _ _ _ _ h => h⟩, ?_⟩
  refine List.forall_mem_cons.mpr ⟨⟨_, rfl, fun _ _ _ _ _ h => h⟩, ?_⟩
  refine List.forall_mem_cons.mpr ⟨⟨_, rfl, fun _ _ _ _ _ h => h⟩, ?_⟩
  refine List.forall_mem_cons.mpr ⟨⟨_, rfl, fun _ _ _ _ _ h => h⟩, ?_⟩
  refine List.forall_mem_cons.mpr ⟨⟨_, rfl, fun _ _ _ _ _ h => h⟩, ?_⟩
  refine List.forall_mem_cons.mpr ⟨⟨_, rfl, fun _ _ _ _ _ h => h⟩, ?_⟩
  refine List.forall_mem_cons.mpr ⟨⟨_, rfl, fun _ _ _ _ _ h => h⟩, ?_⟩
  refine List.forall_mem_cons.mpr ⟨⟨_, rfl, fun _ _ _ _ _ h => h⟩, ?_⟩
  refine List.forall_mem_cons.mpr ⟨⟨_, rfl, fun _ _ _ _ _ h => h⟩, ?_⟩
  refine List.forall_mem_cons.mpr ⟨⟨_, rfl, fun _ _ _ _ _ h => h⟩, ?_⟩
  refine List.forall_mem_cons.mpr ⟨⟨_, rfl, fun _ _ _ _ _ h => h⟩, ?_⟩
  refine List.forall_mem_cons.mpr ⟨⟨_, rfl, fun _ _ _ _ _ h => h⟩, ?_⟩
  refine List.forall_mem_cons.mpr ⟨⟨_, rfl, fun _ _ _ _ _ h => h⟩, ?_⟩
  refine List.forall_mem_cons.mpr ⟨⟨_, rfl, fun _ _ _ _ _ h => h⟩, ?_⟩
  refine List.forall_mem_cons.mpr ⟨⟨_, rfl, fun _ _ _ _ _ h => h⟩, ?_⟩
  refine List.forall_mem_cons.mpr ⟨⟨_, rfl, fun _ _ _ _ _ h => h⟩, ?_⟩
  refine List.forall_mem_cons.mpr ⟨⟨_, rfl, fun _ _ _ _ _ h => h⟩, ?_⟩
  refine List.forall_mem_cons.mpr ⟨⟨_, rfl, fun _ _ _ _ _ h => h⟩, ?_⟩
  refine List.forall_mem_cons.mpr ⟨⟨_, rfl, fun _ _ _ _ _ h => h⟩, ?_⟩
  refine List.forall_mem_cons.mpr ⟨⟨_, rfl, fun _ _ _ _ _ h => h⟩, ?_⟩
  refine List.forall_mem_cons.mpr ⟨⟨_, rfl, fun _ _ _ _ _ h => h⟩, ?_⟩
  refine List.forall_mem_cons.mpr ⟨⟨_, rfl, fun _ _ _ _ _ h => h⟩, ?_⟩
  refine List.forall_mem_cons.mpr ⟨rfl, ?_⟩
  refine List.forall_mem_cons.mpr ⟨⟨_, rfl, fun _ _ _ _ _ h => h⟩, ?_⟩
  refine List.forall_mem_cons.mpr ⟨⟨_, rfl, fun _ _ _ _ _ h => h⟩, ?_⟩
  refine List.forall_mem_cons.mpr ⟨⟨_, rfl, fun _ _ _ _ _ h => h⟩, ?_⟩
  refine List.forall_mem_cons.mpr ⟨⟨_, rfl, fun _ _ _ _ _ h => h⟩, ?_⟩
  refine List.forall_mem_cons.mpr ⟨⟨_, rfl, fun _ _ _ _ _ h => h⟩, ?_⟩
  refine List.forall_mem_cons.mpr ⟨⟨_, rfl, fun _ _ _ _ _ h => h⟩, ?_⟩
  refine List.forall_mem_cons.mpr ⟨⟨_, rfl, fun _ _ _ _ _ h => h⟩, ?_⟩
  refine List.forall_mem_cons.mpr ⟨⟨_, rfl, fun _ _ _ _ _ h => h⟩, ?_⟩
  refine List.forall_mem_cons.mpr ⟨⟨_, rfl, fun _ _ _ _ _ h => h⟩, ?_⟩
  refine List.forall_mem_cons.mpr ⟨rfl, ?_⟩
  refine List.forall_mem_cons.mpr ⟨⟨_, rfl, fun _ _ _ _ _ h => h⟩, ?_⟩
  refine List.forall_mem_cons.mpr ⟨rfl, ?_⟩
  exact fun _ h => absurd h List.not_mem_nil
def tc_5 : List (Nat × ae_I) := [(0, .inl (o_al 0 1)),
  (1, .inl (o_oi 4)),
  (4, .inl (o_al 0 5)),
  (5, .inl (o_push (.int 0) 6)),
  (6, .inl (o_put 6 1 k_int 9)),
  (9, .inl (o_al 0 10)),
  (10, .inl (o_push (.int 0) 11)),
  (11, .inl (o_put 6 2 k_int 14)),
  (14, .inl (o_al 0 15)),
  (15, .inl (o_il 1 16)),
  (16, .inl (o_nq 6 19)),
  (19, .inl (o_put 6 0 k_ref 22)),
  (22, .inr (.inl none))]
theorem mt_5 : ∀ q ∈ tc_5, mo_i q.2 (ae_tab (at0 5) q.1) := by
  unfold tc_5
  refine List.forall_mem_cons.mpr ⟨⟨_, rfl, fun _ _ _ _ _ h => h⟩, ?_⟩
  refine List.forall_mem_cons.mpr ⟨⟨_, rfl, fun _ _ _ _ _ h => h⟩, ?_⟩
  refine List.forall_mem_cons.mpr ⟨⟨_, rfl, fun _ _ _ _ _ h => h⟩, ?_⟩
  refine List.forall_mem_cons.mpr ⟨⟨_, rfl, fun _ _ _ _ _ h => h⟩, ?_⟩
  refine List.forall_mem_cons.mpr ⟨⟨_, rfl, fun _ _ _ _ _ h => h⟩, ?_⟩
  refine List.forall_mem_cons.mpr ⟨⟨_, rfl, fun _ _ _ _ _ h => h⟩, ?_⟩
  refine List.forall_mem_cons.mpr ⟨⟨_, rfl, fun _ _ _ _ _ h => h⟩, ?_⟩
  refine List.forall_mem_cons.mpr ⟨⟨_, rfl, fun _ _ _ _ _ h => h⟩, ?_⟩
  refine List.forall_mem_cons.mpr ⟨⟨_, rfl, fun _ _ _ _ _ h => h⟩, ?_⟩
  refine List.forall_mem_cons.mpr ⟨⟨_, rfl, fun _ _ _ _ _ h => h⟩, ?_⟩
  refine List.forall_mem_cons.mpr ⟨⟨_, rfl, fun _ _ _ _ _ h => h⟩, ?_⟩
  refine List.forall_mem_cons.mpr ⟨⟨_, rfl, fun _ _ _ _ _ h => h⟩, ?_⟩
  refine List.forall_mem_cons.mpr ⟨rfl, ?_⟩
  exact fun _ h => absurd h List.not_mem_nil
def tc_95 : List (Nat × ae_I) := [(0, .inl (o_al 0 1)),
  (1, .inl (o_oi 4)),
  (4, .inl (o_al 0 5)),
  (5, .inl (o_push (.int 8) 7)),
  (7, .inl (o_na 2 9)),
  (9, .inl (o_put 8 2 k_ref 12)),
  (12, .inl (o_al 0 13)),
  (13, .inl (o_push (.int 8) 15)),
  (15, .inl (o_na 2 17)),
  (17, .inl (o_put 8 3 k_ref 20)),
  (20, .inl (o_al 0 21)),
  (21, .inl (o_push (.int 8) 23)),
  (23, .inl (o_na 2 25)),
  (25, .inl (o_put 8 4 k_ref 28)),
  (28, .inl (o_al 0 29)),
  (29, .inl (o_push (.int 8) 31)),
  (31, .inl (o_na 0 33)),
  (33, .inl (o_put 8 5 k_ref 36)),
  (36, .inl (o_al 0 37)),
  (37, .inl (o_push (.int 8) 39)),
  (39, .inl (o_na 0 41)),
  (41, .inl (o_put 8 6 k_ref 44)),
  (44, .inl (o_al 0 45)),
  (45, .inl (o_push (.int 8) 47)),
  (47, .inl (o_na 0 49)),
  (49, .inl (o_put 8 7 k_ref 52)),
  (52, .inl (o_al 0 53)),
  (53, .inl (o_push (.int 8) 55)),
  (55, .inl (o_na 0 57)),
  (57, .inl (o_put 8 8 k_ref 60)),
  (60, .inl (o_al 0 61)),
  (61, .inl (o_push (.int 8) 63)),
  (63, .inl (o_na 0 65)),
  (65, .inl (o_put 8 9 k_ref 68)),
  (68, .inl (o_al 0 69)),
  (69, .inl (o_push (.int 8) 71)),
  (71, .inl (o_na 0 73)),
  (73, .inl (o_put 8 10 k_ref 76)),
  (76, .inl (o_al 0 77)),
  (77, .inl (o_push (.int 8) 79)),
  (79, .inl (o_na 0 81)),
  (81, .inl (o_put 8 11 k_ref 84)),
  (84, .inl (o_al 0 85)),
  (85, .inl (o_push (.int 8) 87)),
  (87, .inl (o_na 0 89)),
  (89, .inl (o_put 8 12 k_ref 92)),
  (92, .inl (o_al 0 93)),
  (93, .inl (o_push (.int 16) 95)),
  (95, .inl (o_na 0 97)),
  (97, .inl (o_put 8 13 k_ref 100)),
  (100, .inl (o_al 0 101)),
  (101, .inl (o_push (.int 8) 103)),
  (103, .inl (o_na 0 105)),
  (105, .inl (o_put 8 14 k_ref 108)),
  (108, .inl (o_al 0 109)),
  (109, .inl (o_push (.int 64) 111)),
  (111, .inl (o_na 0 113)),
  (113, .inl (o_put 8 15 k_ref 116)),
  (116, .inl (o_al 0 117)),
  (117, .inl (o_push (.int 64) 119)),
  (119, .inl (o_na 0 121)),
  (121, .inl (o_put 8 16 k_ref 124)),
  (124, .inl (o_al 0 125)),
  (125, .inl (o_push (.int 64) 127)),
  (127, .inl (o_na 0 129)),
  (129, .inl (o_put 8 17 k_ref 132)),
  (132, .inl (o_al 0 133)),
  (133, .inl (o_push (.int 64) 135)),
  (135, .inl (o_na 0 137)),
  (137, .inl (o_put 8 18 k_ref 140)),
  (140, .inl (o_al 0 141)),
  (141, .inl (o_push (.int (80000 : Int32)) 143)),
  (143, .inl (o_na 0 145)),
  (145, .inl (o_put 8 19 k_ref 148)),
  (148, .inl (o_al 0 149)),
  (149, .inl (o_push (.int 400) 152)),
  (152, .inl (o_na 0 154)),
  (154, .inl (o_put 8 20 k_ref 157)),
  (157, .inl (o_al 0 158)),
  (158, .inl (o_push (.int 400) 161)),
  (161, .inl (o_na 2 163)),
  (163, .inl (o_put 8 21 k_ref 166)),
  (166, .inl (o_al 0 167)),
  (167, .inl (o_push (.int 768) 170)),
  (170, .inl (o_na 0 172)),
  (172, .inl (o_put 8 22 k_ref 175)),
  (175, .inl (o_al 0 176)),
  (176, .inl (o_push (.int 48) 178)),
  (178, .inl (o_na 0 180)),
  (180, .inl (o_put 8 23 k_ref 183)),
  (183, .inl (o_al 0 184)),
  (184, .inl (o_push (.int 24) 186)),
  (186, .inl (o_na 0 188)),
  (188, .inl (o_put 8 24 k_ref 191)),
  (191, .inl (o_al 0 192)),
  (192, .inl (o_push (.int 24) 194)),
  (194, .inl (o_na 0 196)),
  (196, .inl (o_put 8 25 k_ref 199)),
  (199, .inl (o_al 0 200)),
  (200, .inl (o_push (.int 24) 202)),
  (202, .inl (o_na 0 204)),
  (204, .inl (o_put 8 26 k_ref 207)),
  (207, .inl (o_al 0 208)),
  (208, .inl (o_push (.int 24) 210)),
  (210, .inl (o_na 0 212)),
  (212, .inl (o_put 8 27 k_ref 215)),
  (215, .inl (o_al 0 216)),
  (216, .inl (o_push (.int 64) 218)),
  (218, .inl (o_na 0 220)),
  (220, .inl (o_put 8 28 k_ref 223)),
  (223, .inl (o_al 0 224)),
  (224, .inl (o_push (.int 32) 226)),
  (226, .inl (o_na 0 228)),
  (228, .inl (o_put 8 29 k_ref 231)),
  (231, .inl (o_al 0 232)),
  (232, .inl (o_push (.int 32) 234)),
  (234, .inl (o_na 0 236)),
  (236, .inl (o_put 8 30 k_ref 239)),
  (239, .inl (o_al 0 240)),
  (240, .inl (o_push (.int 32) 242)),
  (242, .inl (o_na 0 244)),
  (244, .inl (o_put 8 31 k_ref 247)),
  (247, .inl (o_al 0 248)),
  (248, .inl (o_push (.int 32) 250)),
  (250, .inl (o_na 0 252)),
  (252, .inl (o_put 8 32 k_ref 255)),
  (255, .inl (o_al 0 256)),
  (256, .inl (o_push (.int 32000) 259)),
  (259, .inl (o_na 0 261)),
  (261, .inl (o_put 8 33 k_ref 264)),
  (264, .inl (o_al 0 265)),
  (265, .inl (o_push (.int 32) 267)),
  (267, .inl (o_na 0 269)),
  (269, .inl (o_put 8 34 k_ref 272)),
  (272, .inl (o_al 0 273)),
  (273, .inl (o_push (.int 128) 276)),
  (276, .inl (o_na 0 278)),
  (278, .inl (o_put 8 35 k_ref 281)),
  (281, .inl (o_al 0 282)),
  (282, .inl (o_push (.int (128000 : Int32)) 284)),
  (284, .inl (o_na 0 286)),
  (286, .inl (o_put 8 36 k_ref 289)),
  (289, .inl (o_al 0 290)),
  (290, .inl (o_push (.int 32) 292)),
  (292, .inl (o_na 0 294)),
  (294, .inl (o_put 8 37 k_ref 297)),
  (297, .inl (o_al 0 298)),
  (298, .inl (o_push (.int 12) 300)),
  (300, .inl (o_na 0 302)),
  (302, .inl (o_put 8 38 k_ref 305)),
  (305, .inl (o_al 0 306)),
  (306, .inl (o_push (.int 1000) 309)),
  (309, .inl (o_na 0 311)),
  (311, .inl (o_put 8 39 k_ref 314)),
  (314, .inl (o_push (.int 0) 315)),
  (315, .inl (o_is 1 316)),
  (316, .inl (o_il 1 317)),
  (317, .inl (o_push (.int 24) 319)),
  (319, .inl (o_ic (fun x y => decide (y ≤ x)) 342 322)),
  (322, .inl (o_al 0 323)),
  (323, .inl (o_get 8 24 326)),
  (326, .inl (o_il 1 327)),
  (327, .inl (o_push (.int (-1)) 328)),
  (328, .inl (o_ias 329)),
  (329, .inl (o_al 0 330)),
  (330, .inl (o_get 8 27 333)),
  (333, .inl (o_il 1 334)),
  (334, .inl (o_push (.int (-1)) 335)),
  (335, .inl (o_ias 336)),
  (336, .inl (o_inc 1 1 339)),
  (339, .inl (o_goto 316)),
  (342, .inl (o_push (.int 0) 343)),
  (343, .inl (o_is 1 344)),
  (344, .inl (o_il 1 345)),
  (345, .inl (o_push (.int 64) 347)),
  (347, .inl (o_ic (fun x y => decide (y ≤ x)) 363 350)),
  (350, .inl (o_al 0 351)),
  (351, .inl (o_get 8 28 354)),
  (354, .inl (o_il 1 355)),
  (355, .inl (o_push (.int (-1)) 356)),
  (356, .inl (o_ias 357)),
  (357, .inl (o_inc 1 1 360)),
  (360, .inl (o_goto 344)),
  (363, .inl (o_push (.int 0) 364)),
  (364, .inl (o_is 1 365)),
  (365, .inl (o_il 1 366)),
  (366, .inl (o_push (.int 32) 368)),
  (368, .inl (o_ic (fun x y => decide (y ≤ x)) 391 371)),
  (371, .inl (o_al 0 372)),
  (372, .inl (o_get 8 29 375)),
  (375, .inl (o_il 1 376)),
  (376, .inl (o_push (.int (-1)) 377)),
  (377, .inl (o_ias 378)),
  (378, .inl (o_al 0 379)),
  (379, .inl (o_get 8 31 382)),
  (382, .inl (o_il 1 383)),
  (383, .inl (o_push (.int (-1)) 384)),
  (384, .inl (o_ias 385)),
  (385, .inl (o_inc 1 1 388)),
  (388, .inl (o_goto 365)),
  (391, .inr (.inl none))]
theorem mt_95 : ∀ q ∈ tc_95, mo_i q.2 (ae_tab (at0 95) q.1) := by
  unfold tc_95
  refine List.forall_mem_cons.mpr ⟨⟨_, rfl, fun _ _ _ _ _ h => h⟩, ?_⟩
  refine List.forall_mem_cons.mpr ⟨⟨_, rfl, fun _ _ _ _ _ h => h⟩, ?_⟩
  refine List.forall_mem_cons.mpr ⟨⟨_, rfl, fun _ _ _ _ _ h => h⟩, ?_⟩
  refine List.forall_mem_cons.mpr ⟨⟨_, rfl, fun _ _ _ _ _ h => h⟩, ?_⟩
  refine List.forall_mem_cons.mpr ⟨⟨_, rfl, fun _ _ _ _ _ h => h⟩, ?_⟩
  refine List.forall_mem_cons.mpr ⟨⟨_, rfl, fun _ _ _ _ _ h => h⟩, ?_⟩
  refine List.forall_mem_cons.mpr ⟨⟨_, rfl, fun _ _ _ _ _ h => h⟩, ?_⟩
  refine List.forall_mem_cons.mpr ⟨⟨_, rfl, fun _ _ _ _ _ h => h⟩, ?_⟩
  refine List.forall_mem_cons.mpr ⟨⟨_, rfl, fun _ _ _ _ _ h => h⟩, ?_⟩
  refine List.forall_mem_cons.mpr ⟨⟨_, rfl, fun _ _ _ _ _ h => h⟩, ?_⟩
  refine List.forall_mem_cons.mpr ⟨⟨_, rfl, fun _ _ _ _ _ h => h⟩, ?_⟩
  refine List.forall_mem_cons.mpr ⟨⟨_, rfl, fun _ _ _ _ _ h => h⟩, ?_⟩
  refine List.forall_mem_cons.mpr ⟨⟨_, rfl, fun _ _ _ _ _ h => h⟩, ?_⟩
  refine List.forall_mem_cons.mpr ⟨⟨_, rfl, fun _ _ _ _ _ h => h⟩, ?_⟩
  refine List.forall_mem_cons.mpr ⟨⟨_, rfl, fun _ _ _ _ _ h => h⟩, ?_⟩
  refine List.forall_mem_cons.mpr ⟨⟨_, rfl, fun _ _ _ _ _ h => h⟩, ?_⟩
  refine List.forall_mem_cons.mpr ⟨⟨_, rfl, fun _ _ _ _ _ h => h⟩, ?_⟩
  refine List.forall_mem_cons.mpr ⟨⟨_, rfl, fun _ _ _ _ _ h => h⟩, ?_⟩
  refine List.forall_mem_cons.mpr ⟨⟨_, rfl, fun _ _ _ _ _ h => h⟩, ?_⟩
  refine List.forall_mem_cons.mpr ⟨⟨_, rfl, fun _ _ _ _ _ h => h⟩, ?_⟩
  refine List.forall_mem_cons.mpr ⟨⟨_, rfl, fun _ _ _ _ _ h => h⟩, ?_⟩
  refine List.forall_mem_cons.mpr ⟨⟨_, rfl, fun _ _ _ _ _ h => h⟩, ?_⟩
  refine List.forall_mem_cons.mpr ⟨⟨_, rfl, fun _ _ _ _ _ h => h⟩, ?_⟩
  refine List.forall_mem_cons.mpr ⟨⟨_, rfl, fun _ _ _ _ _ h => h⟩, ?_⟩
  refine List.forall_mem_cons.mpr ⟨⟨_, rfl, fun _ _ _ _ _ h => h⟩, ?_⟩
  refine List.forall_mem_cons.mpr ⟨⟨_, rfl, fun _ _ _ _ _ h => h⟩, ?_⟩
  refine List.forall_mem_cons.mpr ⟨⟨_, rfl, fun _ _ _ _ _ h => h⟩, ?_⟩
  refine List.forall_mem_cons.mpr ⟨⟨_, rfl, fun _ _ _ _ _ h => h⟩, ?_⟩
  refine List.forall_mem_cons.mpr ⟨⟨_, rfl, fun _ _ _ _ _ h => h⟩, ?_⟩
  refine List.forall_mem_cons.mpr ⟨⟨_, rfl, fun _ _ _ _ _ h => h⟩, ?_⟩
  refine List.forall_mem_cons.mpr ⟨⟨_, rfl, fun _ _ _ _ _ h => h⟩, ?_⟩
  refine List.forall_mem_cons.mpr ⟨⟨_, rfl, fun _ _ _ _ _ h => h⟩, ?_⟩
  refine List.forall_mem_cons.mpr ⟨⟨_, rfl, fun _ _ _ _ _ h => h⟩, ?_⟩
  refine List.forall_mem_cons.mpr ⟨⟨_, rfl, fun _ _ _ _ _ h => h⟩, ?_⟩
  refine List.forall_mem_cons.mpr ⟨⟨_, rfl, fun _ _ _ _ _ h => h⟩, ?_⟩
  refine List.forall_mem_cons.mpr ⟨⟨_, rfl, fun _ _ _ _ _ h => h⟩, ?_⟩
  refine List.forall_mem_cons.mpr ⟨⟨_, rfl, fun _ _ _ _ _ h => h⟩, ?_⟩
  refine List.forall_mem_cons.mpr ⟨⟨_, rfl, fun _ _ _ _ _ h => h⟩, ?_⟩
  refine List.forall_mem_cons.mpr ⟨⟨_, rfl, fun _ _ _ _ _ h => h⟩, ?_⟩
  refine List.forall_mem_cons.mpr ⟨⟨_, rfl, fun _ _ _ _ _ h => h⟩, ?_⟩
  refine List.forall_mem_cons.mpr ⟨⟨_, rfl, fun _ _ _ _ _ h => h⟩, ?_⟩
  refine List.forall_mem_cons.mpr ⟨⟨_, rfl, fun _ _ _ _ _ h => h⟩, ?_⟩
  refine List.forall_mem_cons.mpr ⟨⟨_, rfl, fun _ _ _ _ _ h => h⟩, ?_⟩
  refine List.forall_mem_cons.mpr ⟨⟨_, rfl, fun _ _ _ _ _ h => h⟩, ?_⟩
  refine List.forall_mem_cons.mpr ⟨⟨_, rfl, fun _ _ _ _ _ h => h⟩, ?_⟩
  refine List.forall_mem_cons.mpr ⟨⟨_, rfl, fun _ _ _ _ _ h => h⟩, ?_⟩
  refine List.forall_mem_cons.mpr ⟨⟨_, rfl, fun _ _ _ _ _ h => h⟩, ?_⟩
  refine List.forall_mem_cons.mpr ⟨⟨_, rfl, fun _ _ _ _ _ h => h⟩, ?_⟩
  refine List.forall_mem_cons.mpr ⟨⟨_, rfl, fun _ _ _ _ _ h => h⟩, ?_⟩
  refine List.forall_mem_cons.mpr ⟨⟨_, rfl, fun _ _ _ _ _ h => h⟩, ?_⟩
  refine List.forall_mem_cons.mpr ⟨⟨_, rfl, fun _ _ _ _ _ h => h⟩, ?_⟩
  refine List.forall_mem_cons.mpr ⟨⟨_, rfl, fun _ _ _ _ _ h => h⟩, ?_⟩
  refine List.forall_mem_cons.mpr ⟨⟨_, rfl, fun _ _ _ _ _ h => h⟩, ?_⟩
  refine List.forall_mem_cons.mpr ⟨⟨_, rfl, fun _ _ _ _ _ h => h⟩, ?_⟩
  refine List.forall_mem_cons.mpr ⟨⟨_, rfl, fun _ _ _ _ _ h => h⟩, ?_⟩
  refine List.forall_mem_cons.mpr ⟨⟨_, rfl, fun _ _ _ _ _ h => h⟩, ?_⟩
  refine List.forall_mem_cons.mpr ⟨⟨_, rfl, fun _ _ _ _ _ h => h⟩, ?_⟩
  refine List.forall_mem_cons.mpr ⟨⟨_, rfl, fun _ _ _ _ _ h => h⟩, ?_⟩
  refine List.forall_mem_cons.mpr ⟨⟨_, rfl, fun _ _ _ _ _ h => h⟩, ?_⟩
  refine List.forall_mem_cons.mpr ⟨⟨_, rfl, fun _ _ _ _ _ h => h⟩, ?_⟩
  refine List.forall_mem_cons.mpr ⟨⟨_, rfl, fun _ _ _ _ _ h => h⟩, ?_⟩
  refine List.forall_mem_cons.mpr ⟨⟨_, rfl, fun _ _ _ _ _ h => h⟩, ?_⟩
  refine List.forall_mem_cons.mpr ⟨⟨_, rfl, fun _ _ _ _ _ h => h⟩, ?_⟩
  refine List.forall_mem_cons.mpr ⟨⟨_, rfl, fun _ _ _ _ _ h => h⟩, ?_⟩
  refine List.forall_mem_cons.mpr ⟨⟨_, rfl, fun _ _ _ _ _ h => h⟩, ?_⟩
  refine List.forall_mem_cons.mpr ⟨⟨_, rfl, fun _ _ _ _ _ h => h⟩, ?_⟩
  refine List.forall_mem_cons.mpr ⟨⟨_, rfl, fun _ _ _ _ _ h => h⟩, ?_⟩
  refine List.forall_mem_cons.mpr ⟨⟨_, rfl, fun _ _ _ _ _ h => h⟩, ?_⟩
  refine List.forall_mem_cons.mpr ⟨⟨_, rfl, fun _ _ _ _ _ h => h⟩, ?_⟩
  refine List.forall_mem_cons.mpr ⟨⟨_, rfl, fun _ _ _ _ _ h => h⟩, ?_⟩
  refine List.forall_mem_cons.mpr ⟨⟨_, rfl, fun _ _ _ _ _ h => h⟩, ?_⟩
  refine List.forall_mem_cons.mpr ⟨⟨_, rfl, fun _ _ _ _ _ h => h⟩, ?_⟩
  refine List.forall_mem_cons.mpr ⟨⟨_, rfl, fun _ _ _ _ _ h => h⟩, ?_⟩
  refine List.forall_mem_cons.mpr ⟨⟨_, rfl, fun _ _ _ _ _ h => h⟩, ?_⟩
  refine List.forall_mem_cons.mpr ⟨⟨_, rfl, fun _ _ _ _ _ h => h⟩, ?_⟩
  refine List.forall_mem_cons.mpr ⟨⟨_, rfl, fun _ _ _ _ _ h => h⟩, ?_⟩
  refine List.forall_mem_cons.mpr ⟨⟨_, rfl, fun _ _ _ _ _ h => h⟩, ?_⟩
  refine List.forall_mem_cons.mpr ⟨⟨_, rfl, fun _ _ _ _ _ h => h⟩, ?_⟩
  refine List.forall_mem_cons.mpr ⟨⟨_, rfl, fun _ _ _ _ _ h => h⟩, ?_⟩
  refine List.forall_mem_cons.mpr ⟨⟨_, rfl, fun _ _ _ _ _ h => h⟩, ?_⟩
  refine List.forall_mem_cons.mpr ⟨⟨_, rfl, fun _ _ _ _ _ h => h⟩, ?_⟩
  refine List.forall_mem_cons.mpr ⟨⟨_, rfl, fun _ _ _ _ _ h => h⟩, ?_⟩
  refine List.forall_mem_cons.mpr ⟨⟨_, rfl, fun _ _ _ _ _ h => h⟩, ?_⟩
  refine List.forall_mem_cons.mpr ⟨⟨_, rfl, fun _ _ _ _ _ h => h⟩, ?_⟩
  refine List.forall_mem_cons.mpr ⟨⟨_, rfl, fun _ _ _ _ _ h => h⟩, ?_⟩
  refine List.forall_mem_cons.mpr ⟨⟨_, rfl, fun _ _ _ _ _ h => h⟩, ?_⟩
  refine List.forall_mem_cons.mpr ⟨⟨_, rfl, fun _ _ _ _ _ h => h⟩, ?_⟩
  refine List.forall_mem_cons.mpr ⟨⟨_, rfl, fun _ _ _ _ _ h => h⟩, ?_⟩
  refine List.forall_mem_cons.mpr ⟨⟨_, rfl, fun _ _ _ _ _ h => h⟩, ?_⟩
  refine List.forall_mem_cons.mpr ⟨⟨_, rfl, fun _ _ _ _ _ h => h⟩, ?_⟩
  refine List.forall_mem_cons.mpr ⟨⟨_, rfl, fun _ _ _ _ _ h => h⟩, ?_⟩
  refine List.forall_mem_cons.mpr ⟨⟨_, rfl, fun _ _ _ _ _ h => h⟩, ?_⟩
  refine List.forall_mem_cons.mpr ⟨⟨_, rfl, fun _ _ _ _ _ h => h⟩, ?_⟩
  refine List.forall_mem_cons.mpr ⟨⟨_, rfl, fun _ _ _ _ _ h => h⟩, ?_⟩
  refine List.forall_mem_cons.mpr ⟨⟨_, rfl, fun _ _ _ _ _ h => h⟩, ?_⟩
  refine List.forall_mem_cons.mpr ⟨⟨_, rfl, fun _ _ _ _ _ h => h⟩, ?_⟩
  refine List.forall_mem_cons.mpr ⟨⟨_, rfl, fun _ _ _ _ _ h => h⟩, ?_⟩
  refine List.forall_mem_cons.mpr ⟨⟨_, rfl, fun _ _ _ _ _ h => h⟩, ?_⟩
  refine List.forall_mem_cons.mpr ⟨⟨_, rfl, fun _ _ _ _ _ h => h⟩, ?_⟩
  refine List.forall_mem_cons.mpr ⟨⟨_, rfl, fun _ _ _ _ _ h => h⟩, ?_⟩
  refine List.forall_mem_cons.mpr ⟨⟨_, rfl, fun _ _ _ _ _ h => h⟩, ?_⟩
  refine List.forall_mem_cons.mpr ⟨⟨_, rfl, fun _ _ _ _ _ h => h⟩, ?_⟩
  refine List.forall_mem_cons.mpr ⟨⟨_, rfl, fun _ _ _ _ _ h => h⟩, ?_⟩
  refine List.forall_mem_cons.mpr ⟨⟨_, rfl, fun _ _ _ _ _ h => h⟩, ?_⟩
  refine List.forall_mem_cons.mpr ⟨⟨_, rfl, fun _ _ _ _ _ h => h⟩, ?_⟩
  refine List.forall_mem_cons.mpr ⟨⟨_, rfl, fun _ _ _ _ _ h => h⟩, ?_⟩
  refine List.forall_mem_cons.mpr ⟨⟨_, rfl, fun _ _ _ _ _ h => h⟩, ?_⟩
  refine List.forall_mem_cons.mpr ⟨⟨_, rfl, fun _ _ _ _ _ h => h⟩, ?_⟩
  refine List.forall_mem_cons.mpr ⟨⟨_, rfl, fun _ _ _ _ _ h => h⟩, ?_⟩
  refine List.forall_mem_cons.mpr ⟨⟨_, rfl, fun _ _ _ _ _ h => h⟩, ?_⟩
  refine List.forall_mem_cons.mpr ⟨⟨_, rfl, fun _ _ _ _ _ h => h⟩, ?_⟩
  refine List.forall_mem_cons.mpr ⟨⟨_, rfl, fun _ _ _ _ _ h => h⟩, ?_⟩
  refine List.forall_mem_cons.mpr ⟨⟨_, rfl, fun _ _ _ _ _ h => h⟩, ?_⟩
  refine List.forall_mem_cons.mpr ⟨⟨_, rfl, fun _ _ _ _ _ h => h⟩, ?_⟩
  refine List.forall_mem_cons.mpr ⟨⟨_, rfl, fun _ _ _ _ _ h => h⟩, ?_⟩
  refine List.forall_mem_cons.mpr ⟨⟨_, rfl, fun _ _ _ _ _ h => h⟩, ?_⟩
  refine List.forall_mem_cons.mpr ⟨⟨_, rfl, fun _ _ _ _ _ h => h⟩, ?_⟩
  refine List.forall_mem_cons.mpr ⟨⟨_, rfl, fun _ _ _ _ _ h => h⟩, ?_⟩
  refine List.forall_mem_cons.mpr ⟨⟨_, rfl, fun _ _ _ _ _ h => h⟩, ?_⟩
  refine List.forall_mem_cons.mpr ⟨⟨_, rfl, fun _ _ _ _ _ h => h⟩, ?_⟩
  refine List.forall_mem_cons.mpr ⟨⟨_, rfl, fun _ _ _ _ _ h => h⟩, ?_⟩
  refine List.forall_mem_cons.mpr ⟨⟨_, rfl, fun _ _ _ _ _ h => h⟩, ?_⟩
  refine List.forall_mem_cons.mpr ⟨⟨_, rfl, fun _ _ _ _ _ h => h⟩, ?_⟩
  refine List.forall_mem_cons.mpr ⟨⟨_, rfl, fun _ _ _ _ _ h => h⟩, ?_⟩
  refine List.forall_mem_cons.mpr ⟨⟨_, rfl, fun _ _ _ _ _ h => h⟩, ?_⟩
  refine List.forall_mem_cons.mpr ⟨⟨_, rfl, fun _ _ _ _ _ h => h⟩, ?_⟩
  refine List.forall_mem_cons.mpr ⟨⟨_, rfl, fun _ _ _ _ _ h => h⟩, ?_⟩
  refine List.forall_mem_cons.mpr ⟨⟨_, rfl, fun _ _ _ _ _ h => h⟩, ?_⟩
  refine List.forall_mem_cons.mpr ⟨⟨_, rfl, fun _ _ _ _ _ h => h⟩, ?_⟩
  refine List.forall_mem_cons.mpr ⟨⟨_, rfl, fun _ _ _ _ _ h => h⟩, ?_⟩
  refine List.forall_mem_cons.mpr ⟨⟨_, rfl, fun _ _ _ _ _ h => h⟩, ?_⟩
  refine List.forall_mem_cons.mpr ⟨⟨_, rfl, fun _ _ _ _ _ h => h⟩, ?_⟩
  refine List.forall_mem_cons.mpr ⟨⟨_, rfl, fun _ _ _ _ _ h => h⟩, ?_⟩
  refine List.forall_mem_cons.mpr ⟨⟨_, rfl, fun _ _ _ _ _ h => h⟩, ?_⟩
  refine List.forall_mem_cons.mpr ⟨⟨_, rfl, fun _ _ _ _ _ h => h⟩, ?_⟩
  refine List.forall_mem_cons.mpr ⟨⟨_, rfl, fun _ _ _ _ _ h => h⟩, ?_⟩
  refine List.forall_mem_cons.mpr ⟨⟨_, rfl, fun _ _ _ _ _ h => h⟩, ?_⟩
  refine List.forall_mem_cons.mpr ⟨⟨_, rfl, fun _ _ _ _ _ h => h⟩, ?_⟩
  refine List.forall_mem_cons.mpr ⟨⟨_, rfl, fun _ _ _ _ _ h => h⟩, ?_⟩
  refine List.forall_mem_cons.mpr ⟨⟨_, rfl, fun _ _ _ _ _ h => h⟩, ?_⟩
  refine List.forall_mem_cons.mpr ⟨⟨_, rfl, fun _ _ _ _ _ h => h⟩, ?_⟩
  refine List.forall_mem_cons.mpr ⟨⟨_, rfl, fun _ _ _ _ _ h => h⟩, ?_⟩
  refine List.forall_mem_cons.mpr ⟨⟨_, rfl, fun _ _ _ _ _ h => h⟩, ?_⟩
  refine List.forall_mem_cons.mpr ⟨⟨_, rfl, fun _ _ _ _ _ h => h⟩, ?_⟩
  refine List.forall_mem_cons.mpr ⟨⟨_, rfl, fun _ _ _ _ _ h => h⟩, ?_⟩
  refine List.forall_mem_cons.mpr ⟨⟨_, rfl, fun _ _ _ _ _ h => h⟩, ?_⟩
  refine List.forall_mem_cons.mpr ⟨⟨_, rfl, fun _ _ _ _ _ h => h⟩, ?_⟩
  refine List.forall_mem_cons.mpr ⟨⟨_, rfl, fun _ _ _ _ _ h => h⟩, ?_⟩
  refine List.forall_mem_cons.mpr ⟨⟨_, rfl, fun _ _ _ _ _ h => h⟩, ?_⟩
  refine List.forall_mem_cons.mpr ⟨⟨_, rfl, fun _ _ _ _ _ h => h⟩, ?_⟩
  refine List.forall_mem_cons.mpr ⟨⟨_, rfl, fun _ _ _ _ _ h => h⟩, ?_⟩
  refine List.forall_mem_cons.mpr ⟨⟨_, rfl, fun _ _ _ _ _ h => h⟩, ?_⟩
  refine List.forall_mem_cons.mpr ⟨⟨_, rfl, fun _ _ _ _ _ h => h⟩, ?_⟩
  refine List.forall_mem_cons.mpr ⟨⟨_, rfl, fun _ _ _ _ _ h => h⟩, ?_⟩
  refine List.forall_mem_cons.mpr ⟨⟨_, rfl, fun _ _ _ _ _ h => h⟩, ?_⟩
  refine List.forall_mem_cons.mpr ⟨⟨_, rfl, fun _ _ _ _ _ h => h⟩, ?_⟩
  refine List.forall_mem_cons.mpr ⟨⟨_, rfl, fun _ _ _ _ _ h => h⟩, ?_⟩
  refine List.forall_mem_cons.mpr ⟨⟨_, rfl, fun _ _ _ _ _ h => h⟩, ?_⟩
  refine List.forall_mem_cons.mpr ⟨⟨_, rfl, fun _ _ _ _ _ h => h⟩, ?_⟩
  refine List.forall_mem_cons.mpr ⟨⟨_, rfl, fun _ _ _ _ _ h => h⟩, ?_⟩
  refine List.forall_mem_cons.mpr ⟨⟨_, rfl, fun _ _ _ _ _ h => h⟩, ?_⟩
  refine List.forall_mem_cons.mpr ⟨⟨_, rfl, fun _ _ _ _ _ h => h⟩, ?_⟩
  refine List.forall_mem_cons.mpr ⟨⟨_, rfl, fun _ _ _ _ _ h => h⟩, ?_⟩
  refine List.forall_mem_cons.mpr ⟨⟨_, rfl, fun _ _ _ _ _ h => h⟩, ?_⟩
  refine List.forall_mem_cons.mpr ⟨⟨_, rfl, fun _ _ _ _ _ h => h⟩, ?_⟩
  refine List.forall_mem_cons.mpr ⟨⟨_, rfl, fun _ _ _ _ _ h => h⟩, ?_⟩
  refine List.forall_mem_cons.mpr ⟨⟨_, rfl, fun _ _ _ _ _ h => h⟩, ?_⟩
  refine List.forall_mem_cons.mpr ⟨⟨_, rfl, fun _ _ _ _ _ h => h⟩, ?_⟩
  refine List.forall_mem_cons.mpr ⟨⟨_, rfl, fun _ _ _ _ _ h => h⟩, ?_⟩
  refine List.forall_mem_cons.mpr ⟨⟨_, rfl, fun _ _ _ _ _ h => h⟩, ?_⟩
  refine List.forall_mem_cons.mpr ⟨⟨_, rfl, fun _ _ _ _ _ h => h⟩, ?_⟩
  refine List.forall_mem_cons.mpr ⟨⟨_, rfl, fun _ _ _ _ _ h => h⟩, ?_⟩
  refine List.forall_mem_cons.mpr ⟨⟨_, rfl, fun _ _ _ _ _ h => h⟩, ?_⟩
  refine List.forall_mem_cons.mpr ⟨⟨_, rfl, fun _ _ _ _ _ h => h⟩, ?_⟩
  refine List.forall_mem_cons.mpr ⟨⟨_, rfl, fun _ _ _ _ _ h => h⟩, ?_⟩
  refine List.forall_mem_cons.mpr ⟨⟨_, rfl, fun _ _ _ _ _ h => h⟩, ?_⟩
  refine List.forall_mem_cons.mpr ⟨⟨_, rfl, fun _ _ _ _ _ h => h⟩, ?_⟩
  refine List.forall_mem_cons.mpr ⟨⟨_, rfl, fun _ _ _ _ _ h => h⟩, ?_⟩
  refine List.forall_mem_cons.mpr ⟨⟨_, rfl, fun _ _ _ _ _ h => h⟩, ?_⟩
  refine List.forall_mem_cons.mpr ⟨⟨_, rfl, fun _ _ _ _ _ h => h⟩, ?_⟩
  refine List.forall_mem_cons.mpr ⟨⟨_, rfl, fun _ _ _ _ _ h => h⟩, ?_⟩
  refine List.forall_mem_cons.mpr ⟨⟨_, rfl, fun _ _ _ _ _ h => h⟩, ?_⟩
  refine List.forall_mem_cons.mpr ⟨⟨_, rfl, fun _ _ _ _ _ h => h⟩, ?_⟩
  refine List.forall_mem_cons.mpr ⟨⟨_, rfl, fun _ _ _ _ _ h => h⟩, ?_⟩
  refine List.forall_mem_cons.mpr ⟨⟨_, rfl, fun _ _ _ _ _ h => h⟩, ?_⟩
  refine List.forall_mem_cons.mpr ⟨⟨_, rfl, fun _ _ _ _ _ h => h⟩, ?_⟩
  refine List.forall_mem_cons.mpr ⟨⟨_, rfl, fun _ _ _ _ _ h => h⟩, ?_⟩
  refine List.forall_mem_cons.mpr ⟨⟨_, rfl, fun _ _ _ _ _ h => h⟩, ?_⟩
  refine List.forall_mem_cons.mpr ⟨⟨_, rfl, fun _ _ _ _ _ h => h⟩, ?_⟩
  refine List.forall_mem_cons.mpr ⟨⟨_, rfl, fun _ _ _ _ _ h => h⟩, ?_⟩
  refine List.forall_mem_cons.mpr ⟨⟨_, rfl, fun _ _ _ _ _ h => h⟩, ?_⟩
  refine List.forall_mem_cons.mpr ⟨⟨_, rfl, fun _ _ _ _ _ h => h⟩, ?_⟩
  refine List.forall_mem_cons.mpr ⟨⟨_, rfl, fun _ _ _ _ _ h => h⟩, ?_⟩
  refine List.forall_mem_cons.mpr ⟨⟨_, rfl, fun _ _ _ _ _ h => h⟩, ?_⟩
  refine List.forall_mem_cons.mpr ⟨⟨_, rfl, fun _ _ _ _ _ h => h⟩, ?_⟩
  refine List.forall_mem_cons.mpr ⟨⟨_, rfl, fun _ _ _ _ _ h => h⟩, ?_⟩
  refine List.forall_mem_cons.mpr ⟨⟨_, rfl, fun _ _ _ _ _ h => h⟩, ?_⟩
  refine List.forall_mem_cons.mpr ⟨⟨_, rfl, fun _ _ _ _ _ h => h⟩, ?_⟩
  refine List.forall_mem_cons.mpr ⟨⟨_, rfl, fun _ _ _ _ _ h => h⟩, ?_⟩
  refine List.forall_mem_cons.mpr ⟨⟨_, rfl, fun _ _ _ _ _ h => h⟩, ?_⟩
  refine List.forall_mem_cons.mpr ⟨rfl, ?_⟩
  exact fun _ h => absurd h List.not_mem_nil
def atc : ae_At := fun i => if i = 1 then tc_1 else if i = 2 then tc_2 else if i = 3 then tc_3 else if i = 4 then tc_4 else if i = 5 then tc_5 else if i = 95 then tc_95 else []
theorem atc_ok : ∀ mid, ∀ q ∈ atc mid, mo_i q.2 (ae_tab (at0 mid) q.1) := by
  intro mid q hq
  unfold atc at hq
  split at hq
  · rename_i h
    subst h
    exact mt_1 q hq
  split at hq
  · rename_i h
    subst h
    exact mt_2 q hq
  split at hq
  · rename_i h
    subst h
    exact mt_3 q hq
  split at hq
  · rename_i h
    subst h
    exact mt_4 q hq
  split at hq
  · rename_i h
    subst h
    exact mt_5 q hq
  split at hq
  · rename_i h
    subst h
    exact mt_95 q hq
  cases hq
def fzs (o : Option (ae_S × ae_O)) : ae_S := match o with
  | some r => r.1
  | none => ((0, 0), [])
def fzv (o : Option (ae_S × ae_O)) : Bool := match o with
  | some (_, .inl none) => true
  | _ => false
theorem fz_eq {o : Option (ae_S × ae_O)} (h : fzv o = true) : o = some (fzs o, .inl none) := by
  unfold fzv at h
  split at h
  · rfl
  · cases h
def fz1o : Option (ae_S × ae_O) := ae_ev am atc rz 7 1000 1 [.ref 0] ((1, 6), [.inr (7, cd_Net)])
theorem fz1_ok : fzv fz1o = true := by decide +kernel
end FRB
