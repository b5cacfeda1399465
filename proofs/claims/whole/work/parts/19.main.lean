/-! a run of a method is sound -/
def eb_lgp : Nat → List Nat → List Nat
  | _, [] => []
  | k, 1 :: ts => k :: eb_lgp (k + 2) ts
  | k, _ :: ts => eb_lgp (k + 1) ts
def eb_lg (m i : Nat) : Bool := decide (i ∈ eb_lgp 0 (eb_sg m))
def eb_sgl : List Nat → Nat
  | [] => 0
  | 1 :: ts => eb_sgl ts + 2
  | _ :: ts => eb_sgl ts + 1
theorem eb_hlg {m i : Nat} (h : eb_lg m (i - 1) = false ∨ i = 0) : ∀ k, k + 1 = i → eb_lg m k = false := by
  intro k hk
  rcases h with h | h
  · rw [show k = i - 1 by omega]; exact h
  · omega
theorem eb_chk_len {L c : Nat} : ∀ {as : List eb_V} {ts : List Nat}, eb_chk L c as ts = true → (eb_args as).length = eb_sgl ts
  | [], [], _ => rfl
  | [], _ :: _, h => by cases h
  | .inl (.inl x) :: as, ts, h => by
    rcases ts with _ | ⟨t, ts⟩
    · cases h
    · rcases t with _ | _ | t
      · have h1 := eb_chk_len (as := as) (ts := ts) h
        show (eb_args as).length + 1 = eb_sgl ts + 1
        rw [h1]
      · cases h
      · cases h
  | .inl (.inr x) :: as, ts, h => by
    rcases ts with _ | ⟨t, ts⟩
    · cases h
    · rcases t with _ | _ | t
      · cases h
      · have h1 := eb_chk_len (as := as) (ts := ts) h
        show (eb_args as).length + 1 + 1 = eb_sgl ts + 2
        rw [h1]
      · cases h
  | .inr o :: as, ts, h => by
    rcases ts with _ | ⟨t, ts⟩
    · cases o <;> cases h
    · rcases t with _ | _ | _ | _ | t
      · cases o <;> cases h
      · cases o <;> cases h
      · have h1 := eb_chk_len (as := as) (ts := ts) (by cases o <;> exact h)
        show (eb_args as).length + 1 = eb_sgl ts + 1
        rw [h1]
      · cases o with
        | none => cases h
        | some a =>
          have h : (Nat.beq (eb_ty L a.1).1 c && eb_chk L c as ts) = true := h
          simp only [Bool.and_eq_true] at h
          have h1 := eb_chk_len (as := as) (ts := ts) h.2
          show (eb_args as).length + 1 = eb_sgl ts + 1
          rw [h1]
      · cases o <;> cases h
theorem eb_chk_lg {L c : Nat} : ∀ {as : List eb_V} {ts : List Nat} (k : Nat), eb_chk L c as ts = true → ∀ i x, (eb_args as)[i]? = some (some (zl x)) → k + i ∈ eb_lgp k ts
  | [], _, k, _, i, x, hi => by simp [eb_args] at hi
  | .inl (.inl y) :: as, ts, k, h, i, x, hi => by
    rcases ts with _ | ⟨t, ts⟩
    · cases h
    · rcases t with _ | _ | t
      · have ha : eb_args (.inl (.inl y) :: as) = some (zi y) :: eb_args as := rfl
        rw [ha] at hi
        rcases i with _ | i
        · cases hi
        · have h1 := eb_chk_lg (as := as) (ts := ts) (k + 1) h i x (by simpa using hi)
          show k + (i + 1) ∈ eb_lgp (k + 1) ts
          rw [show k + (i + 1) = k + 1 + i by omega]; exact h1
      · cases h
      · cases h
  | .inl (.inr y) :: as, ts, k, h, i, x, hi => by
    rcases ts with _ | ⟨t, ts⟩
    · cases h
    · rcases t with _ | _ | t
      · cases h
      · have ha : eb_args (.inl (.inr y) :: as) = some (zl y) :: none :: eb_args as := rfl
        rw [ha] at hi
        show k + i ∈ k :: eb_lgp (k + 2) ts
        rcases i with _ | _ | i
        · exact List.mem_cons_self
        · cases hi
        · have h1 := eb_chk_lg (as := as) (ts := ts) (k + 2) h i x (by simpa using hi)
          refine List.mem_cons_of_mem _ ?_
          rw [show k + (i + 1 + 1) = k + 2 + i by omega]; exact h1
      · cases h
  | .inr o :: as, ts, k, h, i, x, hi => by
    have ha : eb_args (.inr o :: as) = some (.inr o) :: eb_args as := rfl
    rw [ha] at hi
    rcases ts with _ | ⟨t, ts⟩
    · cases o <;> cases h
    · have key : eb_chk L c as ts = true → k + i ∈ eb_lgp (k + 1) ts := by
        intro h2
        rcases i with _ | i
        · cases hi
        · have h1 := eb_chk_lg (as := as) (ts := ts) (k + 1) h2 i x (by simpa using hi)
          rw [show k + (i + 1) = k + 1 + i by omega]; exact h1
      rcases t with _ | _ | _ | _ | t
      · cases o <;> cases h
      · cases o <;> cases h
      · exact key (by cases o <;> exact h)
      · cases o with
        | none => cases h
        | some a =>
          have h : (Nat.beq (eb_ty L a.1).1 c && eb_chk L c as ts) = true := h
          simp only [Bool.and_eq_true] at h
          exact key h.2
      · cases o <;> cases h
theorem eb_args_in {φ : eb_A → Nat} : ∀ (as : List eb_V) (k i : Nat) (v : eb_V), (eb_args as)[i]? = some (some v) → (k + i, eb_cn φ v) ∈ lv_args k (as.map (eb_cn φ))
  | [], k, i, v, h => by simp [eb_args] at h
  | .inl (.inl y) :: as, k, i, v, h => by
    have ha : eb_args (.inl (.inl y) :: as) = some (zi y) :: eb_args as := rfl
    rw [ha] at h
    show (k + i, eb_cn φ v) ∈ (k, eb_cn φ (zi y)) :: lv_args (k + 1) (as.map (eb_cn φ))
    rcases i with _ | i
    · cases h; exact List.mem_cons_self
    · have h1 := eb_args_in (φ := φ) as (k + 1) i v (by simpa using h)
      refine List.mem_cons_of_mem _ ?_
      rw [show k + (i + 1) = k + 1 + i by omega]; exact h1
  | .inl (.inr y) :: as, k, i, v, h => by
    have ha : eb_args (.inl (.inr y) :: as) = some (zl y) :: none :: eb_args as := rfl
    rw [ha] at h
    show (k + i, eb_cn φ v) ∈ (k, eb_cn φ (zl y)) :: lv_args (k + 2) (as.map (eb_cn φ))
    rcases i with _ | _ | i
    · cases h; exact List.mem_cons_self
    · cases h
    · have h1 := eb_args_in (φ := φ) as (k + 2) i v (by simpa using h)
      refine List.mem_cons_of_mem _ ?_
      rw [show k + (i + 1 + 1) = k + 2 + i by omega]; exact h1
  | .inr o :: as, k, i, v, h => by
    have ha : eb_args (.inr o :: as) = some (.inr o) :: eb_args as := rfl
    rw [ha] at h
    have h0 : lv_args k ((Sum.inr o :: as).map (eb_cn φ)) = (k, eb_cn φ (.inr o)) :: lv_args (k + 1) (as.map (eb_cn φ)) := by cases o <;> rfl
    rw [h0]
    rcases i with _ | i
    · cases h; exact List.mem_cons_self
    · have h1 := eb_args_in (φ := φ) as (k + 1) i v (by simpa using h)
      refine List.mem_cons_of_mem _ ?_
      rw [show k + (i + 1) = k + 1 + i by omega]; exact h1
theorem eb_args_len {φ : eb_A → Nat} : ∀ as : List eb_V, (lg_sl (as.map (eb_cn φ))).length = (eb_args as).length
  | [] => rfl
  | .inl (.inl y) :: as => by
    show (lg_sl (as.map (eb_cn φ))).length + 1 = (eb_args as).length + 1
    rw [eb_args_len as]
  | .inl (.inr y) :: as => by
    show (lg_sl (as.map (eb_cn φ))).length + 1 + 1 = (eb_args as).length + 1 + 1
    rw [eb_args_len as]
  | .inr none :: as => by
    show (lg_sl (as.map (eb_cn φ))).length + 1 = (eb_args as).length + 1
    rw [eb_args_len as]
  | .inr (some a) :: as => by
    show (lg_sl (as.map (eb_cn φ))).length + 1 = (eb_args as).length + 1
    rw [eb_args_len as]
theorem eb_args_ok : ∀ (as : List eb_V) (v : eb_V), some v ∈ eb_args as → v ∈ as
  | [], v, h => by cases h
  | .inl (.inl y) :: as, v, h => by
    rcases List.mem_cons.mp (show some v ∈ some (zi y) :: eb_args as from h) with e | h
    · cases e; exact List.mem_cons_self
    · exact List.mem_cons_of_mem _ (eb_args_ok as v h)
  | .inl (.inr y) :: as, v, h => by
    rcases List.mem_cons.mp (show some v ∈ some (zl y) :: none :: eb_args as from h) with e | h
    · cases e; exact List.mem_cons_self
    · rcases List.mem_cons.mp h with e | h
      · cases e
      · exact List.mem_cons_of_mem _ (eb_args_ok as v h)
  | .inr o :: as, v, h => by
    rcases List.mem_cons.mp (show some v ∈ some (.inr o) :: eb_args as from h) with e | h
    · cases e; exact List.mem_cons_self
    · exact List.mem_cons_of_mem _ (eb_args_ok as v h)
theorem eb_entry_get {m : Nat} {as : List eb_V} {i : Nat} {v : eb_V} (h : (eb_entry m as)[i]? = some (some v)) : (eb_args as)[i]? = some (some v) := by
  unfold eb_entry at h
  by_cases hl : i < (eb_args as).length
  · rwa [List.getElem?_append_left hl] at h
  · rw [List.getElem?_append_right (by omega)] at h
    have h2 := List.mem_of_getElem? h
    have h3 := List.eq_of_mem_replicate h2
    cases h3
theorem eb_cd_out {L m : Nat} (h : 254 ≤ m) : eb_cd L m = fun _ => op_stuck := by
  unfold eb_cd
  have hl : (eb_cds L).length = 16 := rfl
  by_cases h2 : m < 256
  · rcases (show m = 254 ∨ m = 255 by omega) with rfl | rfl <;> rfl
  · have h3 : 16 ≤ m / 16 := by omega
    have e : (eb_cds L).getD (m / 16) [] = [] := by
      rw [List.getD_eq_getElem?_getD, List.getElem?_eq_none (by omega)]; rfl
    rw [e]
    rfl
theorem eb_sgl_le : ∀ m, m < 254 → eb_sgl (eb_sg m) ≤ eb_ml m := by decide +kernel
theorem eb_own_y : ∀ m, m < 254 → (eb_y m).cls = eb_own m ∧ plainName (eb_y m).cls = true := by decide +kernel
theorem eb_bi_mono {L d m : Nat} {as : List eb_V} {M : eb_M} {r : eb_R} (h : eb_bi L d m as M = some r) : M.1 ≤ r.2.1 ∧ M.2.1 ≤ r.2.2.1 := by
  unfold eb_bi at h
  split at h <;> first | (cases h; done) | (cases h; exact ⟨Nat.le_refl _, Nat.le_refl _⟩) | (split at h <;> first | (cases h; done) | (cases h; exact ⟨Nat.le_refl _, Nat.le_refl _⟩))
theorem eb_ev_none {L d m : Nat} {as : List eb_V} {M : eb_M} (h : 254 ≤ m) (h9 : m < 900) : eb_ev L d m as M = none := by
  cases d with
  | zero => rfl
  | succ d =>
    have hb : Nat.ble 900 m = false := by
      cases hq : Nat.ble 900 m with
      | false => rfl
      | true => rw [Nat.ble_eq] at hq; omega
    unfold eb_ev
    simp only [hb]
    cases eb_chk L (eb_rc m) as (eb_sg m) with
    | false => rfl
    | true =>
      rw [eb_cd_out h]
      exact eb_G_n rfl
theorem eb_Sd_mono {L q0 : Nat} {l : Launch} {d : Nat} (h : eb_Sd L q0 l d) : eb_mC (eb_ev L d) := by
  intro m as M r hr
  by_cases h9 : m < 900
  · by_cases h2 : m < 254
    · obtain ⟨g1, g2, -⟩ := h m as M r (fun _ => 0) h2 hr
      exact ⟨g1, g2⟩
    · rw [eb_ev_none (by omega) h9] at hr
      cases hr
  · obtain ⟨k, -, hb⟩ := eb_ev_bi (by rw [Nat.ble_eq]; omega) hr
    exact eb_bi_mono hb
theorem eb_run_mono {cd : Nat → eb_O} {cl : eb_C} (hcd : ∀ pc cl ls st M, eb_mC cl → eb_mT M (cd pc cl ls st M)) (hcl : eb_mC cl) : ∀ (n : Nat) (s : eb_S) (r : eb_R), eb_run cd cl n s = some r → s.2.2.2.1 ≤ r.2.1 ∧ s.2.2.2.2.1 ≤ r.2.2.1 := by
  intro n
  induction n with
  | zero => intro s r h; cases h
  | succ n ih =>
    intro s r h
    have hm := hcd s.1 cl s.2.1 s.2.2.1 s.2.2.2 hcl
    cases hc : cd s.1 cl s.2.1 s.2.2.1 s.2.2.2 with
    | none => rw [eb_run_n hc] at h; cases h
    | some z =>
      rw [hc] at hm
      cases z with
      | inl s' =>
        rw [eb_run_s hc] at h
        have := ih s' r h
        have hm : s.2.2.2.1 ≤ s'.2.2.2.1 ∧ s.2.2.2.2.1 ≤ s'.2.2.2.2.1 := hm
        omega
      | inr q =>
        rw [eb_run_r hc] at h
        cases h
        exact hm
section
variable {L q0 m : Nat} {lg : Nat → Bool}
theorem eb_walk {l : Launch} {d : Nat} (hS : ∀ pc, eb_Snd L q0 m pc lg (eb_cd L m pc)) (hSd : eb_Sd L q0 l d) {p : Program} {e : Env} {R : Room} {s : State} {mt : MethodId} {args : Array Value} {below : List Frame} {meth : Method} {c : Code} {Q : State → Prop} {kc ks : Nat} (hC : eb_Cx q0 d p R s mt args meth c m) :
    ∀ (n : Nat) (z : eb_S) (r : eb_R), eb_run (eb_cd L m) (eb_ev L d) n z = some r → kc ≤ z.2.2.2.1 → ks ≤ z.2.2.2.2.1 → r.2.1 - kc ≤ R.cells → r.2.2.1 - ks ≤ R.slots → ∀ φ : eb_A → Nat,
      (∀ (φ' : eb_A → Nat) (pc : Nat) (ls : List (Option eb_V)) (st : List eb_V), (∀ a, eb_ok z.2.2.2.1 a → φ' a = φ a) → eb_isR m pc st r.1 → ∀ (arr : Array Slot) (H : Heap) (locs : List Loc), eb_At L q0 φ' s (eb_ml m) lg ls st r.2 arr H locs → W p l e R s mt args below meth c H locs (r.2.1 - kc) (r.2.2.1 - ks) Q (F0 mt pc arr (st.map (eb_cn φ')))) →
      eb_WW L q0 p l e R s mt args below meth c Q kc ks m lg φ z.1 z.2.1 z.2.2.1 z.2.2.2 := by
  have hcl := eb_Sd_mono hSd
  have hcd : ∀ pc cl ls st M, eb_mC cl → eb_mT M (eb_cd L m pc cl ls st M) := fun pc => (hS pc).1
  intro n
  induction n with
  | zero => intro z r h; cases h
  | succ n ih =>
    intro z r h hk1 hk2 hk3 hk4 φ hret
    cases hc : eb_cd L m z.1 (eb_ev L d) z.2.1 z.2.2.1 z.2.2.2 with
    | none => rw [eb_run_n hc] at h; cases h
    | some y => cases y with
      | inl s' =>
        rw [eb_run_s hc] at h
        have hm := hcd z.1 (eb_ev L d) z.2.1 z.2.2.1 z.2.2.2 hcl
        rw [hc] at hm
        have hm : z.2.2.2.1 ≤ s'.2.2.2.1 ∧ z.2.2.2.2.1 ≤ s'.2.2.2.2.1 := hm
        have hm2 := eb_run_mono hcd hcl n s' r h
        refine (hS z.1).2.2 l d z.2.1 z.2.2.1 z.2.2.2 s' hc hSd p e R s mt args below meth c Q kc ks φ hC hk1 hk2 (by omega) (by omega) fun φ' hφ => ?_
        refine ih s' r h (by omega) (by omega) hk3 hk4 φ' fun φ2 pc ls st hφ2 => hret φ2 pc ls st fun a ha => ?_
        rw [hφ2 a (eb_ok_mono hm.1 ha), hφ a ha]
      | inr q =>
        rw [eb_run_r hc] at h
        have eq1 : r = q := (Option.some.inj h).symm
        rw [← eq1] at hc
        obtain ⟨h1, h2⟩ := (hS z.1).2.1 (eb_ev L d) z.2.1 z.2.2.1 z.2.2.2 r hc
        intro arr H locs hA
        rw [← h1]
        exact hret φ z.1 z.2.1 z.2.2.1 (fun _ _ => rfl) h2 arr H locs (by rw [h1]; exact hA)
end
/-- the methods are sound one call deeper -/
theorem eb_Sd_s {L q0 d : Nat} {l : Launch} (hS : ∀ m, m < 254 → ∀ pc, eb_Snd L q0 m pc (eb_lg m) (eb_cd L m pc)) (hSd : eb_Sd L q0 l d) : eb_Sd L q0 l (d + 1) := by
  intro m as M r φ hm hev
  have hm3 : m < 254 := hm
  obtain ⟨-, hchk⟩ := eb_ev_chk (show m < 900 by omega) hev
  have hb : Nat.ble 900 m = false := by
    cases hq : Nat.ble 900 m with
    | false => rfl
    | true => rw [Nat.ble_eq] at hq; omega
  rw [eb_ev_s hb hchk] at hev
  obtain ⟨n, hn⟩ := eb_lim_some hev
  have hcl := eb_Sd_mono hSd
  have hmono := eb_run_mono (fun pc => (hS m hm3 pc).1) hcl n _ r hn
  refine ⟨hmono.1, hmono.2, ?_⟩
  have hoy := eb_own_y m hm
  refine Met.ofW (cc := eb_b m) (maxL := eb_ml m) (ret := eb_rt m) hoy.2 (ws' := eb_LT) rfl ?_
  intro p e s mt args below meth c s₁ B hml hv
  obtain ⟨rfl, hW, hK, hok⟩ := hv
  have hts := atoms_spec (ws := eb_ws m) B.pre
  have hC : eb_Cx q0 d p (eb_rm (d + 1) (r.2.1 - M.1) (r.2.2.1 - M.2.1)) s mt (as.map (eb_cn φ)).toArray meth c m := by
    refine ⟨B.exec, B.bytes, hml, ?_, fun w hw => hts w (List.mem_cons_of_mem _ hw), fun hi => (name_of_methodNamed B.named B.method).1.trans hi, hW.2.2.2.2, ?_, ?_⟩
    · rw [← hoy.1]; exact findClass_of_methodNamed B.named
    · show d ≤ d + 1 - 1
      omega
    · show 36 * d ≤ 36 * (d + 1 - 1)
      rw [Nat.add_sub_cancel]
      exact Nat.le_refl _
  have hlen : (lg_sl (as.map (eb_cn φ))).length ≤ eb_ml m := by
    rw [eb_args_len, eb_chk_len hchk]
    exact eb_sgl_le m hm
  have hl := lv_entry (as.map (eb_cn φ)) (n := eb_ml m) hlen
  rw [lg_entry_eq]
  have key := eb_walk (Q := MQ below (eb_Qc L q0 φ M r (eb_rt m)) (as.map (eb_cn φ)).toArray s (r.2.1 - M.1) (r.2.2.1 - M.2.1) (fun q => q0 ≤ q)) (below := below) (e := e) (kc := M.1) (ks := M.2.1) (hS m hm3) hSd hC n (0, eb_entry m as, [], M) r hn (Nat.le_refl _) (Nat.le_refl _) (Nat.le_refl _) (Nat.le_refl _) φ ?_
  · have h0 := key _ s.heap [] ⟨hW, hK, ⟨⟨hl.1, hl.2.1, fun q hq => by cases hq⟩, fun i v hi => hl.2.2 (i, eb_cn φ v) (by simpa using eb_args_in (φ := φ) as 0 i v (eb_entry_get hi))⟩, fun i x hi => ?_, fun v hv => ?_, fun v hv => (by cases hv), va_S.rf⟩
    · rw [Nat.sub_self, Nat.sub_self] at h0
      exact h0
    · have := eb_chk_lg 0 hchk i x (eb_entry_get hi)
      rw [Nat.zero_add] at this
      exact decide_eq_true this
    · obtain ⟨i, hi⟩ := List.getElem?_of_mem hv
      exact hok v (eb_args_ok as v (List.mem_of_getElem? (eb_entry_get hi)))
  · intro φ' pc ls st hφ hR arr H locs hA
    have hr := B.returns
    have hlocks := B.notSynchronized
    have hq : ∀ (t : State), t.heap = H → s.WarmedH t.vm → eb_okV r.2.1 r.1 → eb_Qc L q0 φ M r (eb_rt m) (as.map (eb_cn φ)).toArray s (.returned (eb_rv φ' (eb_rt m) r.1)) t := by
      intro t ht hWt hokr
      exact ⟨⟨φ', hφ, rfl, by rw [ht]; exact eb_Wd_moved hWt.alike hA.1, hokr⟩, hA.2.2.2.2.2.2.F ht⟩
    have hf := hA.2.2.2.2.2.2.2.2
    rcases hR with ⟨h1, h2, x, h4, rfl⟩ | ⟨h1, h2, x, hx, h4, rfl⟩ | ⟨h1, h2, x, h4, rfl⟩ | ⟨⟨C, h1⟩, h2, o, h4, rfl⟩ | ⟨h1, h2, h4, rfl⟩
    · refine W.iret (v := x) B.exec B.bytes (hr.trans h1) (fun t ht hWt => ?_) hf h2 hlocks
      have := hq t ht hWt (by rw [h4]; exact fun a ha => by cases ha)
      rw [h1, h4] at this
      rw [h1]
      exact this
    · refine W.zret (v := x) (ty := .boolean) B.exec B.bytes (hr.trans h1) (by rcases hx with rfl | rfl <;> rfl) (fun t ht hWt => ?_) hf h2 hlocks
      have := hq t ht hWt (by rw [h4]; exact fun a ha => by cases ha)
      rw [h1, h4] at this
      rw [h1]
      exact this
    · refine W.lret (v := x) B.exec B.bytes (hr.trans h1) (fun t ht hWt => ?_) hf h2 hlocks
      have := hq t ht hWt (by rw [h4]; exact fun a ha => by cases ha)
      rw [h1, h4] at this
      rw [h1]
      exact this
    · have hok1 := hA.2.2.2.2.2.1 (.inr o) List.mem_cons_self
      refine W.aret (v := eb_cn φ' (.inr o)) B.exec B.bytes (hr.trans h1) (Or.inl ⟨C, rfl⟩) (by cases o with | none => exact Or.inl rfl | some a => exact Or.inr ⟨_, rfl⟩) (fun t ht hWt => ?_) hf h2 hlocks
      have := hq t ht hWt (by rw [h4]; exact hok1)
      rw [h1, h4] at this
      rw [h1]
      exact this
    · refine W.vret B.exec B.bytes (hr.trans h1) (fun t ht hWt => ?_) hf h2 hlocks
      have := hq t ht hWt (by rw [h4]; exact fun a ha => by cases ha)
      rw [h1] at this
      rw [h1]
      exact this
