section INV
variable {lay : mL} {d a n n' : Nat} {I I' : mI} {F F' : mF} {R R' : mR} {Q : mP} {S : Nat → Nat} {sp : Nat → UInt32} {hi : List Nat} {nx pm pm' pl : Nat} {hs : List St} {pc : Nat → Nat} {sv : Nat → Option St}
/-- class and reference leave each other alone -/
theorem MX_fr (h : MX lay I F R S sp hi pm hs pl pc sv) (hf : FrM n I F R I' F' R') (hn : 180 ≤ n) : MX lay I' F' R' S sp hi pm hs pl pc sv := by
  obtain ⟨u1, u2, u3, u4, u5, u6, u7⟩ := h
  have o : ∀ x, 166 ≤ x → x ≤ 179 → I' x = I x ∧ F' x = F x ∧ R' x = R x := fun x h1 h2 => hf x (by omega)
  have ch : ∀ k, k < pm → I' 176 k = I 176 k ∧ I' 177 k = I 177 k := fun k _ => by rw [(o 176 (by omega) (by omega)).1, (o 177 (by omega) (by omega)).1]; exact ⟨rfl, rfl⟩
  have e166 := (o 166 (by omega) (by omega)).1
  have er := (o 166 (by omega) (by omega)).2.2
  exact ⟨by unfold ML at u1 ⊢; rw [er]; exact u1, MS_off u2 (o 167 (by omega) (by omega)).1 (o 168 (by omega) (by omega)).2.1, by rw [(o 167 (by omega) (by omega)).1]; exact Mch_off u3 (Nat.le_refl _) ch, by rw [e166]; exact u4, HM_sm u5 (Nat.le_refl _) (by rw [e166]) (o 171 (by omega) (by omega)).1 (o 172 (by omega) (by omega)).2.1 ch, VM_sm u6 (Nat.le_refl _) (by rw [e166]) (o 173 (by omega) (by omega)).1 (o 174 (by omega) (by omega)).2.1 ch, PM_sm u7 (by rw [e166]) (o 175 (by omega) (by omega)).1⟩
theorem XS_fr (h : XS lay I F R n S sp hi nx hs pl pc sv) (hf : FrR I F I' F') : XS lay I' F' R n S sp hi nx hs pl pc sv := by
  obtain ⟨h1, h2, h3, h4, h5, h6, h7⟩ := h
  have o : ∀ x, (x < 166 ∨ 179 < x) → I' x = I x ∧ F' x = F x ∧ R x = R x := fun x hx => ⟨(hf x hx).1, (hf x hx).2, rfl⟩
  exact ⟨h1, h2, CSh_sm h3 (fun x hx => o x (by omega)) (Nat.le_refl _), HG_sm h4 (fun x hx => o x (by omega)) (Nat.le_refl _), PD_sm h5 (o 33 (by omega)).1 (o 34 (by omega)).1, SV_sm h6 (fun x hx => o x (by omega)) (Nat.le_refl _), h7⟩
def OKs (pm : Nat) (st : St) : Prop := Wf st.1 st.2.1 st.2.2 ∧ st.2.2.length ≤ pm
theorem OKs_mono {st : St} (h : OKs pm st) (hp : pm ≤ pm') : OKs pm' st := ⟨h.1, Nat.le_trans h.2 hp⟩
def OKh (pm : Nat) (hs : List St) : Prop := ∀ (j : Nat) (st : St), hs[j]? = some st → OKs pm st
def OKv (pm : Nat) (sv : Nat → Option St) : Prop := ∀ (k : Nat) (st : St), sv k = some st → OKs pm st
theorem OKh_mono (h : OKh pm hs) (hp : pm ≤ pm') : OKh pm' hs := fun j st e => OKs_mono (h j st e) hp
theorem OKv_mono (h : OKv pm sv) (hp : pm ≤ pm') : OKv pm' sv := fun j st e => OKs_mono (h j st e) hp
theorem OKh_app {st : St} {l : List St} (h : OKh pm l) (hs' : OKs pm st) : OKh pm (l ++ [st]) := by
  intro j su hj
  rw [List.getElem?_append] at hj
  split at hj
  · exact h _ su hj
  · generalize j - l.length = q at hj
    cases q with
    | zero => cases hj; exact hs'
    | succ q => cases hj
theorem OKh_rec {st : St} (h : OKh pm hs) (hs' : OKs pm st) : OKh pm (q_rec hs st) := by
  unfold q_rec
  by_cases c : hs.length = 6
  · rw [if_pos c]
    exact OKh_app (fun j su hj => by rw [List.getElem?_drop] at hj; exact h _ su hj) hs'
  · rw [if_neg c]
    exact OKh_app h hs'
theorem OKh_rc {st : St} {ans : Int32} (h : OKh pm hs) (hs' : OKs pm st) : OKh pm (q_rc ans hs st) := by
  unfold q_rc
  split
  · exact h
  · exact OKh_rec h hs'
theorem OKv_sv {st : St} {k : Nat} (h : OKv pm sv) (hs' : OKs pm st) : OKv pm (q_sv sv k st) := by
  intro j su hj
  unfold q_sv at hj
  by_cases e : j = k
  · rw [if_pos e] at hj; cases hj; exact hs'
  · rw [if_neg e] at hj; exact h j su hj
/-- what holds before the law's call c -/
def Inv (lay : mL) (r0 : Nat → Int32) (c : Nat) (I : mI) (F : mF) (R : mR) (n : Nat) : Prop := ∃ (S : Nat → Nat) (sp : Nat → UInt32) (hi : List Nat) (nx : Nat) (hs : List St) (pl : Nat) (pc : Nat → Nat) (sv : Nat → Option St) (pm : Nat), XS lay I F R n S sp hi nx hs pl pc sv ∧ MX lay I F R S sp hi pm hs pl pc sv ∧ OKs pm (S, sp, hi) ∧ OKh pm hs ∧ OKv pm sv ∧ padOK pl pc ∧ 180 + pm ≤ n ∧ 3 * n + pl ≤ 540 + 8 * c ∧ c ≤ 512 ∧ I 0 = r0
/-- one call of the law is done -/
def Nx (lay : mL) (r0 : Nat → Int32) (c : Nat) (Q : mP) : Prop := ∀ I F R n, Inv lay r0 (c + 1) I F R n → Ev lay 13 167 801 [.ref 0, .ref 1, .ref 166, .int (nI (4 * c))] [] I F R n Q
/-- the call's end: the class's state and the reference's are the same again -/
theorem Nx_end {c : Nat} {r0 : Nat → Int32} (hN : Nx lay r0 c Q) (hX : XS lay I F R n S sp hi nx hs pl pc sv) (hM : MX lay I F R S sp hi pm hs pl pc sv) (h1 : OKs pm (S, sp, hi)) (h2 : OKh pm hs) (h3 : OKv pm sv) (h4 : padOK pl pc) (h5 : 180 + pm ≤ n) (h6 : 3 * n + pl ≤ 540 + 8 * (c + 1)) (h7 : c < 512) (h8 : I 0 = r0) : Ev lay 13 167 801 [.ref 0, .ref 1, .ref 166, .int (nI (4 * c))] [] I F R n Q :=
  hN I F R n ⟨S, sp, hi, nx, hs, pl, pc, sv, pm, hX, hM, h1, h2, h3, h4, h5, h6, by omega, h8⟩
theorem FrM_0 (h : FrM n I F R I' F' R') (hn : 180 ≤ n) : I' 0 = I 0 := (h 0 (by omega)).1
theorem FrR_0 (h : FrR I F I' F') : I' 0 = I 0 := (h 0 (by omega)).1
theorem lt16 {g : Nat} (h : Wf S sp hi) (hg : g < S 3) : g < 16 := Nat.lt_of_lt_of_le hg h.1.1
theorem Wf_f (h : Wf S sp hi) : ∀ g, g < S 3 → fOK (sp g) := fun g hg => fLe_ok (h.2.2.2.2.2.2.2.1 g (lt16 h hg)).1
theorem Wf_sum (h : Wf S sp hi) : q_wok S sp ∧ fOK (q_wsum S sp (S 3)) := wsum_ok (N := S 119) (by have := h.2.2.2.2.2.1; omega) h.1 h.2.1.2.2 fun g hg => (h.2.2.2.2.2.2.2.1 g hg).1
theorem Wf_mean (h : Wf S sp hi) : q_mok S sp ∧ gOK (q_mean S sp) := mean_ok (N := S 119) (by have := h.2.2.2.2.2.1; omega) h.1.1 fun g hg => (h.2.2.2.2.2.2.2.1 g hg).1
theorem Wf_bsw (h : Wf S sp hi) : q_aok S sp ∧ allW S (q_age S sp (S 3)) := by
  obtain ⟨w, h2, hc, hD, hY, hN, hP, hS, hH, hU⟩ := h
  have hD1 := hD.1
  have w1 := w.1
  refine ⟨fun g hg => (age_le9 h2.2.1 (by have := (hP g (by omega)).1; omega) hN (hS g (by omega)).1).1, fun T t3 t2 wT => (wsum_ok (N := S 119 + 1) (by omega) wT (by omega) fun g hg => ?_).1⟩
  unfold q_age
  by_cases c : g < S 3
  · rw [if_pos c]
    exact (age_le9 h2.2.1 (by have := (hP g hg).1; omega) hN (hS g hg).1).2
  · rw [if_neg c]
    exact fLe_mono (hS g hg).1 (by omega)
theorem lg_self (x : Int64) : lg_cmp x x = nI 0 := by
  unfold lg_cmp
  rw [if_neg (by exact Int64.lt_irrefl), if_pos rfl]
  rfl
def uV (v : Int64) : Nat := v.toBitVec.toNat
theorem uV_of (v : Int64) : v = lN (uV v) := wb_inj (by rw [wb_tb]; simp [uV])
theorem uV_lt (v : Int64) : uV v < 18446744073709551616 := v.toBitVec.isLt
theorem ptl_le {u : Nat} : q_ptl pl u ≤ pl + 8 := by
  unfold q_ptl
  cases e : q_scan u 8 0 with
  | none => exact Nat.le_add_right _ _
  | some m =>
    cases m with
    | zero => exact Nat.le_add_right _ _
    | succ m =>
      have := (q_scan_le 8 0 _ e).2.1
      dsimp only
      split <;> omega
theorem f_putv {v : Int64} (h : XS lay I F R n S sp hi nx hs pl pc sv) (hd : 1 ≤ d) (hQ : ∀ I' F' R', XS lay I' F' R' n S sp hi nx hs (q_ptl pl (uV v)) (q_ptc pl pc (uV v)) sv → FrM n I F R I' F' R' → Q (some (.int (q_put pl (uV v)))) I' F' R' n) : Ev lay d 73 0 [.ref 1, .long v, m_j] [] I F R n Q := by
  have key := f_put (u := uV v) h (uV_lt v) hd hQ
  rw [← uV_of v] at key
  exact key
theorem m_putv {v : Int64} (h : MX lay I F R S sp hi pm hs pl pc sv) (hpl : pl ≤ 80) (hd : 1 ≤ d) (hQ : ∀ I' F', MX lay I' F' R S sp hi pm hs (q_ptl pl (uV v)) (q_ptc pl pc (uV v)) sv → FrR I F I' F' → Q (some (.int (q_put pl (uV v)))) I' F' R n) : Ev lay d 153 0 [.ref 166, .long v, m_j, m_j, m_j, m_j, m_j, m_j] [] I F R n Q := by
  have key := m_put (u := uV v) h (uV_lt v) hpl hd hQ
  rw [← uV_of v] at key
  exact key
end INV
