-- the calls on one of two objects
section CALLS
variable {lay : mL} {d n n' k : Nat} {I I' : mI} {F F' : mF} {R R' : mR} {Q : mP} {S : Nat → Nat} {sp : Nat → UInt32} {hi : List Nat} {nx pl : Nat} {hs hs1 : List St} {pc : Nat → Nat} {sv : Nat → Option St} {st st1 : St}
theorem lt16 {g : Nat} (h : Wf S sp hi) (hg : g < S 3) : g < 16 := Nat.lt_of_lt_of_le hg h.1.1
theorem Wf_f (h : Wf S sp hi) : ∀ g, g < S 3 → fOK (sp g) := fun g hg => fLe_ok (h.2.2.2.2.2.2.2.1 g (lt16 h hg)).1
theorem Wf_sum (h : Wf S sp hi) : q_wok S sp ∧ fOK (q_wsum S sp (S 3)) := wsum_ok (N := S 119) (by have := h.2.2.2.2.2.1; omega) h.1 h.2.1.2.2 fun g hg => (h.2.2.2.2.2.2.2.1 g hg).1
theorem Wf_mean (h : Wf S sp hi) : q_mok S sp ∧ gOK (q_mean S sp) := mean_ok (N := S 119) (by have := h.2.2.2.2.2.1; omega) h.1.1 fun g hg => (h.2.2.2.2.2.2.2.1 g hg).1
theorem Wf_bsw (h : Wf S sp hi) : q_aok S sp ∧ allW S (q_age S sp (S 3)) := by
  obtain ⟨w, h2, hc, hD, hY, hN, hP, hS, hH, hU⟩ := h
  have hD1 := hD.1
  have w1 := w.1
  refine ⟨fun g hg => (age_le9 h2.2.1 (by have := (hP g (by omega)).1; omega) hN (hS g (by omega)).1).1, fun T t3 t2 wT => (wsum_ok (N := S 119 + 1) (by omega) wT (by omega) fun g hg => ?_).1⟩
  unfold q_age
  by_cases c : g < S 3
  · rw [if_pos c]
    exact (age_le9 h2.2.1 (by have := (hP g hg).1; omega) hN (hS g hg).1).2
  · rw [if_neg c]
    exact fLe_mono (hS g hg).1 (by omega)
theorem FrM_0 (h : FrM n I F R I' F' R') (hn : 331 ≤ n) : I' 0 = I 0 := (h 0 ⟨by omega, Or.inl rfl⟩).1
theorem K1_w {μ : Nat} {args : List Value} {v : Option Value} (hl : HL lay) (hf : ∀ (I : mI) (F : mF) (R : mR) (n : Nat) (nx : Nat) (pc : Nat → Nat) (sv : Nat → Option St) (Q : mP), 331 ≤ n → XS lay I F R n st.1 st.2.1 st.2.2 nx hs 0 pc sv → (∀ I' F' R' n' nx', n ≤ n' → n' ≤ n + k → XS lay I' F' R' n' st1.1 st1.2.1 st1.2.2 nx' hs1 0 pc sv → FrM n I F R I' F' R' → Q v I' F' R' n') → Ev lay d μ 0 (.ref 1 :: args) [] I F R n Q) : K1 lay d μ args st hs k v st1 hs1 := by
  intro st' hs' I F R n Q T hQ
  obtain ⟨nx, pc, sv, X⟩ := T.2.1
  exact hf I F R n nx pc sv Q T.1 X fun I' F' R' n' nx' h1 h2 X' f => hQ I' F' R' n' h1 h2 (FrM_0 f T.1) (TW_o hl T ⟨nx', pc, sv, X'⟩ f h1)
theorem k_count {y : Int32} (hl : HL lay) (wf : Wf st.1 st.2.1 st.2.2) (hd : 2 ≤ d) : K1 lay d 57 [.int y] st hs 0 (some (.int (q_count st.1 st.2.1 st.2.2 0 hs.length y))) st hs :=
  K1_w hl fun I F R n nx pc sv Q hn X hQ => f_count X wf.1 ⟨wf.2.2.2.1.1, wf.2.2.2.2.1.1⟩ (Wf_sum wf).1 (Wf_sum wf).2 hd fun I' F' R' X' f => hQ I' F' R' n nx (Nat.le_refl _) (Nat.le_refl _) X' f
theorem k_of {x y : Int32} (hl : HL lay) (wf : Wf st.1 st.2.1 st.2.2) (hd : 2 ≤ d) : K1 lay d 49 [.int x, .int y] st hs 0 (some (.int (q_of st.1 st.2.1 x y))) st hs :=
  K1_w hl fun I F R n nx pc sv Q hn X hQ => f_of X wf.1 (Wf_f wf) hd fun I' F' R' X' f => hQ I' F' R' n nx (Nat.le_refl _) (Nat.le_refl _) X' f
theorem k_ofSlot {x y : Int32} (hl : HL lay) (wf : Wf st.1 st.2.1 st.2.2) (hd : 1 ≤ d) : K1 lay d 53 [.int x, .int y] st hs 0 (some (.int (q_ofS st.1 x y))) st hs :=
  K1_w hl fun I F R n nx pc sv Q hn X hQ => f_ofSlot X wf.1 wf.2.2.1 hd fun I' F' R' X' f => hQ I' F' R' n nx (Nat.le_refl _) (Nat.le_refl _) X' f
theorem k_steps {x y : Int32} (hl : HL lay) (hd : 1 ≤ d) : K1 lay d 54 [.int x, .int y] st hs 0 (some (.int (q_sps st.1 x y))) st hs :=
  K1_w hl fun I F R n nx pc sv Q hn X hQ => f_steps X hd fun I' F' R' X' f => hQ I' F' R' n nx (Nat.le_refl _) (Nat.le_refl _) X' f
theorem k_basket {x r y : Int32} (hl : HL lay) (wf : Wf st.1 st.2.1 st.2.2) (hd : 2 ≤ d) : K1 lay d 55 [.int x, .int r, .int y, m_j] st hs 0 (some (.int (q_bsk st.1 x r y))) st hs :=
  K1_w hl fun I F R n nx pc sv Q hn X hQ => f_basket X wf.1 wf.2.1.2.2 wf.2.2.2.1 wf.2.2.2.2.1 hd fun I' F' R' X' f => hQ I' F' R' n nx (Nat.le_refl _) (Nat.le_refl _) X' f
theorem k_often {x : Int32} (hl : HL lay) (wf : Wf st.1 st.2.1 st.2.2) (hd : 2 ≤ d) : K1 lay d 56 [.int x, m_j] st hs 0 (some (.int (q_oft st.1 st.2.2 x))) st hs :=
  K1_w hl fun I F R n nx pc sv Q hn X hQ => f_often X wf.1 wf.2.2.2.2.2.2.2.2.1 hd fun I' F' R' X' f => hQ I' F' R' n nx (Nat.le_refl _) (Nat.le_refl _) X' f
theorem k_walk {x : Int32} (hl : HL lay) (wf : Wf st.1 st.2.1 st.2.2) (hd : 2 ≤ d) : K1 lay d 63 [.int x, m_j] st hs 0 (some (.int (q_wlk st.1 x))) st hs :=
  K1_w hl fun I F R n nx pc sv Q hn X hQ => f_walk X wf.1 wf.2.1.2.2 hd fun I' F' R' X' f => hQ I' F' R' n nx (Nat.le_refl _) (Nat.le_refl _) X' f
theorem k_stop {x y : Int32} (hl : HL lay) (wf : Wf st.1 st.2.1 st.2.2) (hd : 2 ≤ d) : K1 lay d 64 [.int x, .int y, m_j] st hs 0 (some (.int (q_stop st.1 x y))) st hs :=
  K1_w hl fun I F R n nx pc sv Q hn X hQ => f_stop X wf.1 wf.2.1.2.2 hd fun I' F' R' X' f => hQ I' F' R' n nx (Nat.le_refl _) (Nat.le_refl _) X' f
theorem k_shortest {x : Int32} (hl : HL lay) (wf : Wf st.1 st.2.1 st.2.2) (hd : 4 ≤ d) : K1 lay d 66 [.int x, m_j] st hs 0 (some (.int (q_sht st.1 x))) st hs :=
  K1_w hl fun I F R n nx pc sv Q hn X hQ => f_shortest X wf.1 hd fun I' F' R' X' f => hQ I' F' R' n nx (Nat.le_refl _) (Nat.le_refl _) X' f
theorem k_mean (hl : HL lay) (wf : Wf st.1 st.2.1 st.2.2) (hd : 2 ≤ d) : K1 lay d 60 [] st hs 0 (some (.long (q_lb (q_mean st.1 st.2.1)))) st hs :=
  K1_w hl fun I F R n nx pc sv Q hn X hQ => f_mean X wf.1 (Wf_mean wf).1 (Wf_mean wf).2 hd fun I' F' R' X' f => hQ I' F' R' n nx (Nat.le_refl _) (Nat.le_refl _) X' f
theorem k_bestSwap {y : Int32} (hl : HL lay) (wf : Wf st.1 st.2.1 st.2.2) (hd : 4 ≤ d) : K1 lay d 69 [.int y] st hs 0 (some (.int (q_bsw st.1 st.2.1 y))) st hs :=
  K1_w hl fun I F R n nx pc sv Q hn X hQ => f_bestSwap X wf.1 wf.2.1.2.1 wf.2.1.2.2 wf.2.2.1 wf.2.2.2.1 (Wf_bsw wf).1 (Wf_bsw wf).2 hd fun I' F' R' X' f => hQ I' F' R' n nx (Nat.le_refl _) (Nat.le_refl _) X' f
theorem k_ifSwapped {x y : Int32} (hl : HL lay) (wf : Wf st.1 st.2.1 st.2.2) (hd : 4 ≤ d) : K1 lay d 70 [.int x, .int y] st hs 0 (some (.int (q_ifs st.1 x y))) st hs :=
  K1_w hl fun I F R n nx pc sv Q hn X hQ => f_ifSwapped X wf.1 wf.2.1.2.2 wf.2.2.2.1 hd fun I' F' R' X' f => hQ I' F' R' n nx (Nat.le_refl _) (Nat.le_refl _) X' f
theorem k_set {x y : Int32} (hl : HL lay) (wf : Wf st.1 st.2.1 st.2.2) (hd : 4 ≤ d) : K1 lay d 8 [.int x, .int y] st hs 0 (some (.int (q_set st.1 x y).1)) ((q_set st.1 x y).2, st.2.1, st.2.2) (q_rc (q_set st.1 x y).1 hs st) :=
  K1_w hl fun I F R n nx pc sv Q hn X hQ => f_set X wf.1 hd fun I' F' R' nx' X' f => hQ I' F' R' n nx' (Nat.le_refl _) (Nat.le_refl _) X' f
theorem k_good {x : Int32} (hl : HL lay) (wf : Wf st.1 st.2.1 st.2.2) (hd : 4 ≤ d) : K1 lay d 15 [.int x] st hs 0 (some (.int (q_add st.1 x).1)) ((q_add st.1 x).2, st.2.1, st.2.2) (q_rc (q_add st.1 x).1 hs st) :=
  K1_w hl fun I F R n nx pc sv Q hn X hQ => f_good X wf.1 hd fun I' F' R' nx' X' f => hQ I' F' R' n nx' (Nat.le_refl _) (Nat.le_refl _) X' f
theorem k_swap {x y : Int32} (hl : HL lay) (wf : Wf st.1 st.2.1 st.2.2) (hd : 4 ≤ d) : K1 lay d 18 [.int x, .int y] st hs 0 (some (.int (q_swp st.1 x y).1)) ((q_swp st.1 x y).2, st.2.1, st.2.2) (q_rc (q_swp st.1 x y).1 hs st) :=
  K1_w hl fun I F R n nx pc sv Q hn X hQ => f_swap X wf.1 hd fun I' F' R' nx' X' f => hQ I' F' R' n nx' (Nat.le_refl _) (Nat.le_refl _) X' f
theorem k_close {x : Int32} (hl : HL lay) (wf : Wf st.1 st.2.1 st.2.2) (hd : 4 ≤ d) : K1 lay d 24 [.int x] st hs 0 (some (.int (q_cls st.1 x).1)) ((q_cls st.1 x).2, st.2.1, st.2.2) (q_rc (q_cls st.1 x).1 hs st) :=
  K1_w hl fun I F R n nx pc sv Q hn X hQ => f_close X wf.1 wf.2.2.1 hd fun I' F' R' nx' X' f => hQ I' F' R' n nx' (Nat.le_refl _) (Nat.le_refl _) X' f
theorem k_night (hl : HL lay) (wf : Wf st.1 st.2.1 st.2.2) (hd : 5 ≤ d) : K1 lay d 41 [] st hs 0 (some (.int (q_night st.1 st.2.1).1)) ((q_night st.1 st.2.1).2.1, (q_night st.1 st.2.1).2.2, st.2.2) (q_rc (q_night st.1 st.2.1).1 hs st) :=
  K1_w hl fun I F R n nx pc sv Q hn X hQ => f_night X (Wf_nightOK wf) hd fun I' F' R' nx' X' f => hQ I' F' R' n nx' (Nat.le_refl _) (Nat.le_refl _) X' f
theorem k_pick {x : Int32} (hl : HL lay) (wf : Wf st.1 st.2.1 st.2.2) (hh : st.2.2.length < 2000) (hd : 4 ≤ d) : K1 lay d 27 [.int x] st hs 1 (some (.int (q_pick st.1 st.2.2 x).1)) ((q_pick st.1 st.2.2 x).2.1, st.2.1, (q_pick st.1 st.2.2 x).2.2) (q_rc (q_pick st.1 st.2.2 x).1 hs st) :=
  K1_w hl fun I F R n nx pc sv Q hn X hQ => f_pick X ⟨wf.1, wf.2.1.2.2, wf.2.2.2.1.1, hh, wf.2.2.2.2.2.2.2.2.1, hl.2.2 n hn⟩ hd fun I' F' R' n' nx' h1 h2 _ X' f => hQ I' F' R' n' nx' h1 h2 X' f
theorem k_undo {st0 : St} {hs0 : List St} (hl : HL lay) (hd : 4 ≤ d) : K1 lay d 92 [] st (hs0 ++ [st0]) 0 (some (.int (nI hs0.length))) st0 hs0 :=
  K1_w hl fun I F R n nx pc sv Q hn X hQ => f_undo1 X hd fun I' F' R' nx' X' f => hQ I' F' R' n nx' (Nat.le_refl _) (Nat.le_refl _) X' f
theorem YS_len (h : YS lay st hs I F R n) : hs.length ≤ 6 := by
  obtain ⟨nx, pc, sv, X⟩ := h
  exact X.2.2.2.1.2.2.2.1
theorem TW_1 {st' : St} {hs' : List St} (h : TW lay st hs st' hs' I F R n) : lay 1 = (13, 0) := by
  obtain ⟨-, ⟨nx, pc, sv, X⟩, -⟩ := h
  exact X.1.1.1
theorem TW_166 {st' : St} {hs' : List St} (hl : HL lay) (h : TW lay st hs st' hs' I F R n) : lay 166 = (13, 0) := (hl.1 1).trans (TW_1 h)
theorem TW_le {st' : St} {hs' : List St} {k : Nat} (h : TW lay st hs st' hs' I F R n) (h1 : n ≤ n') (h2 : n' ≤ n + 0) : n' = n := by omega
end CALLS
