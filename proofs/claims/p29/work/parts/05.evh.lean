-- helpers of the rows an instruction
section EVH
variable {lay : mL} {d μ pc pc' n n' μ' : Nat} {ls st ls' st' as r : List Value} {I I' : mI} {F F' : mF} {R R' : mR} {Q : mP} {c : Prop} {v : Option Value}
theorem ev_nh (h : m_step lay d μ (m_cd μ pc) pc ls st I F R n = some (c, .inl (pc', ls', st', I', F', R', n'))) (hc : c) : Ev lay d μ pc ls st I F R n Q ↔ Ev lay d μ pc' ls' st' I' F' R' n' Q := (ev_nc h).trans (and_iff_right hc)
theorem m_cp {ix i0 k0 a0 b0 : Nat} {m dp sp : Int32} {a b : Nat} (h1 : m_cd μ pc = .invokestatic ix) (h2 : m_mtk (m_ox μ) ix = some (i0, 5, k0, a0, b0)) (ha : (lay a).1 = 0) :
    m_step lay d μ (m_cd μ pc) pc ls (.int m :: .int dp :: .ref b :: .int sp :: .ref a :: st) I F R n = some (a ≠ 0 ∧ b ≠ 0 ∧ (lay b).1 = 0 ∧ (¬ sp < 0 ∧ ¬ dp < 0 ∧ ¬ m < 0) ∧ (sp.toNatClampNeg + m.toNatClampNeg ≤ (lay a).2 ∧ dp.toNatClampNeg + m.toNatClampNeg ≤ (lay b).2) ∧ (st.length ≤ 4 ∨ (st.map fun v => v.category).sum ≤ 8) ∧ 1 ≤ d, .inl (pc + 3, ls, st, m_row I b (va_cpy (I a) (I b) sp.toNatClampNeg dp.toNatClampNeg m.toNatClampNeg), F, R, n)) := by
  rw [h1]
  simp only [m_step, h2, ha, m_n]
theorem m_cpF {ix i0 k0 a0 b0 : Nat} {m dp sp : Int32} {a b : Nat} (h1 : m_cd μ pc = .invokestatic ix) (h2 : m_mtk (m_ox μ) ix = some (i0, 5, k0, a0, b0)) (ha : (lay a).1 = 1) :
    m_step lay d μ (m_cd μ pc) pc ls (.int m :: .int dp :: .ref b :: .int sp :: .ref a :: st) I F R n = some ((lay b).1 = 1 ∧ (¬ sp < 0 ∧ ¬ dp < 0 ∧ ¬ m < 0) ∧ (sp.toNatClampNeg + m.toNatClampNeg ≤ (lay a).2 ∧ dp.toNatClampNeg + m.toNatClampNeg ≤ (lay b).2) ∧ (st.length ≤ 4 ∨ (st.map fun v => v.category).sum ≤ 8) ∧ 1 ≤ d, .inl (pc + 3, ls, st, I, m_row F b (va_cpy (F a) (F b) sp.toNatClampNeg dp.toNatClampNeg m.toNatClampNeg), R, n)) := by
  rw [h1]
  simp only [m_step, h2, ha, m_n]
theorem ev_lk {df o : Int} {ps : Array (Int × Int)} {x : Int32} {t : Nat} (h : m_cd μ pc = .lookupswitch df ps) (ho : Op.lookupswitch.offset ps.toList df x.toInt = o) (ht : (pc : Int) + o = .ofNat t) (hp : (ps.toList.zip (ps.toList.drop 1)).all (fun (a, next) => a.1 < next.1) = true) :
    Ev lay d μ pc ls (.int x :: st) I F R n Q ↔ Ev lay d μ t ls st I F R n Q := by
  refine ev_nh (c := (ps.toList.zip (ps.toList.drop 1)).all (fun (a, next) => a.1 < next.1) = true) ?_ hp
  rw [h]
  simp only [m_step, ho, m_jmp, ht, m_n]
end EVH
