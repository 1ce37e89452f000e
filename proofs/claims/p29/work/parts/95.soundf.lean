/-- the machine's runs are the JVM's -/
theorem m_sound {l : Launch} {base b L : Nat} {xs : Nat → Int32} {ids : m_ID} {D : va_G} {lay : mL} (h0 : lay 0 = (0, L)) : m_clo lay (m_X l base b L xs ids D lay) := by
  intro d μ pc ls st I F R n Q k
  have h1 : (lay 0).1 = 0 := by rw [h0]
  generalize hi : m_cd μ pc = ins at k
  cases ins with
  | iadd => exact y_iadd hi k
  | isub => exact y_isub hi k
  | imul => exact y_imul hi k
  | iand => exact y_iand hi k
  | ior => exact y_ior hi k
  | ixor => exact y_ixor hi k
  | ishl => exact y_ishl hi k
  | ishr => exact y_ishr hi k
  | iushr => exact y_iushr hi k
  | idiv => exact y_idiv hi k
  | irem => exact y_irem hi k
  | ineg => exact y_ineg hi k
  | ladd => exact y_ladd hi k
  | lsub => exact y_lsub hi k
  | lmul => exact y_lmul hi k
  | land => exact y_land hi k
  | lor => exact y_lor hi k
  | lshl => exact y_lshl hi k
  | lshr => exact y_lshr hi k
  | lushr => exact y_lushr hi k
  | lcmp => exact y_lcmp hi k
  | i2l => exact y_i2l hi k
  | l2i => exact y_l2i hi k
  | i2c => exact y_i2c hi k
  | i2f => exact y_i2f hi k
  | i2d => exact y_i2d hi k
  | f2i => exact y_f2i hi k
  | d2i => exact y_d2i hi k
  | d2l => exact y_d2l hi k
  | f2d => exact y_f2d hi k
  | fadd => exact y_fadd hi k
  | fsub => exact y_fsub hi k
  | fmul => exact y_fmul hi k
  | fdiv => exact y_fdiv hi k
  | dadd => exact y_dadd hi k
  | dsub => exact y_dsub hi k
  | dmul => exact y_dmul hi k
  | ddiv => exact y_ddiv hi k
  | dup => exact y_dup hi k
  | dup2 => exact y_dup2 hi k
  | pop => exact y_pop hi k
  | lreturn => exact y_lreturn hi k
  | freturn => exact y_freturn hi k
  | dreturn => exact y_dreturn hi k
  | ireturn => exact y_ireturn hi k
  | return_ => exact y_return hi k
  | fcmp v => exact y_fcmp hi k
  | dcmp v => exact y_dcmp hi k
  | iconst v => exact y_iconst hi k
  | bipush v => exact y_bipush hi k
  | sipush v => exact y_sipush hi k
  | lconst v => exact y_lconst hi k
  | iload_n v => exact y_iload_n hi k
  | iload v => exact y_iload hi k
  | lload_n v => exact y_lload_n hi k
  | lload v => exact y_lload hi k
  | fload_n v => exact y_fload_n hi k
  | fload v => exact y_fload hi k
  | dload_n v => exact y_dload_n hi k
  | dload v => exact y_dload hi k
  | aload_n v => exact y_aload_n hi k
  | aload v => exact y_aload hi k
  | istore_n v => exact y_istore_n hi k
  | istore v => exact y_istore hi k
  | fstore_n v => exact y_fstore_n hi k
  | fstore v => exact y_fstore hi k
  | astore_n v => exact y_astore_n hi k
  | astore v => exact y_astore hi k
  | lstore_n v => exact y_lstore_n hi k
  | lstore v => exact y_lstore hi k
  | dstore_n v => exact y_dstore_n hi k
  | dstore v => exact y_dstore hi k
  | goto v => exact y_goto hi k
  | ifnull v => exact y_ifnull hi k
  | ifnonnull v => exact y_ifnonnull hi k
  | ldc v => exact y_ldc hi k
  | ldc_w v => exact y_ldc_w hi k
  | ldc2_w v => exact y_ldc2_w hi k
  | newarray v => exact y_newarray hi k
  | anewarray v => exact y_anewarray hi k
  | new v => exact y_new hi k
  | fconst v =>
    match v, hi, k with
    | 0, hi, k => exact y_fconst0 hi k
    | 1, hi, k => exact y_fconst1 hi k
    | 2, hi, k => exact y_fconst2 hi k
  | dconst v =>
    match v, hi, k with
    | 0, hi, k => exact y_dconst0 hi k
    | 1, hi, k => exact y_dconst1 hi k
  | iinc i v => exact y_iinc hi k
  | tableswitch a b c e => exact y_tableswitch hi k
  | lookupswitch a b => exact y_lookupswitch hi k
  | ifCond c off => cases c with
    | eq => exact y_if_eq hi k
    | ne => exact y_if_ne hi k
    | lt => exact y_if_lt hi k
    | ge => exact y_if_ge hi k
    | gt => exact y_if_gt hi k
    | le => exact y_if_le hi k
  | if_icmp c off => cases c with
    | eq => exact y_icmp_eq hi k
    | ne => exact y_icmp_ne hi k
    | lt => exact y_icmp_lt hi k
    | ge => exact y_icmp_ge hi k
    | gt => exact y_icmp_gt hi k
    | le => exact y_icmp_le hi k
  | getfield ix => exact y_getfield h1 hi k
  | putfield ix => exact y_putfield h1 hi k
  | iaload => exact y_iaload h0 hi k
  | faload => exact y_faload h1 hi k
  | baload => exact y_baload h1 hi k
  | caload => exact y_caload h1 hi k
  | aaload => exact y_aaload h1 hi k
  | iastore => exact y_iastore h1 hi k
  | fastore => exact y_fastore h1 hi k
  | bastore => exact y_bastore h1 hi k
  | castore => exact y_castore h1 hi k
  | aastore => exact y_aastore h1 hi k
  | arraylength => exact y_arraylength h0 hi k
  | invokevirtual ix =>
    simp only [m_step] at k
    split at k
    · rename_i he
      split at k
      · rename_i hp
        split at k
        · rename_i hb
          exact m_virt h1 hi he hp hb k.1 k.2
        · exact False.elim k
      · exact False.elim k
    · exact False.elim k
  | invokestatic ix =>
    simp only [m_step] at k
    split at k
    · rename_i he
      split at k
      · rename_i hp
        split at k
        · rename_i hb
          exact m_stat hi he hp hb k.1 k.2
        · exact False.elim k
      · exact False.elim k
    · rename_i he
      split at k
      · split at k
        · rename_i hla
          exact m_copy_i h1 hi he hla k.1 k.2
        · rename_i hla
          exact m_copy_f h1 hi he hla k.1 k.2
        · exact False.elim k
      · exact False.elim k
    · rename_i he
      split at k
      · exact m_max hi he k.1 k.2
      · exact False.elim k
    · rename_i he
      split at k
      · exact m_min hi he k.1 k.2
      · exact False.elim k
    · exact False.elim k
  | invokespecial ix =>
    simp only [m_step] at k
    split at k
    · rename_i he
      split at k
      · rename_i hp
        split at k
        · rename_i hb
          exact m_spec hi he hp hb k.1 k.2
        · exact False.elim k
      · exact False.elim k
    · rename_i he
      split at k
      · rename_i hp
        split at k
        · rename_i hb
          exact m_specN hi he hp hb k.1 k.2
        · exact False.elim k
      · exact False.elim k
    · rename_i he
      split at k
      · exact m_init hi he k.1 k.2
      · exact False.elim k
    · exact False.elim k
  | _ => exact False.elim k
