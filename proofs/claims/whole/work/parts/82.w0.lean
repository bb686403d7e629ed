theorem W0_part {L : Nat} {xs : Nat → Int32} {j : Nat} (h : j < 17) : (W0 L xs)[160 + 2 * j]? = some (Sum.inr (13, [Value.ref (161 + 2 * j), Value.int 0])) := by
  match j, h with
  | 0, _ => exact W0_160
  | 1, _ => exact W0_162
  | 2, _ => exact W0_164
  | 3, _ => exact W0_166
  | 4, _ => exact W0_168
  | 5, _ => exact W0_170
  | 6, _ => exact W0_172
  | 7, _ => exact W0_174
  | 8, _ => exact W0_176
  | 9, _ => exact W0_178
  | 10, _ => exact W0_180
  | 11, _ => exact W0_182
  | 12, _ => exact W0_184
  | 13, _ => exact W0_186
  | 14, _ => exact W0_188
  | 15, _ => exact W0_190
  | 16, _ => exact W0_192
  | k + 17, h => exact absurd h (by omega)
theorem W0_pw {L : Nat} {xs : Nat → Int32} {j : Nat} (h : j < 17) : (W0 L xs)[161 + 2 * j]? = some (Sum.inl (0, 140, fun _ => Value.int 0)) := by
  match j, h with
  | 0, _ => exact W0_161
  | 1, _ => exact W0_163
  | 2, _ => exact W0_165
  | 3, _ => exact W0_167
  | 4, _ => exact W0_169
  | 5, _ => exact W0_171
  | 6, _ => exact W0_173
  | 7, _ => exact W0_175
  | 8, _ => exact W0_177
  | 9, _ => exact W0_179
  | 10, _ => exact W0_181
  | 11, _ => exact W0_183
  | 12, _ => exact W0_185
  | 13, _ => exact W0_187
  | 14, _ => exact W0_189
  | 15, _ => exact W0_191
  | 16, _ => exact W0_193
  | k + 17, h => exact absurd h (by omega)
theorem W0_man {L : Nat} {xs : Nat → Int32} {j : Nat} (h : j < 16) : (W0 L xs)[31 + 3 * j]? = some (Sum.inr (3, [Value.ref (32 + 3 * j), Value.int 0])) := by
  match j, h with
  | 0, _ => exact W0_31
  | 1, _ => exact W0_34
  | 2, _ => exact W0_37
  | 3, _ => exact W0_40
  | 4, _ => exact W0_43
  | 5, _ => exact W0_46
  | 6, _ => exact W0_49
  | 7, _ => exact W0_52
  | 8, _ => exact W0_55
  | 9, _ => exact W0_58
  | 10, _ => exact W0_61
  | 11, _ => exact W0_64
  | 12, _ => exact W0_67
  | 13, _ => exact W0_70
  | 14, _ => exact W0_73
  | 15, _ => exact W0_76
  | k + 16, h => exact absurd h (by omega)
theorem W0_mw {L : Nat} {xs : Nat → Int32} {j : Nat} (h : j < 16) : (W0 L xs)[32 + 3 * j]? = some (Sum.inl (0, 8, fun _ => Value.int 0)) := by
  match j, h with
  | 0, _ => exact W0_32
  | 1, _ => exact W0_35
  | 2, _ => exact W0_38
  | 3, _ => exact W0_41
  | 4, _ => exact W0_44
  | 5, _ => exact W0_47
  | 6, _ => exact W0_50
  | 7, _ => exact W0_53
  | 8, _ => exact W0_56
  | 9, _ => exact W0_59
  | 10, _ => exact W0_62
  | 11, _ => exact W0_65
  | 12, _ => exact W0_68
  | 13, _ => exact W0_71
  | 14, _ => exact W0_74
  | 15, _ => exact W0_77
  | k + 16, h => exact absurd h (by omega)
