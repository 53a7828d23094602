/-- LoadsAheadModel plain -/
theorem ok_160 (l : Launch) : en_ok l kk_160 := en_good_ok (K := [kk_149, kk_139, kk_140]) (List.forall_mem_cons.mpr ⟨ok_149 l, List.forall_mem_cons.mpr ⟨ok_139 l, List.forall_mem_cons.mpr ⟨ok_140 l, fun _ h => absurd h List.not_mem_nil⟩⟩⟩) (fuel := 22) (by decide +kernel)
/-- LoadsAhead plain -/
theorem ok_161 (l : Launch) : en_ok l kk_161 := en_good_ok (K := [kk_142, kk_143]) (List.forall_mem_cons.mpr ⟨ok_142 l, List.forall_mem_cons.mpr ⟨ok_143 l, fun _ h => absurd h List.not_mem_nil⟩⟩) (fuel := 10) (by decide +kernel)
/-- LoadsAheadModel plain -/
theorem ok_162 (l : Launch) : en_ok l kk_162 := en_good_ok (K := [kk_149, kk_145, kk_146]) (List.forall_mem_cons.mpr ⟨ok_149 l, List.forall_mem_cons.mpr ⟨ok_145 l, List.forall_mem_cons.mpr ⟨ok_146 l, fun _ h => absurd h List.not_mem_nil⟩⟩⟩) (fuel := 16) (by decide +kernel)
/-- LoadsAhead unlike -/
theorem ok_163 (l : Launch) : en_ok l kk_163 := en_good_ok (K := [kk_72]) (List.forall_mem_cons.mpr ⟨ok_72 l, fun _ h => absurd h List.not_mem_nil⟩) (fuel := 8) (by decide +kernel)
/-- LoadsAheadModel unlike -/
theorem ok_164 (l : Launch) : en_ok l kk_164 := en_good_ok (K := [kk_75]) (List.forall_mem_cons.mpr ⟨ok_75 l, fun _ h => absurd h List.not_mem_nil⟩) (fuel := 8) (by decide +kernel)
/-- LoadsAhead unlike -/
theorem ok_165 (l : Launch) : en_ok l kk_165 := en_good_ok (K := [kk_77]) (List.forall_mem_cons.mpr ⟨ok_77 l, fun _ h => absurd h List.not_mem_nil⟩) (fuel := 8) (by decide +kernel)
/-- LoadsAheadModel unlike -/
theorem ok_166 (l : Launch) : en_ok l kk_166 := en_good_ok (K := [kk_80]) (List.forall_mem_cons.mpr ⟨ok_80 l, fun _ h => absurd h List.not_mem_nil⟩) (fuel := 8) (by decide +kernel)
/-- LoadsAhead unlike -/
theorem ok_167 (l : Launch) : en_ok l kk_167 := en_good_ok (K := [kk_82]) (List.forall_mem_cons.mpr ⟨ok_82 l, fun _ h => absurd h List.not_mem_nil⟩) (fuel := 8) (by decide +kernel)
/-- LoadsAheadModel unlike -/
theorem ok_168 (l : Launch) : en_ok l kk_168 := en_good_ok (K := [kk_85]) (List.forall_mem_cons.mpr ⟨ok_85 l, fun _ h => absurd h List.not_mem_nil⟩) (fuel := 8) (by decide +kernel)
/-- LoadsAhead fastest -/
theorem ok_169 (l : Launch) : en_ok l kk_169 := en_good_ok (K := []) (fun _ h => absurd h List.not_mem_nil) (fuel := 6) (by decide +kernel)
/-- LoadsAheadModel in -/
theorem ok_170 (l : Launch) : en_ok l kk_170 := en_good_ok (K := []) (fun _ h => absurd h List.not_mem_nil) (fuel := 7) (by decide +kernel)
/-- LoadsAheadModel fastest -/
theorem ok_171 (l : Launch) : en_ok l kk_171 := en_good_ok (K := [kk_170]) (List.forall_mem_cons.mpr ⟨ok_170 l, fun _ h => absurd h List.not_mem_nil⟩) (fuel := 9) (by decide +kernel)
/-- LoadsAhead fastest -/
theorem ok_172 (l : Launch) : en_ok l kk_172 := en_good_ok (K := []) (fun _ h => absurd h List.not_mem_nil) (fuel := 14) (by decide +kernel)
/-- LoadsAheadModel in -/
theorem ok_173 (l : Launch) : en_ok l kk_173 := en_good_ok (K := []) (fun _ h => absurd h List.not_mem_nil) (fuel := 11) (by decide +kernel)
/-- LoadsAheadModel fastest -/
theorem ok_174 (l : Launch) : en_ok l kk_174 := en_good_ok (K := [kk_173]) (List.forall_mem_cons.mpr ⟨ok_173 l, fun _ h => absurd h List.not_mem_nil⟩) (fuel := 12) (by decide +kernel)
/-- LoadsAhead fastest -/
theorem ok_175 (l : Launch) : en_ok l kk_175 := en_good_ok (K := []) (fun _ h => absurd h List.not_mem_nil) (fuel := 9) (by decide +kernel)
/-- LoadsAheadModel in -/
theorem ok_176 (l : Launch) : en_ok l kk_176 := en_good_ok (K := []) (fun _ h => absurd h List.not_mem_nil) (fuel := 10) (by decide +kernel)
/-- LoadsAheadModel fastest -/
theorem ok_177 (l : Launch) : en_ok l kk_177 := en_good_ok (K := [kk_176]) (List.forall_mem_cons.mpr ⟨ok_176 l, fun _ h => absurd h List.not_mem_nil⟩) (fuel := 9) (by decide +kernel)
/-- LoadsAhead cautious -/
theorem ok_178 (l : Launch) : en_ok l kk_178 := en_good_ok (K := [kk_72]) (List.forall_mem_cons.mpr ⟨ok_72 l, fun _ h => absurd h List.not_mem_nil⟩) (fuel := 8) (by decide +kernel)
/-- LoadsAheadModel cautious -/
theorem ok_179 (l : Launch) : en_ok l kk_179 := en_good_ok (K := [kk_75]) (List.forall_mem_cons.mpr ⟨ok_75 l, fun _ h => absurd h List.not_mem_nil⟩) (fuel := 8) (by decide +kernel)
/-- LoadsAhead cautious -/
theorem ok_180 (l : Launch) : en_ok l kk_180 := en_good_ok (K := [kk_77]) (List.forall_mem_cons.mpr ⟨ok_77 l, fun _ h => absurd h List.not_mem_nil⟩) (fuel := 8) (by decide +kernel)
/-- LoadsAheadModel cautious -/
theorem ok_181 (l : Launch) : en_ok l kk_181 := en_good_ok (K := [kk_80]) (List.forall_mem_cons.mpr ⟨ok_80 l, fun _ h => absurd h List.not_mem_nil⟩) (fuel := 8) (by decide +kernel)
/-- LoadsAhead cautious -/
theorem ok_182 (l : Launch) : en_ok l kk_182 := en_good_ok (K := [kk_82]) (List.forall_mem_cons.mpr ⟨ok_82 l, fun _ h => absurd h List.not_mem_nil⟩) (fuel := 8) (by decide +kernel)
/-- LoadsAheadModel cautious -/
theorem ok_183 (l : Launch) : en_ok l kk_183 := en_good_ok (K := [kk_85]) (List.forall_mem_cons.mpr ⟨ok_85 l, fun _ h => absurd h List.not_mem_nil⟩) (fuel := 8) (by decide +kernel)
/-- LoadsAhead worst -/
theorem ok_184 (l : Launch) : en_ok l kk_184 := en_good_ok (K := []) (fun _ h => absurd h List.not_mem_nil) (fuel := 6) (by decide +kernel)
/-- LoadsAheadModel worst -/
theorem ok_185 (l : Launch) : en_ok l kk_185 := en_good_ok (K := [kk_170]) (List.forall_mem_cons.mpr ⟨ok_170 l, fun _ h => absurd h List.not_mem_nil⟩) (fuel := 9) (by decide +kernel)
/-- LoadsAhead worst -/
theorem ok_186 (l : Launch) : en_ok l kk_186 := en_good_ok (K := []) (fun _ h => absurd h List.not_mem_nil) (fuel := 12) (by decide +kernel)
/-- LoadsAheadModel worst -/
theorem ok_187 (l : Launch) : en_ok l kk_187 := en_good_ok (K := [kk_173]) (List.forall_mem_cons.mpr ⟨ok_173 l, fun _ h => absurd h List.not_mem_nil⟩) (fuel := 12) (by decide +kernel)
/-- LoadsAhead worst -/
theorem ok_188 (l : Launch) : en_ok l kk_188 := en_good_ok (K := []) (fun _ h => absurd h List.not_mem_nil) (fuel := 9) (by decide +kernel)
/-- LoadsAheadModel worst -/
theorem ok_189 (l : Launch) : en_ok l kk_189 := en_good_ok (K := [kk_176]) (List.forall_mem_cons.mpr ⟨ok_176 l, fun _ h => absurd h List.not_mem_nil⟩) (fuel := 9) (by decide +kernel)
/-- LoadsAhead deep -/
theorem ok_190 (l : Launch) : en_ok l kk_190 := en_good_ok (K := []) (fun _ h => absurd h List.not_mem_nil) (fuel := 7) (by decide +kernel)
/-- LoadsAheadModel deep -/
theorem ok_191 (l : Launch) : en_ok l kk_191 := en_good_ok (K := []) (fun _ h => absurd h List.not_mem_nil) (fuel := 12) (by decide +kernel)
/-- LoadsAhead.Plain sharedBytes -/
theorem ok_192 (l : Launch) : en_ok l kk_192 := en_good_ok (K := []) (fun _ h => absurd h List.not_mem_nil) (fuel := 12) (by decide +kernel)
/-- LoadsAhead mix -/
theorem ok_193 (l : Launch) : en_ok l kk_193 := en_good_ok (K := [kk_154, kk_192]) (List.forall_mem_cons.mpr ⟨ok_154 l, List.forall_mem_cons.mpr ⟨ok_192 l, fun _ h => absurd h List.not_mem_nil⟩⟩) (fuel := 18) (by decide +kernel)
/-- LoadsAheadModel mix -/
theorem ok_194 (l : Launch) : en_ok l kk_194 := en_good_ok (K := [kk_149]) (List.forall_mem_cons.mpr ⟨ok_149 l, fun _ h => absurd h List.not_mem_nil⟩) (fuel := 14) (by decide +kernel)
/-- LoadsAhead watch -/
theorem ok_195 (l : Launch) : en_ok l kk_195 := en_good_ok (K := []) (fun _ h => absurd h List.not_mem_nil) (fuel := 6) (by decide +kernel)
/-- LoadsAheadModel watch -/
theorem ok_196 (l : Launch) : en_ok l kk_196 := en_good_ok (K := [kk_170]) (List.forall_mem_cons.mpr ⟨ok_170 l, fun _ h => absurd h List.not_mem_nil⟩) (fuel := 9) (by decide +kernel)
/-- LoadsAhead watch -/
theorem ok_197 (l : Launch) : en_ok l kk_197 := en_good_ok (K := []) (fun _ h => absurd h List.not_mem_nil) (fuel := 9) (by decide +kernel)
/-- LoadsAheadModel watch -/
theorem ok_198 (l : Launch) : en_ok l kk_198 := en_good_ok (K := [kk_176]) (List.forall_mem_cons.mpr ⟨ok_176 l, fun _ h => absurd h List.not_mem_nil⟩) (fuel := 9) (by decide +kernel)
/-- LoadsAhead watch -/
theorem ok_199 (l : Launch) : en_ok l kk_199 := en_good_ok (K := [kk_108]) (List.forall_mem_cons.mpr ⟨ok_108 l, fun _ h => absurd h List.not_mem_nil⟩) (fuel := 20) (by decide +kernel)
/-- LoadsAheadModel watch -/
theorem ok_200 (l : Launch) : en_ok l kk_200 := en_good_ok (K := [kk_173, kk_111]) (List.forall_mem_cons.mpr ⟨ok_173 l, List.forall_mem_cons.mpr ⟨ok_111 l, fun _ h => absurd h List.not_mem_nil⟩⟩) (fuel := 13) (by decide +kernel)
/-- LoadsAhead watch -/
theorem ok_201 (l : Launch) : en_ok l kk_201 := en_good_ok (K := [kk_113]) (List.forall_mem_cons.mpr ⟨ok_113 l, fun _ h => absurd h List.not_mem_nil⟩) (fuel := 20) (by decide +kernel)
/-- LoadsAheadModel watch -/
theorem ok_202 (l : Launch) : en_ok l kk_202 := en_good_ok (K := [kk_173, kk_116]) (List.forall_mem_cons.mpr ⟨ok_173 l, List.forall_mem_cons.mpr ⟨ok_116 l, fun _ h => absurd h List.not_mem_nil⟩⟩) (fuel := 13) (by decide +kernel)
/-- LoadsAhead watched -/
theorem ok_203 (l : Launch) : en_ok l kk_203 := en_good_ok (K := []) (fun _ h => absurd h List.not_mem_nil) (fuel := 6) (by decide +kernel)
/-- LoadsAheadModel watched -/
theorem ok_204 (l : Launch) : en_ok l kk_204 := en_good_ok (K := [kk_170]) (List.forall_mem_cons.mpr ⟨ok_170 l, fun _ h => absurd h List.not_mem_nil⟩) (fuel := 9) (by decide +kernel)
/-- LoadsAhead watched -/
theorem ok_205 (l : Launch) : en_ok l kk_205 := en_good_ok (K := []) (fun _ h => absurd h List.not_mem_nil) (fuel := 9) (by decide +kernel)
/-- LoadsAheadModel watched -/
theorem ok_206 (l : Launch) : en_ok l kk_206 := en_good_ok (K := [kk_176]) (List.forall_mem_cons.mpr ⟨ok_176 l, fun _ h => absurd h List.not_mem_nil⟩) (fuel := 9) (by decide +kernel)
/-- LoadsAhead watched -/
theorem ok_207 (l : Launch) : en_ok l kk_207 := en_good_ok (K := []) (fun _ h => absurd h List.not_mem_nil) (fuel := 11) (by decide +kernel)
/-- LoadsAheadModel watched -/
theorem ok_208 (l : Launch) : en_ok l kk_208 := en_good_ok (K := [kk_173]) (List.forall_mem_cons.mpr ⟨ok_173 l, fun _ h => absurd h List.not_mem_nil⟩) (fuel := 11) (by decide +kernel)
/-- LoadsAhead watched -/
theorem ok_209 (l : Launch) : en_ok l kk_209 := en_good_ok (K := []) (fun _ h => absurd h List.not_mem_nil) (fuel := 13) (by decide +kernel)
/-- LoadsAheadModel in -/
theorem ok_210 (l : Launch) : en_ok l kk_210 := en_good_ok (K := []) (fun _ h => absurd h List.not_mem_nil) (fuel := 7) (by decide +kernel)
/-- LoadsAheadModel watched -/
theorem ok_211 (l : Launch) : en_ok l kk_211 := en_good_ok (K := [kk_173, kk_210]) (List.forall_mem_cons.mpr ⟨ok_173 l, List.forall_mem_cons.mpr ⟨ok_210 l, fun _ h => absurd h List.not_mem_nil⟩⟩) (fuel := 16) (by decide +kernel)
/-- LoadsAhead watched -/
theorem ok_212 (l : Launch) : en_ok l kk_212 := en_good_ok (K := []) (fun _ h => absurd h List.not_mem_nil) (fuel := 23) (by decide +kernel)
/-- LoadsAheadModel in -/
theorem ok_213 (l : Launch) : en_ok l kk_213 := en_good_ok (K := []) (fun _ h => absurd h List.not_mem_nil) (fuel := 11) (by decide +kernel)
/-- LoadsAheadModel watched -/
theorem ok_214 (l : Launch) : en_ok l kk_214 := en_good_ok (K := [kk_173, kk_213]) (List.forall_mem_cons.mpr ⟨ok_173 l, List.forall_mem_cons.mpr ⟨ok_213 l, fun _ h => absurd h List.not_mem_nil⟩⟩) (fuel := 22) (by decide +kernel)
/-- LoadsAhead watched -/
theorem ok_215 (l : Launch) : en_ok l kk_215 := en_good_ok (K := []) (fun _ h => absurd h List.not_mem_nil) (fuel := 16) (by decide +kernel)
/-- LoadsAheadModel in -/
theorem ok_216 (l : Launch) : en_ok l kk_216 := en_good_ok (K := []) (fun _ h => absurd h List.not_mem_nil) (fuel := 10) (by decide +kernel)
/-- LoadsAheadModel watched -/
theorem ok_217 (l : Launch) : en_ok l kk_217 := en_good_ok (K := [kk_173, kk_216]) (List.forall_mem_cons.mpr ⟨ok_173 l, List.forall_mem_cons.mpr ⟨ok_216 l, fun _ h => absurd h List.not_mem_nil⟩⟩) (fuel := 16) (by decide +kernel)
/-- LoadsAhead.State withSet -/
theorem ok_218 (l : Launch) : en_ok l kk_218 := en_good_ok (K := []) (fun _ h => absurd h List.not_mem_nil) (fuel := 231) (by decide +kernel)
/-- java/util/Arrays fill -/
theorem ok_219 (l : Launch) : en_ok l kk_219 := en_fill l (T := tW_39) (j := 27) (n := 20) (b := ((-1), (-1))) (v := ((-1), (-1))) (by decide +kernel) (by decide +kernel)
/-- LoadsAhead.State dropSets -/
theorem ok_220 (l : Launch) : en_ok l kk_220 := en_good_ok (K := [kk_219]) (List.forall_mem_cons.mpr ⟨ok_219 l, fun _ h => absurd h List.not_mem_nil⟩) (fuel := 7) (by decide +kernel)
/-- LoadsAhead forget -/
theorem ok_221 (l : Launch) : en_ok l kk_221 := en_good_ok (K := [kk_218, kk_220]) (List.forall_mem_cons.mpr ⟨ok_218 l, List.forall_mem_cons.mpr ⟨ok_220 l, fun _ h => absurd h List.not_mem_nil⟩⟩) (fuel := 13) (by decide +kernel)
/-- LoadsAheadModel withSet -/
theorem ok_222 (l : Launch) : en_ok l kk_222 := en_good_ok (K := []) (fun _ h => absurd h List.not_mem_nil) (fuel := 12) (by decide +kernel)
/-- LoadsAheadModel forget -/
theorem ok_223 (l : Launch) : en_ok l kk_223 := en_good_ok (K := [kk_222]) (List.forall_mem_cons.mpr ⟨ok_222 l, fun _ h => absurd h List.not_mem_nil⟩) (fuel := 13) (by decide +kernel)
/-- LoadsAhead seed -/
theorem ok_224 (l : Launch) : en_ok l kk_224 := en_good_ok (K := []) (fun _ h => absurd h List.not_mem_nil) (fuel := 6) (by decide +kernel)
/-- LoadsAheadModel in -/
theorem ok_225 (l : Launch) : en_ok l kk_225 := en_good_ok (K := []) (fun _ h => absurd h List.not_mem_nil) (fuel := 7) (by decide +kernel)
/-- LoadsAheadModel seed -/
theorem ok_226 (l : Launch) : en_ok l kk_226 := en_good_ok (K := [kk_225]) (List.forall_mem_cons.mpr ⟨ok_225 l, fun _ h => absurd h List.not_mem_nil⟩) (fuel := 9) (by decide +kernel)
/-- LoadsAhead seed -/
theorem ok_227 (l : Launch) : en_ok l kk_227 := en_good_ok (K := []) (fun _ h => absurd h List.not_mem_nil) (fuel := 14) (by decide +kernel)
/-- LoadsAheadModel in -/
theorem ok_228 (l : Launch) : en_ok l kk_228 := en_good_ok (K := []) (fun _ h => absurd h List.not_mem_nil) (fuel := 11) (by decide +kernel)
/-- LoadsAheadModel seed -/
theorem ok_229 (l : Launch) : en_ok l kk_229 := en_good_ok (K := [kk_228]) (List.forall_mem_cons.mpr ⟨ok_228 l, fun _ h => absurd h List.not_mem_nil⟩) (fuel := 12) (by decide +kernel)
