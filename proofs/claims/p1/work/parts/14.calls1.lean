/-- LoadsAheadModel in -/
theorem ok_90 (l : Launch) : en_ok l kk_90 := en_good_ok (K := []) (fun _ h => absurd h List.not_mem_nil) (fuel := 11) (by decide +kernel)
/-- LoadsAheadModel tried -/
theorem ok_91 (l : Launch) : en_ok l kk_91 := en_good_ok (K := [kk_88, kk_89, kk_90, kk_75]) (List.forall_mem_cons.mpr ⟨ok_88 l, List.forall_mem_cons.mpr ⟨ok_89 l, List.forall_mem_cons.mpr ⟨ok_90 l, List.forall_mem_cons.mpr ⟨ok_75 l, fun _ h => absurd h List.not_mem_nil⟩⟩⟩⟩) (fuel := 26) (by decide +kernel)
/-- LoadsAhead tried -/
theorem ok_92 (l : Launch) : en_ok l kk_92 := en_good_ok (K := [kk_77]) (List.forall_mem_cons.mpr ⟨ok_77 l, fun _ h => absurd h List.not_mem_nil⟩) (fuel := 8) (by decide +kernel)
/-- LoadsAheadModel tried -/
theorem ok_93 (l : Launch) : en_ok l kk_93 := en_good_ok (K := [kk_88, kk_89, kk_90, kk_80]) (List.forall_mem_cons.mpr ⟨ok_88 l, List.forall_mem_cons.mpr ⟨ok_89 l, List.forall_mem_cons.mpr ⟨ok_90 l, List.forall_mem_cons.mpr ⟨ok_80 l, fun _ h => absurd h List.not_mem_nil⟩⟩⟩⟩) (fuel := 26) (by decide +kernel)
/-- LoadsAhead tried -/
theorem ok_94 (l : Launch) : en_ok l kk_94 := en_good_ok (K := [kk_82]) (List.forall_mem_cons.mpr ⟨ok_82 l, fun _ h => absurd h List.not_mem_nil⟩) (fuel := 8) (by decide +kernel)
/-- LoadsAheadModel tried -/
theorem ok_95 (l : Launch) : en_ok l kk_95 := en_good_ok (K := [kk_88, kk_89, kk_90, kk_85]) (List.forall_mem_cons.mpr ⟨ok_88 l, List.forall_mem_cons.mpr ⟨ok_89 l, List.forall_mem_cons.mpr ⟨ok_90 l, List.forall_mem_cons.mpr ⟨ok_85 l, fun _ h => absurd h List.not_mem_nil⟩⟩⟩⟩) (fuel := 26) (by decide +kernel)
/-- LoadsAhead isTotal -/
theorem ok_96 (l : Launch) : en_ok l kk_96 := en_good_ok (K := []) (fun _ h => absurd h List.not_mem_nil) (fuel := 6) (by decide +kernel)
/-- LoadsAhead lastRun -/
theorem ok_97 (l : Launch) : en_ok l kk_97 := en_good_ok (K := [kk_96]) (List.forall_mem_cons.mpr ⟨ok_96 l, fun _ h => absurd h List.not_mem_nil⟩) (fuel := 7) (by decide +kernel)
/-- LoadsAheadModel in -/
theorem ok_98 (l : Launch) : en_ok l kk_98 := en_good_ok (K := []) (fun _ h => absurd h List.not_mem_nil) (fuel := 7) (by decide +kernel)
/-- LoadsAheadModel lastRun -/
theorem ok_99 (l : Launch) : en_ok l kk_99 := en_good_ok (K := [kk_98]) (List.forall_mem_cons.mpr ⟨ok_98 l, fun _ h => absurd h List.not_mem_nil⟩) (fuel := 9) (by decide +kernel)
/-- LoadsAhead isTotal -/
theorem ok_100 (l : Launch) : en_ok l kk_100 := en_good_ok (K := []) (fun _ h => absurd h List.not_mem_nil) (fuel := 10) (by decide +kernel)
/-- LoadsAhead lastRun -/
theorem ok_101 (l : Launch) : en_ok l kk_101 := en_good_ok (K := [kk_100]) (List.forall_mem_cons.mpr ⟨ok_100 l, fun _ h => absurd h List.not_mem_nil⟩) (fuel := 10) (by decide +kernel)
/-- LoadsAheadModel in -/
theorem ok_102 (l : Launch) : en_ok l kk_102 := en_good_ok (K := []) (fun _ h => absurd h List.not_mem_nil) (fuel := 11) (by decide +kernel)
/-- LoadsAheadModel lastRun -/
theorem ok_103 (l : Launch) : en_ok l kk_103 := en_good_ok (K := [kk_102]) (List.forall_mem_cons.mpr ⟨ok_102 l, fun _ h => absurd h List.not_mem_nil⟩) (fuel := 12) (by decide +kernel)
/-- LoadsAhead isTotal -/
theorem ok_104 (l : Launch) : en_ok l kk_104 := en_good_ok (K := []) (fun _ h => absurd h List.not_mem_nil) (fuel := 9) (by decide +kernel)
/-- LoadsAhead lastRun -/
theorem ok_105 (l : Launch) : en_ok l kk_105 := en_good_ok (K := [kk_104]) (List.forall_mem_cons.mpr ⟨ok_104 l, fun _ h => absurd h List.not_mem_nil⟩) (fuel := 7) (by decide +kernel)
/-- LoadsAheadModel in -/
theorem ok_106 (l : Launch) : en_ok l kk_106 := en_good_ok (K := []) (fun _ h => absurd h List.not_mem_nil) (fuel := 10) (by decide +kernel)
/-- LoadsAheadModel lastRun -/
theorem ok_107 (l : Launch) : en_ok l kk_107 := en_good_ok (K := [kk_106]) (List.forall_mem_cons.mpr ⟨ok_106 l, fun _ h => absurd h List.not_mem_nil⟩) (fuel := 9) (by decide +kernel)
/-- LoadsAhead isOp -/
theorem ok_108 (l : Launch) : en_ok l kk_108 := en_good_ok (K := []) (fun _ h => absurd h List.not_mem_nil) (fuel := 6) (by decide +kernel)
/-- LoadsAhead opIs -/
theorem ok_109 (l : Launch) : en_ok l kk_109 := en_good_ok (K := [kk_108]) (List.forall_mem_cons.mpr ⟨ok_108 l, fun _ h => absurd h List.not_mem_nil⟩) (fuel := 8) (by decide +kernel)
/-- LoadsAheadModel in -/
theorem ok_110 (l : Launch) : en_ok l kk_110 := en_good_ok (K := []) (fun _ h => absurd h List.not_mem_nil) (fuel := 7) (by decide +kernel)
/-- LoadsAheadModel isOp -/
theorem ok_111 (l : Launch) : en_ok l kk_111 := en_good_ok (K := [kk_110]) (List.forall_mem_cons.mpr ⟨ok_110 l, fun _ h => absurd h List.not_mem_nil⟩) (fuel := 10) (by decide +kernel)
/-- LoadsAheadModel opIs -/
theorem ok_112 (l : Launch) : en_ok l kk_112 := en_good_ok (K := [kk_111]) (List.forall_mem_cons.mpr ⟨ok_111 l, fun _ h => absurd h List.not_mem_nil⟩) (fuel := 8) (by decide +kernel)
/-- LoadsAhead isOp -/
theorem ok_113 (l : Launch) : en_ok l kk_113 := en_good_ok (K := []) (fun _ h => absurd h List.not_mem_nil) (fuel := 12) (by decide +kernel)
/-- LoadsAhead opIs -/
theorem ok_114 (l : Launch) : en_ok l kk_114 := en_good_ok (K := [kk_113]) (List.forall_mem_cons.mpr ⟨ok_113 l, fun _ h => absurd h List.not_mem_nil⟩) (fuel := 8) (by decide +kernel)
/-- LoadsAheadModel in -/
theorem ok_115 (l : Launch) : en_ok l kk_115 := en_good_ok (K := []) (fun _ h => absurd h List.not_mem_nil) (fuel := 10) (by decide +kernel)
/-- LoadsAheadModel isOp -/
theorem ok_116 (l : Launch) : en_ok l kk_116 := en_good_ok (K := [kk_115]) (List.forall_mem_cons.mpr ⟨ok_115 l, fun _ h => absurd h List.not_mem_nil⟩) (fuel := 10) (by decide +kernel)
/-- LoadsAheadModel opIs -/
theorem ok_117 (l : Launch) : en_ok l kk_117 := en_good_ok (K := [kk_116]) (List.forall_mem_cons.mpr ⟨ok_116 l, fun _ h => absurd h List.not_mem_nil⟩) (fuel := 8) (by decide +kernel)
/-- LoadsAhead source -/
theorem ok_118 (l : Launch) : en_ok l kk_118 := en_good_ok (K := [kk_108]) (List.forall_mem_cons.mpr ⟨ok_108 l, fun _ h => absurd h List.not_mem_nil⟩) (fuel := 8) (by decide +kernel)
/-- LoadsAheadModel source -/
theorem ok_119 (l : Launch) : en_ok l kk_119 := en_good_ok (K := [kk_111]) (List.forall_mem_cons.mpr ⟨ok_111 l, fun _ h => absurd h List.not_mem_nil⟩) (fuel := 8) (by decide +kernel)
/-- LoadsAhead source -/
theorem ok_120 (l : Launch) : en_ok l kk_120 := en_good_ok (K := [kk_113]) (List.forall_mem_cons.mpr ⟨ok_113 l, fun _ h => absurd h List.not_mem_nil⟩) (fuel := 8) (by decide +kernel)
/-- LoadsAheadModel source -/
theorem ok_121 (l : Launch) : en_ok l kk_121 := en_good_ok (K := [kk_116]) (List.forall_mem_cons.mpr ⟨ok_116 l, fun _ h => absurd h List.not_mem_nil⟩) (fuel := 8) (by decide +kernel)
/-- LoadsAhead isCell -/
theorem ok_122 (l : Launch) : en_ok l kk_122 := en_good_ok (K := []) (fun _ h => absurd h List.not_mem_nil) (fuel := 6) (by decide +kernel)
/-- LoadsAhead isByte -/
theorem ok_123 (l : Launch) : en_ok l kk_123 := en_good_ok (K := []) (fun _ h => absurd h List.not_mem_nil) (fuel := 7) (by decide +kernel)
/-- LoadsAhead now -/
theorem ok_124 (l : Launch) : en_ok l kk_124 := en_good_ok (K := [kk_122, kk_123]) (List.forall_mem_cons.mpr ⟨ok_122 l, List.forall_mem_cons.mpr ⟨ok_123 l, fun _ h => absurd h List.not_mem_nil⟩⟩) (fuel := 10) (by decide +kernel)
/-- LoadsAheadModel in -/
theorem ok_125 (l : Launch) : en_ok l kk_125 := en_good_ok (K := []) (fun _ h => absurd h List.not_mem_nil) (fuel := 7) (by decide +kernel)
/-- LoadsAheadModel now -/
theorem ok_126 (l : Launch) : en_ok l kk_126 := en_good_ok (K := [kk_21, kk_125]) (List.forall_mem_cons.mpr ⟨ok_21 l, List.forall_mem_cons.mpr ⟨ok_125 l, fun _ h => absurd h List.not_mem_nil⟩⟩) (fuel := 14) (by decide +kernel)
/-- LoadsAhead isCell -/
theorem ok_127 (l : Launch) : en_ok l kk_127 := en_good_ok (K := []) (fun _ h => absurd h List.not_mem_nil) (fuel := 10) (by decide +kernel)
/-- LoadsAhead now -/
theorem ok_128 (l : Launch) : en_ok l kk_128 := en_good_ok (K := [kk_127]) (List.forall_mem_cons.mpr ⟨ok_127 l, fun _ h => absurd h List.not_mem_nil⟩) (fuel := 12) (by decide +kernel)
/-- LoadsAheadModel now -/
theorem ok_129 (l : Launch) : en_ok l kk_129 := en_good_ok (K := [kk_24]) (List.forall_mem_cons.mpr ⟨ok_24 l, fun _ h => absurd h List.not_mem_nil⟩) (fuel := 13) (by decide +kernel)
/-- LoadsAhead isCell -/
theorem ok_130 (l : Launch) : en_ok l kk_130 := en_good_ok (K := []) (fun _ h => absurd h List.not_mem_nil) (fuel := 9) (by decide +kernel)
/-- LoadsAhead isByte -/
theorem ok_131 (l : Launch) : en_ok l kk_131 := en_good_ok (K := []) (fun _ h => absurd h List.not_mem_nil) (fuel := 7) (by decide +kernel)
/-- LoadsAhead now -/
theorem ok_132 (l : Launch) : en_ok l kk_132 := en_good_ok (K := [kk_130, kk_131]) (List.forall_mem_cons.mpr ⟨ok_130 l, List.forall_mem_cons.mpr ⟨ok_131 l, fun _ h => absurd h List.not_mem_nil⟩⟩) (fuel := 10) (by decide +kernel)
/-- LoadsAheadModel in -/
theorem ok_133 (l : Launch) : en_ok l kk_133 := en_good_ok (K := []) (fun _ h => absurd h List.not_mem_nil) (fuel := 10) (by decide +kernel)
/-- LoadsAheadModel in -/
theorem ok_134 (l : Launch) : en_ok l kk_134 := en_good_ok (K := []) (fun _ h => absurd h List.not_mem_nil) (fuel := 7) (by decide +kernel)
/-- LoadsAheadModel now -/
theorem ok_135 (l : Launch) : en_ok l kk_135 := en_good_ok (K := [kk_133, kk_134]) (List.forall_mem_cons.mpr ⟨ok_133 l, List.forall_mem_cons.mpr ⟨ok_134 l, fun _ h => absurd h List.not_mem_nil⟩⟩) (fuel := 14) (by decide +kernel)
/-- LoadsAhead isCell -/
theorem ok_136 (l : Launch) : en_ok l kk_136 := en_good_ok (K := []) (fun _ h => absurd h List.not_mem_nil) (fuel := 9) (by decide +kernel)
/-- LoadsAhead isByte -/
theorem ok_137 (l : Launch) : en_ok l kk_137 := en_good_ok (K := []) (fun _ h => absurd h List.not_mem_nil) (fuel := 11) (by decide +kernel)
/-- LoadsAhead now -/
theorem ok_138 (l : Launch) : en_ok l kk_138 := en_good_ok (K := [kk_136, kk_137]) (List.forall_mem_cons.mpr ⟨ok_136 l, List.forall_mem_cons.mpr ⟨ok_137 l, fun _ h => absurd h List.not_mem_nil⟩⟩) (fuel := 18) (by decide +kernel)
/-- LoadsAheadModel in -/
theorem ok_139 (l : Launch) : en_ok l kk_139 := en_good_ok (K := []) (fun _ h => absurd h List.not_mem_nil) (fuel := 10) (by decide +kernel)
/-- LoadsAheadModel in -/
theorem ok_140 (l : Launch) : en_ok l kk_140 := en_good_ok (K := []) (fun _ h => absurd h List.not_mem_nil) (fuel := 11) (by decide +kernel)
/-- LoadsAheadModel now -/
theorem ok_141 (l : Launch) : en_ok l kk_141 := en_good_ok (K := [kk_139, kk_140]) (List.forall_mem_cons.mpr ⟨ok_139 l, List.forall_mem_cons.mpr ⟨ok_140 l, fun _ h => absurd h List.not_mem_nil⟩⟩) (fuel := 20) (by decide +kernel)
/-- LoadsAhead isCell -/
theorem ok_142 (l : Launch) : en_ok l kk_142 := en_good_ok (K := []) (fun _ h => absurd h List.not_mem_nil) (fuel := 9) (by decide +kernel)
/-- LoadsAhead isByte -/
theorem ok_143 (l : Launch) : en_ok l kk_143 := en_good_ok (K := []) (fun _ h => absurd h List.not_mem_nil) (fuel := 10) (by decide +kernel)
/-- LoadsAhead now -/
theorem ok_144 (l : Launch) : en_ok l kk_144 := en_good_ok (K := [kk_142, kk_143]) (List.forall_mem_cons.mpr ⟨ok_142 l, List.forall_mem_cons.mpr ⟨ok_143 l, fun _ h => absurd h List.not_mem_nil⟩⟩) (fuel := 10) (by decide +kernel)
/-- LoadsAheadModel in -/
theorem ok_145 (l : Launch) : en_ok l kk_145 := en_good_ok (K := []) (fun _ h => absurd h List.not_mem_nil) (fuel := 10) (by decide +kernel)
/-- LoadsAheadModel in -/
theorem ok_146 (l : Launch) : en_ok l kk_146 := en_good_ok (K := []) (fun _ h => absurd h List.not_mem_nil) (fuel := 10) (by decide +kernel)
/-- LoadsAheadModel now -/
theorem ok_147 (l : Launch) : en_ok l kk_147 := en_good_ok (K := [kk_145, kk_146]) (List.forall_mem_cons.mpr ⟨ok_145 l, List.forall_mem_cons.mpr ⟨ok_146 l, fun _ h => absurd h List.not_mem_nil⟩⟩) (fuel := 14) (by decide +kernel)
/-- LoadsAhead plain -/
theorem ok_148 (l : Launch) : en_ok l kk_148 := en_good_ok (K := [kk_122, kk_123]) (List.forall_mem_cons.mpr ⟨ok_122 l, List.forall_mem_cons.mpr ⟨ok_123 l, fun _ h => absurd h List.not_mem_nil⟩⟩) (fuel := 10) (by decide +kernel)
/-- LoadsAheadModel goesPlain -/
theorem ok_149 (l : Launch) : en_ok l kk_149 := en_good_ok (K := []) (fun _ h => absurd h List.not_mem_nil) (fuel := 955) (by decide +kernel)
/-- LoadsAheadModel plain -/
theorem ok_150 (l : Launch) : en_ok l kk_150 := en_good_ok (K := [kk_149, kk_21, kk_125]) (List.forall_mem_cons.mpr ⟨ok_149 l, List.forall_mem_cons.mpr ⟨ok_21 l, List.forall_mem_cons.mpr ⟨ok_125 l, fun _ h => absurd h List.not_mem_nil⟩⟩⟩) (fuel := 16) (by decide +kernel)
/-- LoadsAhead.State copyCellsFrom -/
theorem ok_151 (l : Launch) : en_ok l kk_151 := en_good_ok (K := []) (fun _ h => absurd h List.not_mem_nil) (fuel := 27) (by decide +kernel)
/-- LoadsAhead.State copySetsFrom -/
theorem ok_152 (l : Launch) : en_ok l kk_152 := en_good_ok (K := []) (fun _ h => absurd h List.not_mem_nil) (fuel := 15) (by decide +kernel)
/-- LoadsAhead.State copyFrom -/
theorem ok_153 (l : Launch) : en_ok l kk_153 := en_good_ok (K := [kk_151, kk_152]) (List.forall_mem_cons.mpr ⟨ok_151 l, List.forall_mem_cons.mpr ⟨ok_152 l, fun _ h => absurd h List.not_mem_nil⟩⟩) (fuel := 9) (by decide +kernel)
/-- LoadsAhead.Plain go -/
theorem ok_154 (l : Launch) : en_ok l kk_154 := en_good_ok (K := [kk_153]) (List.forall_mem_cons.mpr ⟨ok_153 l, fun _ h => absurd h List.not_mem_nil⟩) (fuel := 13) (by decide +kernel)
/-- LoadsAhead plain -/
theorem ok_155 (l : Launch) : en_ok l kk_155 := en_good_ok (K := [kk_127, kk_154]) (List.forall_mem_cons.mpr ⟨ok_127 l, List.forall_mem_cons.mpr ⟨ok_154 l, fun _ h => absurd h List.not_mem_nil⟩⟩) (fuel := 25) (by decide +kernel)
/-- LoadsAheadModel plain -/
theorem ok_156 (l : Launch) : en_ok l kk_156 := en_good_ok (K := [kk_149, kk_24]) (List.forall_mem_cons.mpr ⟨ok_149 l, List.forall_mem_cons.mpr ⟨ok_24 l, fun _ h => absurd h List.not_mem_nil⟩⟩) (fuel := 15) (by decide +kernel)
/-- LoadsAhead plain -/
theorem ok_157 (l : Launch) : en_ok l kk_157 := en_good_ok (K := [kk_130, kk_131]) (List.forall_mem_cons.mpr ⟨ok_130 l, List.forall_mem_cons.mpr ⟨ok_131 l, fun _ h => absurd h List.not_mem_nil⟩⟩) (fuel := 10) (by decide +kernel)
/-- LoadsAheadModel plain -/
theorem ok_158 (l : Launch) : en_ok l kk_158 := en_good_ok (K := [kk_149, kk_133, kk_134]) (List.forall_mem_cons.mpr ⟨ok_149 l, List.forall_mem_cons.mpr ⟨ok_133 l, List.forall_mem_cons.mpr ⟨ok_134 l, fun _ h => absurd h List.not_mem_nil⟩⟩⟩) (fuel := 16) (by decide +kernel)
/-- LoadsAhead plain -/
theorem ok_159 (l : Launch) : en_ok l kk_159 := en_good_ok (K := [kk_136, kk_137, kk_154]) (List.forall_mem_cons.mpr ⟨ok_136 l, List.forall_mem_cons.mpr ⟨ok_137 l, List.forall_mem_cons.mpr ⟨ok_154 l, fun _ h => absurd h List.not_mem_nil⟩⟩⟩) (fuel := 29) (by decide +kernel)
