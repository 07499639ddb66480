theorem tlL_174 : Cond.methodLink RL 174 yX7_restore ∈ wsL_law := wT_at 845 (by decide +kernel) (by decide +kernel)
theorem tcX7_restore : Cond.code yX7_restore cX7_restore 1 (some .int) ∈ wsL_law := wT_at 848 (by decide +kernel) (by decide +kernel)
theorem tiX7_restore : Cond.instanceMethod yX7_restore ∈ wsL_law := wT_at 846 (by decide +kernel) (by decide +kernel)
theorem tsX7_restore : Cond.selects RX7 yX7_restore yX7_restore ∈ wsL_law := wT_at 847 (by decide +kernel) (by decide +kernel)
theorem tlL_177 : Cond.methodLink RL 177 yX8_restore ∈ wsL_law := wT_at 1280 (by decide +kernel) (by decide +kernel)
theorem tcX8_restore : Cond.code yX8_restore cX8_restore 1 (some .int) ∈ wsL_law := wT_at 1283 (by decide +kernel) (by decide +kernel)
theorem tiX8_restore : Cond.instanceMethod yX8_restore ∈ wsL_law := wT_at 1281 (by decide +kernel) (by decide +kernel)
theorem tsX8_restore : Cond.selects RX8 yX8_restore yX8_restore ∈ wsL_law := wT_at 1282 (by decide +kernel) (by decide +kernel)
theorem tlL_170 : Cond.methodLink RL 170 yX7_save ∈ wsL_law := wT_at 841 (by decide +kernel) (by decide +kernel)
theorem tcX7_save : Cond.code yX7_save cX7_save 1 (some .int) ∈ wsL_law := wT_at 844 (by decide +kernel) (by decide +kernel)
theorem tiX7_save : Cond.instanceMethod yX7_save ∈ wsL_law := wT_at 842 (by decide +kernel) (by decide +kernel)
theorem tsX7_save : Cond.selects RX7 yX7_save yX7_save ∈ wsL_law := wT_at 843 (by decide +kernel) (by decide +kernel)
theorem tlL_173 : Cond.methodLink RL 173 yX8_save ∈ wsL_law := wT_at 1276 (by decide +kernel) (by decide +kernel)
theorem tcX8_save : Cond.code yX8_save cX8_save 1 (some .int) ∈ wsL_law := wT_at 1279 (by decide +kernel) (by decide +kernel)
theorem tiX8_save : Cond.instanceMethod yX8_save ∈ wsL_law := wT_at 1277 (by decide +kernel) (by decide +kernel)
theorem tsX8_save : Cond.selects RX8 yX8_save yX8_save ∈ wsL_law := wT_at 1278 (by decide +kernel) (by decide +kernel)
theorem tlL_166 : Cond.methodLink RL 166 yX7_undo ∈ wsL_law := wT_at 833 (by decide +kernel) (by decide +kernel)
theorem tcX7_undo : Cond.code yX7_undo cX7_undo 1 (some .int) ∈ wsL_law := wT_at 836 (by decide +kernel) (by decide +kernel)
theorem tiX7_undo : Cond.instanceMethod yX7_undo ∈ wsL_law := wT_at 834 (by decide +kernel) (by decide +kernel)
theorem tsX7_undo : Cond.selects RX7 yX7_undo yX7_undo ∈ wsL_law := wT_at 835 (by decide +kernel) (by decide +kernel)
theorem tlL_169 : Cond.methodLink RL 169 yX8_undo ∈ wsL_law := wT_at 1272 (by decide +kernel) (by decide +kernel)
theorem tcX8_undo : Cond.code yX8_undo cX8_undo 2 (some .int) ∈ wsL_law := wT_at 1275 (by decide +kernel) (by decide +kernel)
theorem tiX8_undo : Cond.instanceMethod yX8_undo ∈ wsL_law := wT_at 1273 (by decide +kernel) (by decide +kernel)
theorem tsX8_undo : Cond.selects RX8 yX8_undo yX8_undo ∈ wsL_law := wT_at 1274 (by decide +kernel) (by decide +kernel)
theorem tlL_161 : Cond.methodLink RL 161 yX7_reason ∈ wsL_law := wT_at 829 (by decide +kernel) (by decide +kernel)
theorem tcX7_reason : Cond.code yX7_reason cX7_reason 3 (some .int) ∈ wsL_law := wT_at 832 (by decide +kernel) (by decide +kernel)
theorem tiX7_reason : Cond.instanceMethod yX7_reason ∈ wsL_law := wT_at 830 (by decide +kernel) (by decide +kernel)
theorem tsX7_reason : Cond.selects RX7 yX7_reason yX7_reason ∈ wsL_law := wT_at 831 (by decide +kernel) (by decide +kernel)
theorem tlL_165 : Cond.methodLink RL 165 yX8_reason ∈ wsL_law := wT_at 1268 (by decide +kernel) (by decide +kernel)
theorem tcX8_reason : Cond.code yX8_reason cX8_reason 3 (some .int) ∈ wsL_law := wT_at 1271 (by decide +kernel) (by decide +kernel)
theorem tiX8_reason : Cond.instanceMethod yX8_reason ∈ wsL_law := wT_at 1269 (by decide +kernel) (by decide +kernel)
theorem tsX8_reason : Cond.selects RX8 yX8_reason yX8_reason ∈ wsL_law := wT_at 1270 (by decide +kernel) (by decide +kernel)
theorem tlL_157 : Cond.methodLink RL 157 yX7_fault ∈ wsL_law := wT_at 824 (by decide +kernel) (by decide +kernel)
theorem tcX7_fault : Cond.code yX7_fault cX7_fault 1 (some .int) ∈ wsL_law := wT_at 827 (by decide +kernel) (by decide +kernel)
theorem tiX7_fault : Cond.instanceMethod yX7_fault ∈ wsL_law := wT_at 825 (by decide +kernel) (by decide +kernel)
theorem tsX7_fault : Cond.selects RX7 yX7_fault yX7_fault ∈ wsL_law := wT_at 826 (by decide +kernel) (by decide +kernel)
theorem tlL_160 : Cond.methodLink RL 160 yX8_fault ∈ wsL_law := wT_at 1263 (by decide +kernel) (by decide +kernel)
theorem tcX8_fault : Cond.code yX8_fault cX8_fault 1 (some .int) ∈ wsL_law := wT_at 1266 (by decide +kernel) (by decide +kernel)
theorem tiX8_fault : Cond.instanceMethod yX8_fault ∈ wsL_law := wT_at 1264 (by decide +kernel) (by decide +kernel)
theorem tsX8_fault : Cond.selects RX8 yX8_fault yX8_fault ∈ wsL_law := wT_at 1265 (by decide +kernel) (by decide +kernel)
theorem tlL_153 : Cond.methodLink RL 153 yX7_read ∈ wsL_law := wT_at 715 (by decide +kernel) (by decide +kernel)
theorem tcX7_read : Cond.code yX7_read cX7_read 2 (some .int) ∈ wsL_law := wT_at 718 (by decide +kernel) (by decide +kernel)
theorem tiX7_read : Cond.instanceMethod yX7_read ∈ wsL_law := wT_at 716 (by decide +kernel) (by decide +kernel)
theorem tsX7_read : Cond.selects RX7 yX7_read yX7_read ∈ wsL_law := wT_at 717 (by decide +kernel) (by decide +kernel)
theorem tlL_156 : Cond.methodLink RL 156 yX8_read ∈ wsL_law := wT_at 1227 (by decide +kernel) (by decide +kernel)
theorem tcX8_read : Cond.code yX8_read cX8_read 5 (some .int) ∈ wsL_law := wT_at 1230 (by decide +kernel) (by decide +kernel)
theorem tiX8_read : Cond.instanceMethod yX8_read ∈ wsL_law := wT_at 1228 (by decide +kernel) (by decide +kernel)
theorem tsX8_read : Cond.selects RX8 yX8_read yX8_read ∈ wsL_law := wT_at 1229 (by decide +kernel) (by decide +kernel)
theorem tlL_148 : Cond.methodLink RL 148 yX7_append ∈ wsL_law := wT_at 706 (by decide +kernel) (by decide +kernel)
theorem tcX7_append : Cond.code yX7_append cX7_append 2 (some .int) ∈ wsL_law := wT_at 709 (by decide +kernel) (by decide +kernel)
theorem tiX7_append : Cond.instanceMethod yX7_append ∈ wsL_law := wT_at 707 (by decide +kernel) (by decide +kernel)
theorem tsX7_append : Cond.selects RX7 yX7_append yX7_append ∈ wsL_law := wT_at 708 (by decide +kernel) (by decide +kernel)
theorem tlL_152 : Cond.methodLink RL 152 yX8_append ∈ wsL_law := wT_at 1222 (by decide +kernel) (by decide +kernel)
theorem tcX8_append : Cond.code yX8_append cX8_append 2 (some .int) ∈ wsL_law := wT_at 1225 (by decide +kernel) (by decide +kernel)
theorem tiX8_append : Cond.instanceMethod yX8_append ∈ wsL_law := wT_at 1223 (by decide +kernel) (by decide +kernel)
theorem tsX8_append : Cond.selects RX8 yX8_append yX8_append ∈ wsL_law := wT_at 1224 (by decide +kernel) (by decide +kernel)
theorem tlL_144 : Cond.methodLink RL 144 yX7_written ∈ wsL_law := wT_at 702 (by decide +kernel) (by decide +kernel)
theorem tcX7_written : Cond.code yX7_written cX7_written 2 (some .int) ∈ wsL_law := wT_at 705 (by decide +kernel) (by decide +kernel)
theorem tiX7_written : Cond.instanceMethod yX7_written ∈ wsL_law := wT_at 703 (by decide +kernel) (by decide +kernel)
theorem tsX7_written : Cond.selects RX7 yX7_written yX7_written ∈ wsL_law := wT_at 704 (by decide +kernel) (by decide +kernel)
theorem tlL_147 : Cond.methodLink RL 147 yX8_written ∈ wsL_law := wT_at 1218 (by decide +kernel) (by decide +kernel)
theorem tcX8_written : Cond.code yX8_written cX8_written 2 (some .int) ∈ wsL_law := wT_at 1221 (by decide +kernel) (by decide +kernel)
theorem tiX8_written : Cond.instanceMethod yX8_written ∈ wsL_law := wT_at 1219 (by decide +kernel) (by decide +kernel)
theorem tsX8_written : Cond.selects RX8 yX8_written yX8_written ∈ wsL_law := wT_at 1220 (by decide +kernel) (by decide +kernel)
theorem tlL_140 : Cond.methodLink RL 140 yX7_writeLog ∈ wsL_law := wT_at 698 (by decide +kernel) (by decide +kernel)
theorem tcX7_writeLog : Cond.code yX7_writeLog cX7_writeLog 2 (some .int) ∈ wsL_law := wT_at 701 (by decide +kernel) (by decide +kernel)
theorem tiX7_writeLog : Cond.instanceMethod yX7_writeLog ∈ wsL_law := wT_at 699 (by decide +kernel) (by decide +kernel)
theorem tsX7_writeLog : Cond.selects RX7 yX7_writeLog yX7_writeLog ∈ wsL_law := wT_at 700 (by decide +kernel) (by decide +kernel)
theorem tlL_143 : Cond.methodLink RL 143 yX8_writeLog ∈ wsL_law := wT_at 1214 (by decide +kernel) (by decide +kernel)
theorem tcX8_writeLog : Cond.code yX8_writeLog cX8_writeLog 2 (some .int) ∈ wsL_law := wT_at 1217 (by decide +kernel) (by decide +kernel)
theorem tiX8_writeLog : Cond.instanceMethod yX8_writeLog ∈ wsL_law := wT_at 1215 (by decide +kernel) (by decide +kernel)
theorem tsX8_writeLog : Cond.selects RX8 yX8_writeLog yX8_writeLog ∈ wsL_law := wT_at 1216 (by decide +kernel) (by decide +kernel)
theorem tlL_136 : Cond.methodLink RL 136 yX7_write ∈ wsL_law := wT_at 674 (by decide +kernel) (by decide +kernel)
theorem tcX7_write : Cond.code yX7_write cX7_write 2 (some .int) ∈ wsL_law := wT_at 677 (by decide +kernel) (by decide +kernel)
theorem tiX7_write : Cond.instanceMethod yX7_write ∈ wsL_law := wT_at 675 (by decide +kernel) (by decide +kernel)
theorem tsX7_write : Cond.selects RX7 yX7_write yX7_write ∈ wsL_law := wT_at 676 (by decide +kernel) (by decide +kernel)
theorem tlL_139 : Cond.methodLink RL 139 yX8_write ∈ wsL_law := wT_at 1202 (by decide +kernel) (by decide +kernel)
theorem tcX8_write : Cond.code yX8_write cX8_write 4 (some .int) ∈ wsL_law := wT_at 1205 (by decide +kernel) (by decide +kernel)
theorem tiX8_write : Cond.instanceMethod yX8_write ∈ wsL_law := wT_at 1203 (by decide +kernel) (by decide +kernel)
theorem tsX8_write : Cond.selects RX8 yX8_write yX8_write ∈ wsL_law := wT_at 1204 (by decide +kernel) (by decide +kernel)
theorem tlL_132 : Cond.methodLink RL 132 yX7_account ∈ wsL_law := wT_at 670 (by decide +kernel) (by decide +kernel)
theorem tcX7_account : Cond.code yX7_account cX7_account 2 (some .int) ∈ wsL_law := wT_at 673 (by decide +kernel) (by decide +kernel)
theorem tiX7_account : Cond.instanceMethod yX7_account ∈ wsL_law := wT_at 671 (by decide +kernel) (by decide +kernel)
theorem tsX7_account : Cond.selects RX7 yX7_account yX7_account ∈ wsL_law := wT_at 672 (by decide +kernel) (by decide +kernel)
theorem tlL_135 : Cond.methodLink RL 135 yX8_account ∈ wsL_law := wT_at 1198 (by decide +kernel) (by decide +kernel)
theorem tcX8_account : Cond.code yX8_account cX8_account 2 (some .int) ∈ wsL_law := wT_at 1201 (by decide +kernel) (by decide +kernel)
theorem tiX8_account : Cond.instanceMethod yX8_account ∈ wsL_law := wT_at 1199 (by decide +kernel) (by decide +kernel)
theorem tsX8_account : Cond.selects RX8 yX8_account yX8_account ∈ wsL_law := wT_at 1200 (by decide +kernel) (by decide +kernel)
theorem tlL_127 : Cond.methodLink RL 127 yX7_meanAngle ∈ wsL_law := wT_at 662 (by decide +kernel) (by decide +kernel)
theorem tcX7_meanAngle : Cond.code yX7_meanAngle cX7_meanAngle 1 (some .double) ∈ wsL_law := wT_at 665 (by decide +kernel) (by decide +kernel)
theorem tiX7_meanAngle : Cond.instanceMethod yX7_meanAngle ∈ wsL_law := wT_at 663 (by decide +kernel) (by decide +kernel)
theorem tsX7_meanAngle : Cond.selects RX7 yX7_meanAngle yX7_meanAngle ∈ wsL_law := wT_at 664 (by decide +kernel) (by decide +kernel)
theorem tlL_131 : Cond.methodLink RL 131 yX8_meanAngle ∈ wsL_law := wT_at 1194 (by decide +kernel) (by decide +kernel)
theorem tcX8_meanAngle : Cond.code yX8_meanAngle cX8_meanAngle 3 (some .double) ∈ wsL_law := wT_at 1197 (by decide +kernel) (by decide +kernel)
theorem tiX8_meanAngle : Cond.instanceMethod yX8_meanAngle ∈ wsL_law := wT_at 1195 (by decide +kernel) (by decide +kernel)
theorem tsX8_meanAngle : Cond.selects RX8 yX8_meanAngle yX8_meanAngle ∈ wsL_law := wT_at 1196 (by decide +kernel) (by decide +kernel)
theorem tlL_122 : Cond.methodLink RL 122 yX7_isCounted ∈ wsL_law := wT_at 638 (by decide +kernel) (by decide +kernel)
theorem tcX7_isCounted : Cond.code yX7_isCounted cX7_isCounted 1 (some .boolean) ∈ wsL_law := wT_at 641 (by decide +kernel) (by decide +kernel)
theorem tiX7_isCounted : Cond.instanceMethod yX7_isCounted ∈ wsL_law := wT_at 639 (by decide +kernel) (by decide +kernel)
theorem tsX7_isCounted : Cond.selects RX7 yX7_isCounted yX7_isCounted ∈ wsL_law := wT_at 640 (by decide +kernel) (by decide +kernel)
theorem tlL_126 : Cond.methodLink RL 126 yX8_isCounted ∈ wsL_law := wT_at 1190 (by decide +kernel) (by decide +kernel)
theorem tcX8_isCounted : Cond.code yX8_isCounted cX8_isCounted 1 (some .boolean) ∈ wsL_law := wT_at 1193 (by decide +kernel) (by decide +kernel)
theorem tiX8_isCounted : Cond.instanceMethod yX8_isCounted ∈ wsL_law := wT_at 1191 (by decide +kernel) (by decide +kernel)
theorem tsX8_isCounted : Cond.selects RX8 yX8_isCounted yX8_isCounted ∈ wsL_law := wT_at 1192 (by decide +kernel) (by decide +kernel)
theorem tlL_117 : Cond.methodLink RL 117 yX7_packed ∈ wsL_law := wT_at 634 (by decide +kernel) (by decide +kernel)
theorem tcX7_packed : Cond.code yX7_packed cX7_packed 4 (some .long) ∈ wsL_law := wT_at 637 (by decide +kernel) (by decide +kernel)
theorem tiX7_packed : Cond.instanceMethod yX7_packed ∈ wsL_law := wT_at 635 (by decide +kernel) (by decide +kernel)
theorem tsX7_packed : Cond.selects RX7 yX7_packed yX7_packed ∈ wsL_law := wT_at 636 (by decide +kernel) (by decide +kernel)
theorem tlL_121 : Cond.methodLink RL 121 yX8_packed ∈ wsL_law := wT_at 1186 (by decide +kernel) (by decide +kernel)
theorem tcX8_packed : Cond.code yX8_packed cX8_packed 4 (some .long) ∈ wsL_law := wT_at 1189 (by decide +kernel) (by decide +kernel)
theorem tiX8_packed : Cond.instanceMethod yX8_packed ∈ wsL_law := wT_at 1187 (by decide +kernel) (by decide +kernel)
theorem tsX8_packed : Cond.selects RX8 yX8_packed yX8_packed ∈ wsL_law := wT_at 1188 (by decide +kernel) (by decide +kernel)
theorem tlL_113 : Cond.methodLink RL 113 yX7_ranked ∈ wsL_law := wT_at 622 (by decide +kernel) (by decide +kernel)
theorem tcX7_ranked : Cond.code yX7_ranked cX7_ranked 3 (some .int) ∈ wsL_law := wT_at 625 (by decide +kernel) (by decide +kernel)
theorem tiX7_ranked : Cond.instanceMethod yX7_ranked ∈ wsL_law := wT_at 623 (by decide +kernel) (by decide +kernel)
theorem tsX7_ranked : Cond.selects RX7 yX7_ranked yX7_ranked ∈ wsL_law := wT_at 624 (by decide +kernel) (by decide +kernel)
theorem tlL_116 : Cond.methodLink RL 116 yX8_ranked ∈ wsL_law := wT_at 1182 (by decide +kernel) (by decide +kernel)
theorem tcX8_ranked : Cond.code yX8_ranked cX8_ranked 5 (some .int) ∈ wsL_law := wT_at 1185 (by decide +kernel) (by decide +kernel)
theorem tiX8_ranked : Cond.instanceMethod yX8_ranked ∈ wsL_law := wT_at 1183 (by decide +kernel) (by decide +kernel)
theorem tsX8_ranked : Cond.selects RX8 yX8_ranked yX8_ranked ∈ wsL_law := wT_at 1184 (by decide +kernel) (by decide +kernel)
theorem tlL_109 : Cond.methodLink RL 109 yX7_highest ∈ wsL_law := wT_at 610 (by decide +kernel) (by decide +kernel)
theorem tcX7_highest : Cond.code yX7_highest cX7_highest 3 (some .int) ∈ wsL_law := wT_at 613 (by decide +kernel) (by decide +kernel)
theorem tiX7_highest : Cond.instanceMethod yX7_highest ∈ wsL_law := wT_at 611 (by decide +kernel) (by decide +kernel)
theorem tsX7_highest : Cond.selects RX7 yX7_highest yX7_highest ∈ wsL_law := wT_at 612 (by decide +kernel) (by decide +kernel)
theorem tlL_112 : Cond.methodLink RL 112 yX8_highest ∈ wsL_law := wT_at 1178 (by decide +kernel) (by decide +kernel)
theorem tcX8_highest : Cond.code yX8_highest cX8_highest 6 (some .int) ∈ wsL_law := wT_at 1181 (by decide +kernel) (by decide +kernel)
theorem tiX8_highest : Cond.instanceMethod yX8_highest ∈ wsL_law := wT_at 1179 (by decide +kernel) (by decide +kernel)
theorem tsX8_highest : Cond.selects RX8 yX8_highest yX8_highest ∈ wsL_law := wT_at 1180 (by decide +kernel) (by decide +kernel)
theorem tlL_105 : Cond.methodLink RL 105 yX7_messes ∈ wsL_law := wT_at 601 (by decide +kernel) (by decide +kernel)
theorem tcX7_messes : Cond.code yX7_messes cX7_messes 1 (some .int) ∈ wsL_law := wT_at 604 (by decide +kernel) (by decide +kernel)
theorem tiX7_messes : Cond.instanceMethod yX7_messes ∈ wsL_law := wT_at 602 (by decide +kernel) (by decide +kernel)
theorem tsX7_messes : Cond.selects RX7 yX7_messes yX7_messes ∈ wsL_law := wT_at 603 (by decide +kernel) (by decide +kernel)
theorem tlL_108 : Cond.methodLink RL 108 yX8_messes ∈ wsL_law := wT_at 1174 (by decide +kernel) (by decide +kernel)
theorem tcX8_messes : Cond.code yX8_messes cX8_messes 3 (some .int) ∈ wsL_law := wT_at 1177 (by decide +kernel) (by decide +kernel)
theorem tiX8_messes : Cond.instanceMethod yX8_messes ∈ wsL_law := wT_at 1175 (by decide +kernel) (by decide +kernel)
theorem tsX8_messes : Cond.selects RX8 yX8_messes yX8_messes ∈ wsL_law := wT_at 1176 (by decide +kernel) (by decide +kernel)
theorem tlL_101 : Cond.methodLink RL 101 yX7_sinks ∈ wsL_law := wT_at 597 (by decide +kernel) (by decide +kernel)
theorem tcX7_sinks : Cond.code yX7_sinks cX7_sinks 3 (some .int) ∈ wsL_law := wT_at 600 (by decide +kernel) (by decide +kernel)
theorem tiX7_sinks : Cond.instanceMethod yX7_sinks ∈ wsL_law := wT_at 598 (by decide +kernel) (by decide +kernel)
theorem tsX7_sinks : Cond.selects RX7 yX7_sinks yX7_sinks ∈ wsL_law := wT_at 599 (by decide +kernel) (by decide +kernel)
theorem tlL_104 : Cond.methodLink RL 104 yX8_sinks ∈ wsL_law := wT_at 1169 (by decide +kernel) (by decide +kernel)
theorem tcX8_sinks : Cond.code yX8_sinks cX8_sinks 3 (some .int) ∈ wsL_law := wT_at 1172 (by decide +kernel) (by decide +kernel)
theorem tiX8_sinks : Cond.instanceMethod yX8_sinks ∈ wsL_law := wT_at 1170 (by decide +kernel) (by decide +kernel)
theorem tsX8_sinks : Cond.selects RX8 yX8_sinks yX8_sinks ∈ wsL_law := wT_at 1171 (by decide +kernel) (by decide +kernel)
theorem tlL_97 : Cond.methodLink RL 97 yX7_would ∈ wsL_law := wT_at 593 (by decide +kernel) (by decide +kernel)
theorem tcX7_would : Cond.code yX7_would cX7_would 3 (some .int) ∈ wsL_law := wT_at 596 (by decide +kernel) (by decide +kernel)
theorem tiX7_would : Cond.instanceMethod yX7_would ∈ wsL_law := wT_at 594 (by decide +kernel) (by decide +kernel)
theorem tsX7_would : Cond.selects RX7 yX7_would yX7_would ∈ wsL_law := wT_at 595 (by decide +kernel) (by decide +kernel)
theorem tlL_100 : Cond.methodLink RL 100 yX8_would ∈ wsL_law := wT_at 1165 (by decide +kernel) (by decide +kernel)
theorem tlL_93 : Cond.methodLink RL 93 yX7_closest ∈ wsL_law := wT_at 585 (by decide +kernel) (by decide +kernel)
theorem tcX7_closest : Cond.code yX7_closest cX7_closest 3 (some .int) ∈ wsL_law := wT_at 588 (by decide +kernel) (by decide +kernel)
theorem tiX7_closest : Cond.instanceMethod yX7_closest ∈ wsL_law := wT_at 586 (by decide +kernel) (by decide +kernel)
theorem tsX7_closest : Cond.selects RX7 yX7_closest yX7_closest ∈ wsL_law := wT_at 587 (by decide +kernel) (by decide +kernel)
theorem tlL_96 : Cond.methodLink RL 96 yX8_closest ∈ wsL_law := wT_at 1161 (by decide +kernel) (by decide +kernel)
theorem tcX8_closest : Cond.code yX8_closest cX8_closest 8 (some .int) ∈ wsL_law := wT_at 1164 (by decide +kernel) (by decide +kernel)
theorem tiX8_closest : Cond.instanceMethod yX8_closest ∈ wsL_law := wT_at 1162 (by decide +kernel) (by decide +kernel)
theorem tsX8_closest : Cond.selects RX8 yX8_closest yX8_closest ∈ wsL_law := wT_at 1163 (by decide +kernel) (by decide +kernel)
theorem tlL_89 : Cond.methodLink RL 89 yX7_unlikeAgain ∈ wsL_law := wT_at 580 (by decide +kernel) (by decide +kernel)
theorem tcX7_unlikeAgain : Cond.code yX7_unlikeAgain cX7_unlikeAgain 3 (some .int) ∈ wsL_law := wT_at 583 (by decide +kernel) (by decide +kernel)
theorem tiX7_unlikeAgain : Cond.instanceMethod yX7_unlikeAgain ∈ wsL_law := wT_at 581 (by decide +kernel) (by decide +kernel)
theorem tsX7_unlikeAgain : Cond.selects RX7 yX7_unlikeAgain yX7_unlikeAgain ∈ wsL_law := wT_at 582 (by decide +kernel) (by decide +kernel)
theorem tlL_92 : Cond.methodLink RL 92 yX8_unlikeAgain ∈ wsL_law := wT_at 1156 (by decide +kernel) (by decide +kernel)
theorem tcX8_unlikeAgain : Cond.code yX8_unlikeAgain cX8_unlikeAgain 3 (some .int) ∈ wsL_law := wT_at 1159 (by decide +kernel) (by decide +kernel)
theorem tiX8_unlikeAgain : Cond.instanceMethod yX8_unlikeAgain ∈ wsL_law := wT_at 1157 (by decide +kernel) (by decide +kernel)
theorem tsX8_unlikeAgain : Cond.selects RX8 yX8_unlikeAgain yX8_unlikeAgain ∈ wsL_law := wT_at 1158 (by decide +kernel) (by decide +kernel)
theorem tlL_85 : Cond.methodLink RL 85 yX7_unlike ∈ wsL_law := wT_at 573 (by decide +kernel) (by decide +kernel)
theorem tcX7_unlike : Cond.code yX7_unlike cX7_unlike 3 (some .int) ∈ wsL_law := wT_at 576 (by decide +kernel) (by decide +kernel)
theorem tiX7_unlike : Cond.instanceMethod yX7_unlike ∈ wsL_law := wT_at 574 (by decide +kernel) (by decide +kernel)
theorem tsX7_unlike : Cond.selects RX7 yX7_unlike yX7_unlike ∈ wsL_law := wT_at 575 (by decide +kernel) (by decide +kernel)
theorem tlL_88 : Cond.methodLink RL 88 yX8_unlike ∈ wsL_law := wT_at 1152 (by decide +kernel) (by decide +kernel)
theorem tlL_81 : Cond.methodLink RL 81 yX7_meet ∈ wsL_law := wT_at 562 (by decide +kernel) (by decide +kernel)
theorem tcX7_meet : Cond.code yX7_meet cX7_meet 4 (some .int) ∈ wsL_law := wT_at 565 (by decide +kernel) (by decide +kernel)
theorem tiX7_meet : Cond.instanceMethod yX7_meet ∈ wsL_law := wT_at 563 (by decide +kernel) (by decide +kernel)
theorem tsX7_meet : Cond.selects RX7 yX7_meet yX7_meet ∈ wsL_law := wT_at 564 (by decide +kernel) (by decide +kernel)
theorem tlL_84 : Cond.methodLink RL 84 yX8_meet ∈ wsL_law := wT_at 1146 (by decide +kernel) (by decide +kernel)
theorem tcX8_meet : Cond.code yX8_meet cX8_meet 4 (some .int) ∈ wsL_law := wT_at 1149 (by decide +kernel) (by decide +kernel)
theorem tiX8_meet : Cond.instanceMethod yX8_meet ∈ wsL_law := wT_at 1147 (by decide +kernel) (by decide +kernel)
theorem tsX8_meet : Cond.selects RX8 yX8_meet yX8_meet ∈ wsL_law := wT_at 1148 (by decide +kernel) (by decide +kernel)
theorem tlL_77 : Cond.methodLink RL 77 yX7_fixAgain ∈ wsL_law := wT_at 554 (by decide +kernel) (by decide +kernel)
theorem tcX7_fixAgain : Cond.code yX7_fixAgain cX7_fixAgain 2 (some .int) ∈ wsL_law := wT_at 557 (by decide +kernel) (by decide +kernel)
theorem tiX7_fixAgain : Cond.instanceMethod yX7_fixAgain ∈ wsL_law := wT_at 555 (by decide +kernel) (by decide +kernel)
theorem tsX7_fixAgain : Cond.selects RX7 yX7_fixAgain yX7_fixAgain ∈ wsL_law := wT_at 556 (by decide +kernel) (by decide +kernel)
theorem tlL_80 : Cond.methodLink RL 80 yX8_fixAgain ∈ wsL_law := wT_at 1141 (by decide +kernel) (by decide +kernel)
theorem tcX8_fixAgain : Cond.code yX8_fixAgain cX8_fixAgain 2 (some .int) ∈ wsL_law := wT_at 1144 (by decide +kernel) (by decide +kernel)
theorem tiX8_fixAgain : Cond.instanceMethod yX8_fixAgain ∈ wsL_law := wT_at 1142 (by decide +kernel) (by decide +kernel)
theorem tsX8_fixAgain : Cond.selects RX8 yX8_fixAgain yX8_fixAgain ∈ wsL_law := wT_at 1143 (by decide +kernel) (by decide +kernel)
theorem tlL_73 : Cond.methodLink RL 73 yX7_fixBits ∈ wsL_law := wT_at 532 (by decide +kernel) (by decide +kernel)
theorem tcX7_fixBits : Cond.code yX7_fixBits cX7_fixBits 2 (some .int) ∈ wsL_law := wT_at 535 (by decide +kernel) (by decide +kernel)
theorem tiX7_fixBits : Cond.instanceMethod yX7_fixBits ∈ wsL_law := wT_at 533 (by decide +kernel) (by decide +kernel)
theorem tsX7_fixBits : Cond.selects RX7 yX7_fixBits yX7_fixBits ∈ wsL_law := wT_at 534 (by decide +kernel) (by decide +kernel)
theorem tlL_76 : Cond.methodLink RL 76 yX8_fixBits ∈ wsL_law := wT_at 1125 (by decide +kernel) (by decide +kernel)
theorem tlL_69 : Cond.methodLink RL 69 yX7_readBits ∈ wsL_law := wT_at 527 (by decide +kernel) (by decide +kernel)
theorem tcX7_readBits : Cond.code yX7_readBits cX7_readBits 2 (some .int) ∈ wsL_law := wT_at 530 (by decide +kernel) (by decide +kernel)
theorem tiX7_readBits : Cond.instanceMethod yX7_readBits ∈ wsL_law := wT_at 528 (by decide +kernel) (by decide +kernel)
theorem tsX7_readBits : Cond.selects RX7 yX7_readBits yX7_readBits ∈ wsL_law := wT_at 529 (by decide +kernel) (by decide +kernel)
theorem tlL_72 : Cond.methodLink RL 72 yX8_readBits ∈ wsL_law := wT_at 1121 (by decide +kernel) (by decide +kernel)
theorem tcX8_readBits : Cond.code yX8_readBits cX8_readBits 2 (some .int) ∈ wsL_law := wT_at 1124 (by decide +kernel) (by decide +kernel)
theorem tiX8_readBits : Cond.instanceMethod yX8_readBits ∈ wsL_law := wT_at 1122 (by decide +kernel) (by decide +kernel)
theorem tsX8_readBits : Cond.selects RX8 yX8_readBits yX8_readBits ∈ wsL_law := wT_at 1123 (by decide +kernel) (by decide +kernel)
theorem tlL_64 : Cond.methodLink RL 64 yX7_angle ∈ wsL_law := wT_at 522 (by decide +kernel) (by decide +kernel)
theorem tcX7_angle : Cond.code yX7_angle cX7_angle 2 (some .float) ∈ wsL_law := wT_at 525 (by decide +kernel) (by decide +kernel)
theorem tiX7_angle : Cond.instanceMethod yX7_angle ∈ wsL_law := wT_at 523 (by decide +kernel) (by decide +kernel)
theorem tsX7_angle : Cond.selects RX7 yX7_angle yX7_angle ∈ wsL_law := wT_at 524 (by decide +kernel) (by decide +kernel)
theorem tlL_68 : Cond.methodLink RL 68 yX8_angle ∈ wsL_law := wT_at 1117 (by decide +kernel) (by decide +kernel)
theorem tcX8_angle : Cond.code yX8_angle cX8_angle 2 (some .float) ∈ wsL_law := wT_at 1120 (by decide +kernel) (by decide +kernel)
theorem tiX8_angle : Cond.instanceMethod yX8_angle ∈ wsL_law := wT_at 1118 (by decide +kernel) (by decide +kernel)
theorem tsX8_angle : Cond.selects RX8 yX8_angle yX8_angle ∈ wsL_law := wT_at 1119 (by decide +kernel) (by decide +kernel)
theorem tlL_60 : Cond.methodLink RL 60 yX7_sightOf ∈ wsL_law := wT_at 509 (by decide +kernel) (by decide +kernel)
theorem tcX7_sightOf : Cond.code yX7_sightOf cX7_sightOf 3 (some .int) ∈ wsL_law := wT_at 512 (by decide +kernel) (by decide +kernel)
theorem tiX7_sightOf : Cond.instanceMethod yX7_sightOf ∈ wsL_law := wT_at 510 (by decide +kernel) (by decide +kernel)
theorem tsX7_sightOf : Cond.selects RX7 yX7_sightOf yX7_sightOf ∈ wsL_law := wT_at 511 (by decide +kernel) (by decide +kernel)
theorem tlL_63 : Cond.methodLink RL 63 yX8_sightOf ∈ wsL_law := wT_at 1113 (by decide +kernel) (by decide +kernel)
theorem tcX8_sightOf : Cond.code yX8_sightOf cX8_sightOf 3 (some .int) ∈ wsL_law := wT_at 1116 (by decide +kernel) (by decide +kernel)
theorem tiX8_sightOf : Cond.instanceMethod yX8_sightOf ∈ wsL_law := wT_at 1114 (by decide +kernel) (by decide +kernel)
theorem tsX8_sightOf : Cond.selects RX8 yX8_sightOf yX8_sightOf ∈ wsL_law := wT_at 1115 (by decide +kernel) (by decide +kernel)
theorem tlL_56 : Cond.methodLink RL 56 yX7_watchOf ∈ wsL_law := wT_at 493 (by decide +kernel) (by decide +kernel)
theorem tcX7_watchOf : Cond.code yX7_watchOf cX7_watchOf 3 (some .int) ∈ wsL_law := wT_at 496 (by decide +kernel) (by decide +kernel)
theorem tiX7_watchOf : Cond.instanceMethod yX7_watchOf ∈ wsL_law := wT_at 494 (by decide +kernel) (by decide +kernel)
theorem tsX7_watchOf : Cond.selects RX7 yX7_watchOf yX7_watchOf ∈ wsL_law := wT_at 495 (by decide +kernel) (by decide +kernel)
theorem tlL_59 : Cond.methodLink RL 59 yX8_watchOf ∈ wsL_law := wT_at 1109 (by decide +kernel) (by decide +kernel)
theorem tcX8_watchOf : Cond.code yX8_watchOf cX8_watchOf 5 (some .int) ∈ wsL_law := wT_at 1112 (by decide +kernel) (by decide +kernel)
theorem tiX8_watchOf : Cond.instanceMethod yX8_watchOf ∈ wsL_law := wT_at 1110 (by decide +kernel) (by decide +kernel)
theorem tsX8_watchOf : Cond.selects RX8 yX8_watchOf yX8_watchOf ∈ wsL_law := wT_at 1111 (by decide +kernel) (by decide +kernel)
theorem tlL_52 : Cond.methodLink RL 52 yX7_sailorOf ∈ wsL_law := wT_at 463 (by decide +kernel) (by decide +kernel)
theorem tcX7_sailorOf : Cond.code yX7_sailorOf cX7_sailorOf 3 (some .int) ∈ wsL_law := wT_at 466 (by decide +kernel) (by decide +kernel)
theorem tiX7_sailorOf : Cond.instanceMethod yX7_sailorOf ∈ wsL_law := wT_at 464 (by decide +kernel) (by decide +kernel)
theorem tsX7_sailorOf : Cond.selects RX7 yX7_sailorOf yX7_sailorOf ∈ wsL_law := wT_at 465 (by decide +kernel) (by decide +kernel)
theorem tlL_55 : Cond.methodLink RL 55 yX8_sailorOf ∈ wsL_law := wT_at 1089 (by decide +kernel) (by decide +kernel)
theorem tcX8_sailorOf : Cond.code yX8_sailorOf cX8_sailorOf 3 (some .int) ∈ wsL_law := wT_at 1092 (by decide +kernel) (by decide +kernel)
theorem tiX8_sailorOf : Cond.instanceMethod yX8_sailorOf ∈ wsL_law := wT_at 1090 (by decide +kernel) (by decide +kernel)
theorem tsX8_sailorOf : Cond.selects RX8 yX8_sailorOf yX8_sailorOf ∈ wsL_law := wT_at 1091 (by decide +kernel) (by decide +kernel)
theorem tlL_47 : Cond.methodLink RL 47 yX7_hour ∈ wsL_law := wT_at 453 (by decide +kernel) (by decide +kernel)
theorem tcX7_hour : Cond.code yX7_hour cX7_hour 1 (some .int) ∈ wsL_law := wT_at 456 (by decide +kernel) (by decide +kernel)
theorem tiX7_hour : Cond.instanceMethod yX7_hour ∈ wsL_law := wT_at 454 (by decide +kernel) (by decide +kernel)
theorem tsX7_hour : Cond.selects RX7 yX7_hour yX7_hour ∈ wsL_law := wT_at 455 (by decide +kernel) (by decide +kernel)
theorem tlL_51 : Cond.methodLink RL 51 yX8_hour ∈ wsL_law := wT_at 1074 (by decide +kernel) (by decide +kernel)
theorem tcX8_hour : Cond.code yX8_hour cX8_hour 1 (some .int) ∈ wsL_law := wT_at 1077 (by decide +kernel) (by decide +kernel)
theorem tiX8_hour : Cond.instanceMethod yX8_hour ∈ wsL_law := wT_at 1075 (by decide +kernel) (by decide +kernel)
theorem tsX8_hour : Cond.selects RX8 yX8_hour yX8_hour ∈ wsL_law := wT_at 1076 (by decide +kernel) (by decide +kernel)
theorem tlL_43 : Cond.methodLink RL 43 yX7_sight ∈ wsL_law := wT_at 447 (by decide +kernel) (by decide +kernel)
theorem tcX7_sight : Cond.code yX7_sight cX7_sight 2 (some .int) ∈ wsL_law := wT_at 450 (by decide +kernel) (by decide +kernel)
theorem tiX7_sight : Cond.instanceMethod yX7_sight ∈ wsL_law := wT_at 448 (by decide +kernel) (by decide +kernel)
theorem tsX7_sight : Cond.selects RX7 yX7_sight yX7_sight ∈ wsL_law := wT_at 449 (by decide +kernel) (by decide +kernel)
theorem tlL_46 : Cond.methodLink RL 46 yX8_sight ∈ wsL_law := wT_at 1035 (by decide +kernel) (by decide +kernel)
theorem tcX8_sight : Cond.code yX8_sight cX8_sight 2 (some .int) ∈ wsL_law := wT_at 1038 (by decide +kernel) (by decide +kernel)
theorem tiX8_sight : Cond.instanceMethod yX8_sight ∈ wsL_law := wT_at 1036 (by decide +kernel) (by decide +kernel)
theorem tsX8_sight : Cond.selects RX8 yX8_sight yX8_sight ∈ wsL_law := wT_at 1037 (by decide +kernel) (by decide +kernel)
theorem tlL_39 : Cond.methodLink RL 39 yX7_error ∈ wsL_law := wT_at 438 (by decide +kernel) (by decide +kernel)
theorem tcX7_error : Cond.code yX7_error cX7_error 3 (some .int) ∈ wsL_law := wT_at 441 (by decide +kernel) (by decide +kernel)
theorem tiX7_error : Cond.instanceMethod yX7_error ∈ wsL_law := wT_at 439 (by decide +kernel) (by decide +kernel)
theorem tsX7_error : Cond.selects RX7 yX7_error yX7_error ∈ wsL_law := wT_at 440 (by decide +kernel) (by decide +kernel)
theorem tlL_42 : Cond.methodLink RL 42 yX8_error ∈ wsL_law := wT_at 1027 (by decide +kernel) (by decide +kernel)
theorem tcX8_error : Cond.code yX8_error cX8_error 2 (some .int) ∈ wsL_law := wT_at 1030 (by decide +kernel) (by decide +kernel)
theorem tiX8_error : Cond.instanceMethod yX8_error ∈ wsL_law := wT_at 1028 (by decide +kernel) (by decide +kernel)
theorem tsX8_error : Cond.selects RX8 yX8_error yX8_error ∈ wsL_law := wT_at 1029 (by decide +kernel) (by decide +kernel)
theorem tlL_35 : Cond.methodLink RL 35 yX7_horizon ∈ wsL_law := wT_at 429 (by decide +kernel) (by decide +kernel)
theorem tcX7_horizon : Cond.code yX7_horizon cX7_horizon 4 (some .int) ∈ wsL_law := wT_at 432 (by decide +kernel) (by decide +kernel)
theorem tiX7_horizon : Cond.instanceMethod yX7_horizon ∈ wsL_law := wT_at 430 (by decide +kernel) (by decide +kernel)
theorem tsX7_horizon : Cond.selects RX7 yX7_horizon yX7_horizon ∈ wsL_law := wT_at 431 (by decide +kernel) (by decide +kernel)
theorem tlL_38 : Cond.methodLink RL 38 yX8_horizon ∈ wsL_law := wT_at 1019 (by decide +kernel) (by decide +kernel)
theorem tcX8_horizon : Cond.code yX8_horizon cX8_horizon 3 (some .int) ∈ wsL_law := wT_at 1022 (by decide +kernel) (by decide +kernel)
theorem tiX8_horizon : Cond.instanceMethod yX8_horizon ∈ wsL_law := wT_at 1020 (by decide +kernel) (by decide +kernel)
theorem tsX8_horizon : Cond.selects RX8 yX8_horizon yX8_horizon ∈ wsL_law := wT_at 1021 (by decide +kernel) (by decide +kernel)
theorem tlL_31 : Cond.methodLink RL 31 yX7_watch ∈ wsL_law := wT_at 420 (by decide +kernel) (by decide +kernel)
theorem tcX7_watch : Cond.code yX7_watch cX7_watch 4 (some .int) ∈ wsL_law := wT_at 423 (by decide +kernel) (by decide +kernel)
theorem tiX7_watch : Cond.instanceMethod yX7_watch ∈ wsL_law := wT_at 421 (by decide +kernel) (by decide +kernel)
theorem tsX7_watch : Cond.selects RX7 yX7_watch yX7_watch ∈ wsL_law := wT_at 422 (by decide +kernel) (by decide +kernel)
theorem tlL_34 : Cond.methodLink RL 34 yX8_watch ∈ wsL_law := wT_at 1008 (by decide +kernel) (by decide +kernel)
theorem tcX8_watch : Cond.code yX8_watch cX8_watch 3 (some .int) ∈ wsL_law := wT_at 1011 (by decide +kernel) (by decide +kernel)
theorem tiX8_watch : Cond.instanceMethod yX8_watch ∈ wsL_law := wT_at 1009 (by decide +kernel) (by decide +kernel)
theorem tsX8_watch : Cond.selects RX8 yX8_watch yX8_watch ∈ wsL_law := wT_at 1010 (by decide +kernel) (by decide +kernel)
theorem tlL_27 : Cond.methodLink RL 27 yX7_rum ∈ wsL_law := wT_at 411 (by decide +kernel) (by decide +kernel)
theorem tcX7_rum : Cond.code yX7_rum cX7_rum 3 (some .int) ∈ wsL_law := wT_at 414 (by decide +kernel) (by decide +kernel)
theorem tiX7_rum : Cond.instanceMethod yX7_rum ∈ wsL_law := wT_at 412 (by decide +kernel) (by decide +kernel)
theorem tsX7_rum : Cond.selects RX7 yX7_rum yX7_rum ∈ wsL_law := wT_at 413 (by decide +kernel) (by decide +kernel)
theorem tlL_30 : Cond.methodLink RL 30 yX8_rum ∈ wsL_law := wT_at 1000 (by decide +kernel) (by decide +kernel)
theorem tcX8_rum : Cond.code yX8_rum cX8_rum 3 (some .int) ∈ wsL_law := wT_at 1003 (by decide +kernel) (by decide +kernel)
theorem tiX8_rum : Cond.instanceMethod yX8_rum ∈ wsL_law := wT_at 1001 (by decide +kernel) (by decide +kernel)
theorem tsX8_rum : Cond.selects RX8 yX8_rum yX8_rum ∈ wsL_law := wT_at 1002 (by decide +kernel) (by decide +kernel)
theorem tlL_22 : Cond.methodLink RL 22 yX7_mood ∈ wsL_law := wT_at 405 (by decide +kernel) (by decide +kernel)
theorem tcX7_mood : Cond.code yX7_mood cX7_mood 4 (some .int) ∈ wsL_law := wT_at 408 (by decide +kernel) (by decide +kernel)
theorem tiX7_mood : Cond.instanceMethod yX7_mood ∈ wsL_law := wT_at 406 (by decide +kernel) (by decide +kernel)
theorem tsX7_mood : Cond.selects RX7 yX7_mood yX7_mood ∈ wsL_law := wT_at 407 (by decide +kernel) (by decide +kernel)
theorem tlL_26 : Cond.methodLink RL 26 yX8_mood ∈ wsL_law := wT_at 988 (by decide +kernel) (by decide +kernel)
theorem tcX8_mood : Cond.code yX8_mood cX8_mood 3 (some .int) ∈ wsL_law := wT_at 991 (by decide +kernel) (by decide +kernel)
theorem tiX8_mood : Cond.instanceMethod yX8_mood ∈ wsL_law := wT_at 989 (by decide +kernel) (by decide +kernel)
theorem tsX8_mood : Cond.selects RX8 yX8_mood yX8_mood ∈ wsL_law := wT_at 990 (by decide +kernel) (by decide +kernel)
theorem tlL_18 : Cond.methodLink RL 18 yX7_shore ∈ wsL_law := wT_at 394 (by decide +kernel) (by decide +kernel)
theorem tcX7_shore : Cond.code yX7_shore cX7_shore 2 (some .int) ∈ wsL_law := wT_at 397 (by decide +kernel) (by decide +kernel)
theorem tiX7_shore : Cond.instanceMethod yX7_shore ∈ wsL_law := wT_at 395 (by decide +kernel) (by decide +kernel)
theorem tsX7_shore : Cond.selects RX7 yX7_shore yX7_shore ∈ wsL_law := wT_at 396 (by decide +kernel) (by decide +kernel)
theorem tlL_21 : Cond.methodLink RL 21 yX8_shore ∈ wsL_law := wT_at 971 (by decide +kernel) (by decide +kernel)
theorem tcX8_shore : Cond.code yX8_shore cX8_shore 2 (some .int) ∈ wsL_law := wT_at 974 (by decide +kernel) (by decide +kernel)
theorem tiX8_shore : Cond.instanceMethod yX8_shore ∈ wsL_law := wT_at 972 (by decide +kernel) (by decide +kernel)
theorem tsX8_shore : Cond.selects RX8 yX8_shore yX8_shore ∈ wsL_law := wT_at 973 (by decide +kernel) (by decide +kernel)
theorem tlL_13 : Cond.methodLink RL 13 yX7_sail ∈ wsL_law := wT_at 272 (by decide +kernel) (by decide +kernel)
theorem tcX7_sail : Cond.code yX7_sail cX7_sail 2 (some .int) ∈ wsL_law := wT_at 275 (by decide +kernel) (by decide +kernel)
theorem tiX7_sail : Cond.instanceMethod yX7_sail ∈ wsL_law := wT_at 273 (by decide +kernel) (by decide +kernel)
theorem tsX7_sail : Cond.selects RX7 yX7_sail yX7_sail ∈ wsL_law := wT_at 274 (by decide +kernel) (by decide +kernel)
theorem tlL_17 : Cond.methodLink RL 17 yX8_sail ∈ wsL_law := wT_at 932 (by decide +kernel) (by decide +kernel)
theorem tcX8_sail : Cond.code yX8_sail cX8_sail 2 (some .int) ∈ wsL_law := wT_at 935 (by decide +kernel) (by decide +kernel)
theorem tiX8_sail : Cond.instanceMethod yX8_sail ∈ wsL_law := wT_at 933 (by decide +kernel) (by decide +kernel)
theorem tsX8_sail : Cond.selects RX8 yX8_sail yX8_sail ∈ wsL_law := wT_at 934 (by decide +kernel) (by decide +kernel)
theorem tdX7_restore : yX7_restore.cls ≠ "java/lang/invoke/MethodHandle" ∧ yX7_restore.cls ≠ "java/lang/invoke/VarHandle" ∧ (parseMethodDescriptor yX7_restore.desc).map (fun d => d.parameters.length) = some 0 := by decide +kernel
theorem tdX8_restore : yX8_restore.cls ≠ "java/lang/invoke/MethodHandle" ∧ yX8_restore.cls ≠ "java/lang/invoke/VarHandle" ∧ (parseMethodDescriptor yX8_restore.desc).map (fun d => d.parameters.length) = some 0 := by decide +kernel
theorem tdX7_save : yX7_save.cls ≠ "java/lang/invoke/MethodHandle" ∧ yX7_save.cls ≠ "java/lang/invoke/VarHandle" ∧ (parseMethodDescriptor yX7_save.desc).map (fun d => d.parameters.length) = some 0 := by decide +kernel
theorem tdX8_save : yX8_save.cls ≠ "java/lang/invoke/MethodHandle" ∧ yX8_save.cls ≠ "java/lang/invoke/VarHandle" ∧ (parseMethodDescriptor yX8_save.desc).map (fun d => d.parameters.length) = some 0 := by decide +kernel
theorem tdX7_undo : yX7_undo.cls ≠ "java/lang/invoke/MethodHandle" ∧ yX7_undo.cls ≠ "java/lang/invoke/VarHandle" ∧ (parseMethodDescriptor yX7_undo.desc).map (fun d => d.parameters.length) = some 0 := by decide +kernel
theorem tdX8_undo : yX8_undo.cls ≠ "java/lang/invoke/MethodHandle" ∧ yX8_undo.cls ≠ "java/lang/invoke/VarHandle" ∧ (parseMethodDescriptor yX8_undo.desc).map (fun d => d.parameters.length) = some 0 := by decide +kernel
theorem tdX7_reason : yX7_reason.cls ≠ "java/lang/invoke/MethodHandle" ∧ yX7_reason.cls ≠ "java/lang/invoke/VarHandle" ∧ (parseMethodDescriptor yX7_reason.desc).map (fun d => d.parameters.length) = some 2 := by decide +kernel
theorem tdX8_reason : yX8_reason.cls ≠ "java/lang/invoke/MethodHandle" ∧ yX8_reason.cls ≠ "java/lang/invoke/VarHandle" ∧ (parseMethodDescriptor yX8_reason.desc).map (fun d => d.parameters.length) = some 2 := by decide +kernel
theorem tdX7_fault : yX7_fault.cls ≠ "java/lang/invoke/MethodHandle" ∧ yX7_fault.cls ≠ "java/lang/invoke/VarHandle" ∧ (parseMethodDescriptor yX7_fault.desc).map (fun d => d.parameters.length) = some 0 := by decide +kernel
theorem tdX8_fault : yX8_fault.cls ≠ "java/lang/invoke/MethodHandle" ∧ yX8_fault.cls ≠ "java/lang/invoke/VarHandle" ∧ (parseMethodDescriptor yX8_fault.desc).map (fun d => d.parameters.length) = some 0 := by decide +kernel
theorem tdX7_read : yX7_read.cls ≠ "java/lang/invoke/MethodHandle" ∧ yX7_read.cls ≠ "java/lang/invoke/VarHandle" ∧ (parseMethodDescriptor yX7_read.desc).map (fun d => d.parameters.length) = some 0 := by decide +kernel
theorem tdX8_read : yX8_read.cls ≠ "java/lang/invoke/MethodHandle" ∧ yX8_read.cls ≠ "java/lang/invoke/VarHandle" ∧ (parseMethodDescriptor yX8_read.desc).map (fun d => d.parameters.length) = some 0 := by decide +kernel
theorem tdX7_append : yX7_append.cls ≠ "java/lang/invoke/MethodHandle" ∧ yX7_append.cls ≠ "java/lang/invoke/VarHandle" ∧ (parseMethodDescriptor yX7_append.desc).map (fun d => d.parameters.length) = some 1 := by decide +kernel
theorem tdX8_append : yX8_append.cls ≠ "java/lang/invoke/MethodHandle" ∧ yX8_append.cls ≠ "java/lang/invoke/VarHandle" ∧ (parseMethodDescriptor yX8_append.desc).map (fun d => d.parameters.length) = some 1 := by decide +kernel
theorem tdX7_written : yX7_written.cls ≠ "java/lang/invoke/MethodHandle" ∧ yX7_written.cls ≠ "java/lang/invoke/VarHandle" ∧ (parseMethodDescriptor yX7_written.desc).map (fun d => d.parameters.length) = some 1 := by decide +kernel
theorem tdX8_written : yX8_written.cls ≠ "java/lang/invoke/MethodHandle" ∧ yX8_written.cls ≠ "java/lang/invoke/VarHandle" ∧ (parseMethodDescriptor yX8_written.desc).map (fun d => d.parameters.length) = some 1 := by decide +kernel
theorem tdX7_writeLog : yX7_writeLog.cls ≠ "java/lang/invoke/MethodHandle" ∧ yX7_writeLog.cls ≠ "java/lang/invoke/VarHandle" ∧ (parseMethodDescriptor yX7_writeLog.desc).map (fun d => d.parameters.length) = some 0 := by decide +kernel
theorem tdX8_writeLog : yX8_writeLog.cls ≠ "java/lang/invoke/MethodHandle" ∧ yX8_writeLog.cls ≠ "java/lang/invoke/VarHandle" ∧ (parseMethodDescriptor yX8_writeLog.desc).map (fun d => d.parameters.length) = some 0 := by decide +kernel
theorem tdX7_write : yX7_write.cls ≠ "java/lang/invoke/MethodHandle" ∧ yX7_write.cls ≠ "java/lang/invoke/VarHandle" ∧ (parseMethodDescriptor yX7_write.desc).map (fun d => d.parameters.length) = some 1 := by decide +kernel
theorem tdX8_write : yX8_write.cls ≠ "java/lang/invoke/MethodHandle" ∧ yX8_write.cls ≠ "java/lang/invoke/VarHandle" ∧ (parseMethodDescriptor yX8_write.desc).map (fun d => d.parameters.length) = some 1 := by decide +kernel
theorem tdX7_account : yX7_account.cls ≠ "java/lang/invoke/MethodHandle" ∧ yX7_account.cls ≠ "java/lang/invoke/VarHandle" ∧ (parseMethodDescriptor yX7_account.desc).map (fun d => d.parameters.length) = some 1 := by decide +kernel
theorem tdX8_account : yX8_account.cls ≠ "java/lang/invoke/MethodHandle" ∧ yX8_account.cls ≠ "java/lang/invoke/VarHandle" ∧ (parseMethodDescriptor yX8_account.desc).map (fun d => d.parameters.length) = some 1 := by decide +kernel
theorem tdX7_meanAngle : yX7_meanAngle.cls ≠ "java/lang/invoke/MethodHandle" ∧ yX7_meanAngle.cls ≠ "java/lang/invoke/VarHandle" ∧ (parseMethodDescriptor yX7_meanAngle.desc).map (fun d => d.parameters.length) = some 0 := by decide +kernel
theorem tdX8_meanAngle : yX8_meanAngle.cls ≠ "java/lang/invoke/MethodHandle" ∧ yX8_meanAngle.cls ≠ "java/lang/invoke/VarHandle" ∧ (parseMethodDescriptor yX8_meanAngle.desc).map (fun d => d.parameters.length) = some 0 := by decide +kernel
theorem tdX7_isCounted : yX7_isCounted.cls ≠ "java/lang/invoke/MethodHandle" ∧ yX7_isCounted.cls ≠ "java/lang/invoke/VarHandle" ∧ (parseMethodDescriptor yX7_isCounted.desc).map (fun d => d.parameters.length) = some 0 := by decide +kernel
theorem tdX8_isCounted : yX8_isCounted.cls ≠ "java/lang/invoke/MethodHandle" ∧ yX8_isCounted.cls ≠ "java/lang/invoke/VarHandle" ∧ (parseMethodDescriptor yX8_isCounted.desc).map (fun d => d.parameters.length) = some 0 := by decide +kernel
theorem tdX7_packed : yX7_packed.cls ≠ "java/lang/invoke/MethodHandle" ∧ yX7_packed.cls ≠ "java/lang/invoke/VarHandle" ∧ (parseMethodDescriptor yX7_packed.desc).map (fun d => d.parameters.length) = some 0 := by decide +kernel
theorem tdX8_packed : yX8_packed.cls ≠ "java/lang/invoke/MethodHandle" ∧ yX8_packed.cls ≠ "java/lang/invoke/VarHandle" ∧ (parseMethodDescriptor yX8_packed.desc).map (fun d => d.parameters.length) = some 0 := by decide +kernel
theorem tdX7_ranked : yX7_ranked.cls ≠ "java/lang/invoke/MethodHandle" ∧ yX7_ranked.cls ≠ "java/lang/invoke/VarHandle" ∧ (parseMethodDescriptor yX7_ranked.desc).map (fun d => d.parameters.length) = some 1 := by decide +kernel
theorem tdX8_ranked : yX8_ranked.cls ≠ "java/lang/invoke/MethodHandle" ∧ yX8_ranked.cls ≠ "java/lang/invoke/VarHandle" ∧ (parseMethodDescriptor yX8_ranked.desc).map (fun d => d.parameters.length) = some 1 := by decide +kernel
theorem tdX7_highest : yX7_highest.cls ≠ "java/lang/invoke/MethodHandle" ∧ yX7_highest.cls ≠ "java/lang/invoke/VarHandle" ∧ (parseMethodDescriptor yX7_highest.desc).map (fun d => d.parameters.length) = some 1 := by decide +kernel
theorem tdX8_highest : yX8_highest.cls ≠ "java/lang/invoke/MethodHandle" ∧ yX8_highest.cls ≠ "java/lang/invoke/VarHandle" ∧ (parseMethodDescriptor yX8_highest.desc).map (fun d => d.parameters.length) = some 1 := by decide +kernel
theorem tdX7_messes : yX7_messes.cls ≠ "java/lang/invoke/MethodHandle" ∧ yX7_messes.cls ≠ "java/lang/invoke/VarHandle" ∧ (parseMethodDescriptor yX7_messes.desc).map (fun d => d.parameters.length) = some 0 := by decide +kernel
theorem tdX8_messes : yX8_messes.cls ≠ "java/lang/invoke/MethodHandle" ∧ yX8_messes.cls ≠ "java/lang/invoke/VarHandle" ∧ (parseMethodDescriptor yX8_messes.desc).map (fun d => d.parameters.length) = some 0 := by decide +kernel
theorem tdX7_sinks : yX7_sinks.cls ≠ "java/lang/invoke/MethodHandle" ∧ yX7_sinks.cls ≠ "java/lang/invoke/VarHandle" ∧ (parseMethodDescriptor yX7_sinks.desc).map (fun d => d.parameters.length) = some 1 := by decide +kernel
theorem tdX8_sinks : yX8_sinks.cls ≠ "java/lang/invoke/MethodHandle" ∧ yX8_sinks.cls ≠ "java/lang/invoke/VarHandle" ∧ (parseMethodDescriptor yX8_sinks.desc).map (fun d => d.parameters.length) = some 1 := by decide +kernel
theorem tdX7_would : yX7_would.cls ≠ "java/lang/invoke/MethodHandle" ∧ yX7_would.cls ≠ "java/lang/invoke/VarHandle" ∧ (parseMethodDescriptor yX7_would.desc).map (fun d => d.parameters.length) = some 2 := by decide +kernel
theorem tdX7_closest : yX7_closest.cls ≠ "java/lang/invoke/MethodHandle" ∧ yX7_closest.cls ≠ "java/lang/invoke/VarHandle" ∧ (parseMethodDescriptor yX7_closest.desc).map (fun d => d.parameters.length) = some 2 := by decide +kernel
theorem tdX8_closest : yX8_closest.cls ≠ "java/lang/invoke/MethodHandle" ∧ yX8_closest.cls ≠ "java/lang/invoke/VarHandle" ∧ (parseMethodDescriptor yX8_closest.desc).map (fun d => d.parameters.length) = some 2 := by decide +kernel
theorem tdX7_unlikeAgain : yX7_unlikeAgain.cls ≠ "java/lang/invoke/MethodHandle" ∧ yX7_unlikeAgain.cls ≠ "java/lang/invoke/VarHandle" ∧ (parseMethodDescriptor yX7_unlikeAgain.desc).map (fun d => d.parameters.length) = some 2 := by decide +kernel
theorem tdX8_unlikeAgain : yX8_unlikeAgain.cls ≠ "java/lang/invoke/MethodHandle" ∧ yX8_unlikeAgain.cls ≠ "java/lang/invoke/VarHandle" ∧ (parseMethodDescriptor yX8_unlikeAgain.desc).map (fun d => d.parameters.length) = some 2 := by decide +kernel
theorem tdX7_unlike : yX7_unlike.cls ≠ "java/lang/invoke/MethodHandle" ∧ yX7_unlike.cls ≠ "java/lang/invoke/VarHandle" ∧ (parseMethodDescriptor yX7_unlike.desc).map (fun d => d.parameters.length) = some 2 := by decide +kernel
theorem tdX7_meet : yX7_meet.cls ≠ "java/lang/invoke/MethodHandle" ∧ yX7_meet.cls ≠ "java/lang/invoke/VarHandle" ∧ (parseMethodDescriptor yX7_meet.desc).map (fun d => d.parameters.length) = some 2 := by decide +kernel
theorem tdX8_meet : yX8_meet.cls ≠ "java/lang/invoke/MethodHandle" ∧ yX8_meet.cls ≠ "java/lang/invoke/VarHandle" ∧ (parseMethodDescriptor yX8_meet.desc).map (fun d => d.parameters.length) = some 2 := by decide +kernel
theorem tdX7_fixAgain : yX7_fixAgain.cls ≠ "java/lang/invoke/MethodHandle" ∧ yX7_fixAgain.cls ≠ "java/lang/invoke/VarHandle" ∧ (parseMethodDescriptor yX7_fixAgain.desc).map (fun d => d.parameters.length) = some 1 := by decide +kernel
theorem tdX8_fixAgain : yX8_fixAgain.cls ≠ "java/lang/invoke/MethodHandle" ∧ yX8_fixAgain.cls ≠ "java/lang/invoke/VarHandle" ∧ (parseMethodDescriptor yX8_fixAgain.desc).map (fun d => d.parameters.length) = some 1 := by decide +kernel
theorem tdX7_fixBits : yX7_fixBits.cls ≠ "java/lang/invoke/MethodHandle" ∧ yX7_fixBits.cls ≠ "java/lang/invoke/VarHandle" ∧ (parseMethodDescriptor yX7_fixBits.desc).map (fun d => d.parameters.length) = some 1 := by decide +kernel
theorem tdX7_readBits : yX7_readBits.cls ≠ "java/lang/invoke/MethodHandle" ∧ yX7_readBits.cls ≠ "java/lang/invoke/VarHandle" ∧ (parseMethodDescriptor yX7_readBits.desc).map (fun d => d.parameters.length) = some 1 := by decide +kernel
theorem tdX8_readBits : yX8_readBits.cls ≠ "java/lang/invoke/MethodHandle" ∧ yX8_readBits.cls ≠ "java/lang/invoke/VarHandle" ∧ (parseMethodDescriptor yX8_readBits.desc).map (fun d => d.parameters.length) = some 1 := by decide +kernel
theorem tdX7_angle : yX7_angle.cls ≠ "java/lang/invoke/MethodHandle" ∧ yX7_angle.cls ≠ "java/lang/invoke/VarHandle" ∧ (parseMethodDescriptor yX7_angle.desc).map (fun d => d.parameters.length) = some 1 := by decide +kernel
theorem tdX8_angle : yX8_angle.cls ≠ "java/lang/invoke/MethodHandle" ∧ yX8_angle.cls ≠ "java/lang/invoke/VarHandle" ∧ (parseMethodDescriptor yX8_angle.desc).map (fun d => d.parameters.length) = some 1 := by decide +kernel
theorem tdX7_sightOf : yX7_sightOf.cls ≠ "java/lang/invoke/MethodHandle" ∧ yX7_sightOf.cls ≠ "java/lang/invoke/VarHandle" ∧ (parseMethodDescriptor yX7_sightOf.desc).map (fun d => d.parameters.length) = some 2 := by decide +kernel
theorem tdX8_sightOf : yX8_sightOf.cls ≠ "java/lang/invoke/MethodHandle" ∧ yX8_sightOf.cls ≠ "java/lang/invoke/VarHandle" ∧ (parseMethodDescriptor yX8_sightOf.desc).map (fun d => d.parameters.length) = some 2 := by decide +kernel
theorem tdX7_watchOf : yX7_watchOf.cls ≠ "java/lang/invoke/MethodHandle" ∧ yX7_watchOf.cls ≠ "java/lang/invoke/VarHandle" ∧ (parseMethodDescriptor yX7_watchOf.desc).map (fun d => d.parameters.length) = some 2 := by decide +kernel
theorem tdX8_watchOf : yX8_watchOf.cls ≠ "java/lang/invoke/MethodHandle" ∧ yX8_watchOf.cls ≠ "java/lang/invoke/VarHandle" ∧ (parseMethodDescriptor yX8_watchOf.desc).map (fun d => d.parameters.length) = some 2 := by decide +kernel
theorem tdX7_sailorOf : yX7_sailorOf.cls ≠ "java/lang/invoke/MethodHandle" ∧ yX7_sailorOf.cls ≠ "java/lang/invoke/VarHandle" ∧ (parseMethodDescriptor yX7_sailorOf.desc).map (fun d => d.parameters.length) = some 2 := by decide +kernel
theorem tdX8_sailorOf : yX8_sailorOf.cls ≠ "java/lang/invoke/MethodHandle" ∧ yX8_sailorOf.cls ≠ "java/lang/invoke/VarHandle" ∧ (parseMethodDescriptor yX8_sailorOf.desc).map (fun d => d.parameters.length) = some 2 := by decide +kernel
theorem tdX7_hour : yX7_hour.cls ≠ "java/lang/invoke/MethodHandle" ∧ yX7_hour.cls ≠ "java/lang/invoke/VarHandle" ∧ (parseMethodDescriptor yX7_hour.desc).map (fun d => d.parameters.length) = some 0 := by decide +kernel
theorem tdX8_hour : yX8_hour.cls ≠ "java/lang/invoke/MethodHandle" ∧ yX8_hour.cls ≠ "java/lang/invoke/VarHandle" ∧ (parseMethodDescriptor yX8_hour.desc).map (fun d => d.parameters.length) = some 0 := by decide +kernel
theorem tdX7_sight : yX7_sight.cls ≠ "java/lang/invoke/MethodHandle" ∧ yX7_sight.cls ≠ "java/lang/invoke/VarHandle" ∧ (parseMethodDescriptor yX7_sight.desc).map (fun d => d.parameters.length) = some 1 := by decide +kernel
theorem tdX8_sight : yX8_sight.cls ≠ "java/lang/invoke/MethodHandle" ∧ yX8_sight.cls ≠ "java/lang/invoke/VarHandle" ∧ (parseMethodDescriptor yX8_sight.desc).map (fun d => d.parameters.length) = some 1 := by decide +kernel
theorem tdX7_error : yX7_error.cls ≠ "java/lang/invoke/MethodHandle" ∧ yX7_error.cls ≠ "java/lang/invoke/VarHandle" ∧ (parseMethodDescriptor yX7_error.desc).map (fun d => d.parameters.length) = some 1 := by decide +kernel
theorem tdX8_error : yX8_error.cls ≠ "java/lang/invoke/MethodHandle" ∧ yX8_error.cls ≠ "java/lang/invoke/VarHandle" ∧ (parseMethodDescriptor yX8_error.desc).map (fun d => d.parameters.length) = some 1 := by decide +kernel
theorem tdX7_horizon : yX7_horizon.cls ≠ "java/lang/invoke/MethodHandle" ∧ yX7_horizon.cls ≠ "java/lang/invoke/VarHandle" ∧ (parseMethodDescriptor yX7_horizon.desc).map (fun d => d.parameters.length) = some 2 := by decide +kernel
theorem tdX8_horizon : yX8_horizon.cls ≠ "java/lang/invoke/MethodHandle" ∧ yX8_horizon.cls ≠ "java/lang/invoke/VarHandle" ∧ (parseMethodDescriptor yX8_horizon.desc).map (fun d => d.parameters.length) = some 2 := by decide +kernel
theorem tdX7_watch : yX7_watch.cls ≠ "java/lang/invoke/MethodHandle" ∧ yX7_watch.cls ≠ "java/lang/invoke/VarHandle" ∧ (parseMethodDescriptor yX7_watch.desc).map (fun d => d.parameters.length) = some 2 := by decide +kernel
theorem tdX8_watch : yX8_watch.cls ≠ "java/lang/invoke/MethodHandle" ∧ yX8_watch.cls ≠ "java/lang/invoke/VarHandle" ∧ (parseMethodDescriptor yX8_watch.desc).map (fun d => d.parameters.length) = some 2 := by decide +kernel
theorem tdX7_rum : yX7_rum.cls ≠ "java/lang/invoke/MethodHandle" ∧ yX7_rum.cls ≠ "java/lang/invoke/VarHandle" ∧ (parseMethodDescriptor yX7_rum.desc).map (fun d => d.parameters.length) = some 2 := by decide +kernel
theorem tdX8_rum : yX8_rum.cls ≠ "java/lang/invoke/MethodHandle" ∧ yX8_rum.cls ≠ "java/lang/invoke/VarHandle" ∧ (parseMethodDescriptor yX8_rum.desc).map (fun d => d.parameters.length) = some 2 := by decide +kernel
theorem tdX7_mood : yX7_mood.cls ≠ "java/lang/invoke/MethodHandle" ∧ yX7_mood.cls ≠ "java/lang/invoke/VarHandle" ∧ (parseMethodDescriptor yX7_mood.desc).map (fun d => d.parameters.length) = some 2 := by decide +kernel
theorem tdX8_mood : yX8_mood.cls ≠ "java/lang/invoke/MethodHandle" ∧ yX8_mood.cls ≠ "java/lang/invoke/VarHandle" ∧ (parseMethodDescriptor yX8_mood.desc).map (fun d => d.parameters.length) = some 2 := by decide +kernel
theorem tdX7_shore : yX7_shore.cls ≠ "java/lang/invoke/MethodHandle" ∧ yX7_shore.cls ≠ "java/lang/invoke/VarHandle" ∧ (parseMethodDescriptor yX7_shore.desc).map (fun d => d.parameters.length) = some 1 := by decide +kernel
theorem tdX8_shore : yX8_shore.cls ≠ "java/lang/invoke/MethodHandle" ∧ yX8_shore.cls ≠ "java/lang/invoke/VarHandle" ∧ (parseMethodDescriptor yX8_shore.desc).map (fun d => d.parameters.length) = some 1 := by decide +kernel
theorem tdX7_sail : yX7_sail.cls ≠ "java/lang/invoke/MethodHandle" ∧ yX7_sail.cls ≠ "java/lang/invoke/VarHandle" ∧ (parseMethodDescriptor yX7_sail.desc).map (fun d => d.parameters.length) = some 1 := by decide +kernel
theorem tdX8_sail : yX8_sail.cls ≠ "java/lang/invoke/MethodHandle" ∧ yX8_sail.cls ≠ "java/lang/invoke/VarHandle" ∧ (parseMethodDescriptor yX8_sail.desc).map (fun d => d.parameters.length) = some 1 := by decide +kernel
