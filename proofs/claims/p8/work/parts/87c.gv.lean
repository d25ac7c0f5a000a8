
set_option maxRecDepth 100000 in
theorem gv_f_X7_feed_19 : GoodIn lw_tbl2 (wsV RL 19 RX7 yX7_feed v_f_X7_feed) := goodIn_app (goodIn_u _ [(5, 20), (5, 21), (5, 22), (2, 17)] rfl (by decide +kernel)) gl_f_X7_feed
set_option maxRecDepth 100000 in
theorem gv_f_X8_feed_23 : GoodIn lw_tbl2 (wsV RL 23 RX8 yX8_feed v_f_X8_feed) := goodIn_app (goodIn_u _ [(20, 46), (20, 47), (21, 0), (2, 25)] rfl (by decide +kernel)) gl_f_X8_feed
set_option maxRecDepth 100000 in
theorem gv_f_X7_end_24 : GoodIn lw_tbl2 (wsV RL 24 RX7 yX7_end v_f_X7_end) := goodIn_app (goodIn_u _ [(5, 31), (5, 32), (5, 33), (2, 17)] rfl (by decide +kernel)) gl_f_X7_end
set_option maxRecDepth 100000 in
theorem gv_f_X8_end_28 : GoodIn lw_tbl2 (wsV RL 28 RX8 yX8_end v_f_X8_end) := goodIn_app (goodIn_u _ [(21, 5), (21, 6), (21, 7), (2, 25)] rfl (by decide +kernel)) gl_f_X8_end
set_option maxRecDepth 100000 in
theorem gv_f_X7_fault_29 : GoodIn lw_tbl2 (wsV RL 29 RX7 yX7_fault v_f_X7_fault) := goodIn_app (goodIn_u _ [(5, 39), (5, 40), (5, 41), (2, 17)] rfl (by decide +kernel)) gl_f_X7_fault
set_option maxRecDepth 100000 in
theorem gv_f_X8_fault_33 : GoodIn lw_tbl2 (wsV RL 33 RX8 yX8_fault v_f_X8_fault) := goodIn_app (goodIn_u _ [(21, 12), (21, 13), (21, 14), (2, 25)] rfl (by decide +kernel)) gl_f_X8_fault
set_option maxRecDepth 100000 in
theorem gv_f_X7_text_34 : GoodIn lw_tbl2 (wsV RL 34 RX7 yX7_text v_f_X7_text) := goodIn_app (goodIn_u _ [(7, 46), (7, 47), (8, 0), (2, 17)] rfl (by decide +kernel)) gl_f_X7_text
set_option maxRecDepth 100000 in
theorem gv_f_X8_text_37 : GoodIn lw_tbl2 (wsV RL 37 RX8 yX8_text v_f_X8_text) := goodIn_app (goodIn_u _ [(22, 42), (22, 43), (22, 44), (2, 25)] rfl (by decide +kernel)) gl_f_X8_text
set_option maxRecDepth 100000 in
theorem gv_f_X7_rule_38 : GoodIn lw_tbl2 (wsV RL 38 RX7 yX7_rule v_f_X7_rule) := goodIn_app (goodIn_u _ [(9, 6), (9, 7), (9, 8), (2, 17)] rfl (by decide +kernel)) gl_f_X7_rule
set_option maxRecDepth 100000 in
theorem gv_f_X8_rule_41 : GoodIn lw_tbl2 (wsV RL 41 RX8 yX8_rule v_f_X8_rule) := goodIn_app (goodIn_u _ [(26, 30), (26, 31), (26, 32), (2, 25)] rfl (by decide +kernel)) gl_f_X8_rule
set_option maxRecDepth 100000 in
theorem gv_f_X8_site_47 : GoodIn lw_tbl2 (wsV RL 47 RX8 yX8_site v_f_X8_site) := goodIn_app (goodIn_u _ [(26, 35), (26, 36), (26, 37), (2, 25)] rfl (by decide +kernel)) gl_f_X8_site
set_option maxRecDepth 100000 in
theorem gv_f_X7_value_48 : GoodIn lw_tbl2 (wsV RL 48 RX7 yX7_value v_f_X7_value) := goodIn_app (goodIn_u _ [(9, 15), (9, 16), (9, 17), (2, 17)] rfl (by decide +kernel)) gl_f_X7_value
set_option maxRecDepth 100000 in
theorem gv_f_X8_value_52 : GoodIn lw_tbl2 (wsV RL 52 RX8 yX8_value v_f_X8_value) := goodIn_app (goodIn_u _ [(26, 40), (26, 41), (26, 42), (2, 25)] rfl (by decide +kernel)) gl_f_X8_value
set_option maxRecDepth 100000 in
theorem gv_f_X7_tells_53 : GoodIn lw_tbl2 (wsV RL 53 RX7 yX7_tells v_f_X7_tells) := goodIn_app (goodIn_u _ [(9, 26), (9, 27), (9, 28), (2, 17)] rfl (by decide +kernel)) gl_f_X7_tells
set_option maxRecDepth 100000 in
theorem gv_f_X8_tells_57 : GoodIn lw_tbl2 (wsV RL 57 RX8 yX8_tells v_f_X8_tells) := goodIn_app (goodIn_u _ [(26, 47), (27, 0), (27, 1), (2, 25)] rfl (by decide +kernel)) gl_f_X8_tells
set_option maxRecDepth 100000 in
theorem gv_f_X7_all_58 : GoodIn lw_tbl2 (wsV RL 58 RX7 yX7_all v_f_X7_all) := goodIn_app (goodIn_u _ [(9, 31), (9, 32), (9, 33), (2, 17)] rfl (by decide +kernel)) gl_f_X7_all
set_option maxRecDepth 100000 in
theorem gv_f_X8_all_62 : GoodIn lw_tbl2 (wsV RL 62 RX8 yX8_all v_f_X8_all) := goodIn_app (goodIn_u _ [(27, 3), (27, 4), (27, 5), (2, 25)] rfl (by decide +kernel)) gl_f_X8_all
set_option maxRecDepth 100000 in
theorem gv_f_X7_move_63 : GoodIn lw_tbl2 (wsV RL 63 RX7 yX7_move v_f_X7_move) := goodIn_app (goodIn_u _ [(9, 39), (9, 40), (9, 41), (2, 17)] rfl (by decide +kernel)) gl_f_X7_move
set_option maxRecDepth 100000 in
theorem gv_f_X8_move_67 : GoodIn lw_tbl2 (wsV RL 67 RX8 yX8_move v_f_X8_move) := goodIn_app (goodIn_u _ [(23, 10), (23, 11), (23, 12), (2, 25)] rfl (by decide +kernel)) gl_f_X8_move
set_option maxRecDepth 100000 in
theorem gv_f_X7_freeze_68 : GoodIn lw_tbl2 (wsV RL 68 RX7 yX7_freeze v_f_X7_freeze) := goodIn_app (goodIn_u _ [(12, 28), (12, 29), (12, 30), (2, 17)] rfl (by decide +kernel)) gl_f_X7_freeze
set_option maxRecDepth 100000 in
theorem gv_f_X8_freeze_71 : GoodIn lw_tbl2 (wsV RL 71 RX8 yX8_freeze v_f_X8_freeze) := goodIn_app (goodIn_u _ [(25, 45), (25, 46), (25, 47), (2, 25)] rfl (by decide +kernel)) gl_f_X8_freeze
set_option maxRecDepth 100000 in
theorem gv_f_X7_sync_72 : GoodIn lw_tbl2 (wsV RL 72 RX7 yX7_sync v_f_X7_sync) := goodIn_app (goodIn_u _ [(12, 33), (12, 34), (12, 35), (2, 17)] rfl (by decide +kernel)) gl_f_X7_sync
set_option maxRecDepth 100000 in
theorem gv_f_X8_sync_76 : GoodIn lw_tbl2 (wsV RL 76 RX8 yX8_sync v_f_X8_sync) := goodIn_app (goodIn_u _ [(25, 25), (25, 26), (25, 27), (2, 25)] rfl (by decide +kernel)) gl_f_X8_sync
set_option maxRecDepth 100000 in
theorem gv_f_X7_bound_77 : GoodIn lw_tbl2 (wsV RL 77 RX7 yX7_bound v_f_X7_bound) := goodIn_app (goodIn_u _ [(12, 37), (12, 38), (12, 39), (2, 17)] rfl (by decide +kernel)) gl_f_X7_bound
set_option maxRecDepth 100000 in
theorem gv_f_X8_bound_80 : GoodIn lw_tbl2 (wsV RL 80 RX8 yX8_bound v_f_X8_bound) := goodIn_app (goodIn_u _ [(25, 29), (25, 30), (25, 31), (2, 25)] rfl (by decide +kernel)) gl_f_X8_bound
set_option maxRecDepth 100000 in
theorem gv_f_X7_law_81 : GoodIn lw_tbl2 (wsV RL 81 RX7 yX7_law v_f_X7_law) := goodIn_app (goodIn_u _ [(12, 41), (12, 42), (12, 43), (2, 17)] rfl (by decide +kernel)) gl_f_X7_law
set_option maxRecDepth 100000 in
theorem gv_f_X8_law_84 : GoodIn lw_tbl2 (wsV RL 84 RX8 yX8_law v_f_X8_law) := goodIn_app (goodIn_u _ [(25, 33), (25, 34), (25, 35), (2, 25)] rfl (by decide +kernel)) gl_f_X8_law
set_option maxRecDepth 100000 in
theorem gv_f_X7_add_85 : GoodIn lw_tbl2 (wsV RL 85 RX7 yX7_add v_f_X7_add) := goodIn_app (goodIn_u _ [(12, 45), (12, 46), (12, 47), (2, 17)] rfl (by decide +kernel)) gl_f_X7_add
set_option maxRecDepth 100000 in
theorem gv_f_X8_add_88 : GoodIn lw_tbl2 (wsV RL 88 RX8 yX8_add v_f_X8_add) := goodIn_app (goodIn_u _ [(25, 37), (25, 38), (25, 39), (2, 25)] rfl (by decide +kernel)) gl_f_X8_add
set_option maxRecDepth 100000 in
theorem gv_f_X7_goal_89 : GoodIn lw_tbl2 (wsV RL 89 RX7 yX7_goal v_f_X7_goal) := goodIn_app (goodIn_u _ [(13, 1), (13, 2), (13, 3), (2, 17)] rfl (by decide +kernel)) gl_f_X7_goal
set_option maxRecDepth 100000 in
theorem gv_f_X8_goal_92 : GoodIn lw_tbl2 (wsV RL 92 RX8 yX8_goal v_f_X8_goal) := goodIn_app (goodIn_u _ [(25, 41), (25, 42), (25, 43), (2, 25)] rfl (by decide +kernel)) gl_f_X8_goal
set_option maxRecDepth 100000 in
theorem gv_f_X7_count_93 : GoodIn lw_tbl2 (wsV RL 93 RX7 yX7_count v_f_X7_count) := goodIn_app (goodIn_u _ [(13, 5), (13, 6), (13, 7), (2, 17)] rfl (by decide +kernel)) gl_f_X7_count
set_option maxRecDepth 100000 in
theorem gv_f_X8_count_96 : GoodIn lw_tbl2 (wsV RL 96 RX8 yX8_count v_f_X8_count) := goodIn_app (goodIn_u _ [(27, 8), (27, 9), (27, 10), (2, 25)] rfl (by decide +kernel)) gl_f_X8_count
set_option maxRecDepth 100000 in
theorem gv_f_X7_years_99 : GoodIn lw_tbl2 (wsV RL 99 RX7 yX7_years v_f_X7_years) := goodIn_app (goodIn_u _ [(13, 11), (13, 12), (13, 13), (2, 17)] rfl (by decide +kernel)) gl_f_X7_years
set_option maxRecDepth 100000 in
theorem gv_f_X8_years_103 : GoodIn lw_tbl2 (wsV RL 103 RX8 yX8_years v_f_X8_years) := goodIn_app (goodIn_u _ [(26, 1), (26, 2), (26, 3), (2, 25)] rfl (by decide +kernel)) gl_f_X8_years
set_option maxRecDepth 100000 in
theorem gv_f_X7_status_104 : GoodIn lw_tbl2 (wsV RL 104 RX7 yX7_status v_f_X7_status) := goodIn_app (goodIn_u _ [(13, 27), (13, 28), (13, 29), (2, 17)] rfl (by decide +kernel)) gl_f_X7_status
set_option maxRecDepth 100000 in
theorem gv_f_X8_status_107 : GoodIn lw_tbl2 (wsV RL 107 RX8 yX8_status v_f_X8_status) := goodIn_app (goodIn_u _ [(26, 17), (26, 18), (26, 19), (2, 25)] rfl (by decide +kernel)) gl_f_X8_status
set_option maxRecDepth 100000 in
theorem gv_f_X7_undo_108 : GoodIn lw_tbl2 (wsV RL 108 RX7 yX7_undo v_f_X7_undo) := goodIn_app (goodIn_u _ [(13, 31), (13, 32), (13, 33), (2, 17)] rfl (by decide +kernel)) gl_f_X7_undo
set_option maxRecDepth 100000 in
theorem gv_f_X8_undo_111 : GoodIn lw_tbl2 (wsV RL 111 RX8 yX8_undo v_f_X8_undo) := goodIn_app (goodIn_u _ [(26, 22), (26, 23), (26, 24), (2, 25)] rfl (by decide +kernel)) gl_f_X8_undo
set_option maxRecDepth 100000 in
theorem gv_f_X7_log_112 : GoodIn lw_tbl2 (wsV RL 112 RX7 yX7_log v_f_X7_log) := goodIn_app (goodIn_u _ [(13, 39), (13, 40), (13, 41), (2, 17)] rfl (by decide +kernel)) gl_f_X7_log
set_option maxRecDepth 100000 in
theorem gv_f_X8_log_115 : GoodIn lw_tbl2 (wsV RL 115 RX8 yX8_log v_f_X8_log) := goodIn_app (goodIn_u _ [(26, 26), (26, 27), (26, 28), (2, 25)] rfl (by decide +kernel)) gl_f_X8_log
set_option maxRecDepth 100000 in
theorem gv_f_X7_limit_116 : GoodIn lw_tbl2 (wsV RL 116 RX7 yX7_limit v_f_X7_limit) := goodIn_app (goodIn_u _ [(14, 4), (14, 5), (14, 6), (2, 17)] rfl (by decide +kernel)) gl_f_X7_limit
set_option maxRecDepth 100000 in
theorem gv_f_X8_limit_119 : GoodIn lw_tbl2 (wsV RL 119 RX8 yX8_limit v_f_X8_limit) := goodIn_app (goodIn_u _ [(27, 12), (27, 13), (27, 14), (2, 25)] rfl (by decide +kernel)) gl_f_X8_limit
set_option maxRecDepth 100000 in
theorem gv_f_X7_would_120 : GoodIn lw_tbl2 (wsV RL 120 RX7 yX7_would v_f_X7_would) := goodIn_app (goodIn_u _ [(14, 18), (14, 19), (14, 20), (2, 17)] rfl (by decide +kernel)) gl_f_X7_would
set_option maxRecDepth 100000 in
theorem gv_f_X8_would_124 : GoodIn lw_tbl2 (wsV RL 124 RX8 yX8_would v_f_X8_would) := goodIn_app (goodIn_u _ [(27, 28), (27, 29), (27, 30), (2, 25)] rfl (by decide +kernel)) gl_f_X8_would
set_option maxRecDepth 100000 in
theorem gv_f_X7_asked_125 : GoodIn lw_tbl2 (wsV RL 125 RX7 yX7_asked v_f_X7_asked) := goodIn_app (goodIn_u _ [(14, 30), (14, 31), (14, 32), (2, 17)] rfl (by decide +kernel)) gl_f_X7_asked
set_option maxRecDepth 100000 in
theorem gv_f_X8_asked_128 : GoodIn lw_tbl2 (wsV RL 128 RX8 yX8_asked v_f_X8_asked) := goodIn_app (goodIn_u _ [(27, 32), (27, 33), (27, 34), (2, 25)] rfl (by decide +kernel)) gl_f_X8_asked
set_option maxRecDepth 100000 in
theorem gv_f_X7_walk_129 : GoodIn lw_tbl2 (wsV RL 129 RX7 yX7_walk v_f_X7_walk) := goodIn_app (goodIn_u _ [(14, 34), (14, 35), (14, 36), (2, 17)] rfl (by decide +kernel)) gl_f_X7_walk
set_option maxRecDepth 100000 in
theorem gv_f_X8_walk_132 : GoodIn lw_tbl2 (wsV RL 132 RX8 yX8_walk v_f_X8_walk) := goodIn_app (goodIn_u _ [(27, 37), (27, 38), (27, 39), (2, 25)] rfl (by decide +kernel)) gl_f_X8_walk
set_option maxRecDepth 100000 in
theorem gv_f_X7_partner_133 : GoodIn lw_tbl2 (wsV RL 133 RX7 yX7_partner v_f_X7_partner) := goodIn_app (goodIn_u _ [(14, 38), (14, 39), (14, 40), (2, 17)] rfl (by decide +kernel)) gl_f_X7_partner
set_option maxRecDepth 100000 in
theorem gv_f_X8_partner_136 : GoodIn lw_tbl2 (wsV RL 136 RX8 yX8_partner v_f_X8_partner) := goodIn_app (goodIn_u _ [(27, 42), (27, 43), (27, 44), (2, 25)] rfl (by decide +kernel)) gl_f_X8_partner
set_option maxRecDepth 100000 in
theorem gv_f_X7_race_137 : GoodIn lw_tbl2 (wsV RL 137 RX7 yX7_race v_f_X7_race) := goodIn_app (goodIn_u _ [(14, 45), (14, 46), (14, 47), (2, 17)] rfl (by decide +kernel)) gl_f_X7_race
set_option maxRecDepth 100000 in
theorem gv_f_X8_race_140 : GoodIn lw_tbl2 (wsV RL 140 RX8 yX8_race v_f_X8_race) := goodIn_app (goodIn_u _ [(27, 46), (27, 47), (28, 0), (2, 25)] rfl (by decide +kernel)) gl_f_X8_race
set_option maxRecDepth 100000 in
theorem gv_f_X7_needs_141 : GoodIn lw_tbl2 (wsV RL 141 RX7 yX7_needs v_f_X7_needs) := goodIn_app (goodIn_u _ [(15, 1), (15, 2), (15, 3), (2, 17)] rfl (by decide +kernel)) gl_f_X7_needs
set_option maxRecDepth 100000 in
theorem gv_f_X8_needs_145 : GoodIn lw_tbl2 (wsV RL 145 RX8 yX8_needs v_f_X8_needs) := goodIn_app (goodIn_u _ [(28, 5), (28, 6), (28, 7), (2, 25)] rfl (by decide +kernel)) gl_f_X8_needs
set_option maxRecDepth 100000 in
theorem gv_f_X7_span_146 : GoodIn lw_tbl2 (wsV RL 146 RX7 yX7_span v_f_X7_span) := goodIn_app (goodIn_u _ [(15, 13), (15, 14), (15, 15), (2, 17)] rfl (by decide +kernel)) gl_f_X7_span
set_option maxRecDepth 100000 in
theorem gv_f_X8_span_150 : GoodIn lw_tbl2 (wsV RL 150 RX8 yX8_span v_f_X8_span) := goodIn_app (goodIn_u _ [(28, 9), (28, 10), (28, 11), (2, 25)] rfl (by decide +kernel)) gl_f_X8_span
set_option maxRecDepth 100000 in
theorem gv_f_X7_goes_151 : GoodIn lw_tbl2 (wsV RL 151 RX7 yX7_goes v_f_X7_goes) := goodIn_app (goodIn_u _ [(15, 18), (15, 19), (15, 20), (2, 17)] rfl (by decide +kernel)) gl_f_X7_goes
set_option maxRecDepth 100000 in
theorem gv_f_X8_goes_154 : GoodIn lw_tbl2 (wsV RL 154 RX8 yX8_goes v_f_X8_goes) := goodIn_app (goodIn_u _ [(28, 13), (28, 14), (28, 15), (2, 25)] rfl (by decide +kernel)) gl_f_X8_goes
set_option maxRecDepth 100000 in
theorem gv_f_X7_fair_155 : GoodIn lw_tbl2 (wsV RL 155 RX7 yX7_fair v_f_X7_fair) := goodIn_app (goodIn_u _ [(15, 27), (15, 28), (15, 29), (2, 17)] rfl (by decide +kernel)) gl_f_X7_fair
set_option maxRecDepth 100000 in
theorem gv_f_X8_fair_158 : GoodIn lw_tbl2 (wsV RL 158 RX8 yX8_fair v_f_X8_fair) := goodIn_app (goodIn_u _ [(28, 17), (28, 18), (28, 19), (2, 25)] rfl (by decide +kernel)) gl_f_X8_fair
set_option maxRecDepth 100000 in
theorem gv_h_spell_159 : GoodIn lw_tbl2 (wsV RL 159 RX7 yX7_spell v_h_spell) := goodIn_app (goodIn_u _ [(15, 35), (15, 36), (15, 37), (2, 17)] rfl (by decide +kernel)) gl_h_spell
set_option maxRecDepth 100000 in
theorem gv_f_X8_spell_162 : GoodIn lw_tbl2 (wsV RL 162 RX8 yX8_spell v_f_X8_spell) := goodIn_app (goodIn_u _ [(28, 30), (28, 31), (28, 32), (2, 25)] rfl (by decide +kernel)) gl_f_X8_spell
set_option maxRecDepth 100000 in
theorem gv_f_X7_step_163 : GoodIn lw_tbl2 (wsV RL 163 RX7 yX7_step v_f_X7_step) := goodIn_app (goodIn_u _ [(17, 44), (17, 45), (17, 46), (2, 17)] rfl (by decide +kernel)) gl_f_X7_step
set_option maxRecDepth 100000 in
theorem gv_f_X8_step__166 : GoodIn lw_tbl2 (wsV RL 166 RX8 yX8_step_ v_f_X8_step_) := goodIn_app (goodIn_u _ [(28, 40), (28, 41), (28, 42), (2, 25)] rfl (by decide +kernel)) gl_f_X8_step_
set_option maxRecDepth 100000 in
theorem gv_f_X7_run_167 : GoodIn lw_tbl2 (wsV RL 167 RX7 yX7_run v_f_X7_run) := goodIn_app (goodIn_u _ [(18, 13), (18, 14), (18, 15), (2, 17)] rfl (by decide +kernel)) gl_f_X7_run
set_option maxRecDepth 100000 in
theorem gv_f_X8_run_170 : GoodIn lw_tbl2 (wsV RL 170 RX8 yX8_run v_f_X8_run) := goodIn_app (goodIn_u _ [(28, 47), (29, 0), (29, 1), (2, 25)] rfl (by decide +kernel)) gl_f_X8_run
set_option maxRecDepth 100000 in
theorem gv_f_X7_perform_171 : GoodIn lw_tbl2 (wsV RL 171 RX7 yX7_perform v_f_X7_perform) := goodIn_app (goodIn_u _ [(18, 27), (18, 28), (18, 29), (2, 17)] rfl (by decide +kernel)) gl_f_X7_perform
set_option maxRecDepth 100000 in
theorem gv_f_X8_perform_174 : GoodIn lw_tbl2 (wsV RL 174 RX8 yX8_perform v_f_X8_perform) := goodIn_app (goodIn_u _ [(29, 9), (29, 10), (29, 11), (2, 25)] rfl (by decide +kernel)) gl_f_X8_perform
set_option maxRecDepth 100000 in
theorem gv_f_X7_most_175 : GoodIn lw_tbl2 (wsV RL 175 RX7 yX7_most v_f_X7_most) := goodIn_app (goodIn_u _ [(18, 31), (18, 32), (18, 33), (2, 17)] rfl (by decide +kernel)) gl_f_X7_most
set_option maxRecDepth 100000 in
theorem gv_f_X8_most_178 : GoodIn lw_tbl2 (wsV RL 178 RX8 yX8_most v_f_X8_most) := goodIn_app (goodIn_u _ [(29, 13), (29, 14), (29, 15), (2, 25)] rfl (by decide +kernel)) gl_f_X8_most
set_option maxRecDepth 100000 in
theorem gv_f_X7_image_179 : GoodIn lw_tbl2 (wsV RL 179 RX7 yX7_image v_f_X7_image) := goodIn_app (goodIn_u _ [(19, 0), (19, 1), (19, 2), (2, 17)] rfl (by decide +kernel)) gl_f_X7_image
set_option maxRecDepth 100000 in
theorem gv_f_X8_image_182 : GoodIn lw_tbl2 (wsV RL 182 RX8 yX8_image v_f_X8_image) := goodIn_app (goodIn_u _ [(29, 27), (29, 28), (29, 29), (2, 25)] rfl (by decide +kernel)) gl_f_X8_image
set_option maxRecDepth 100000 in
theorem gv_f_X7_back_183 : GoodIn lw_tbl2 (wsV RL 183 RX7 yX7_back v_f_X7_back) := goodIn_app (goodIn_u _ [(19, 9), (19, 10), (19, 11), (2, 17)] rfl (by decide +kernel)) gl_f_X7_back
set_option maxRecDepth 100000 in
theorem gv_f_X8_back_186 : GoodIn lw_tbl2 (wsV RL 186 RX8 yX8_back v_f_X8_back) := goodIn_app (goodIn_u _ [(29, 31), (29, 32), (29, 33), (2, 25)] rfl (by decide +kernel)) gl_f_X8_back
set_option maxRecDepth 100000 in
theorem gv_f_X7_held_187 : GoodIn lw_tbl2 (wsV RL 187 RX7 yX7_held v_f_X7_held) := goodIn_app (goodIn_u _ [(19, 13), (19, 14), (19, 15), (2, 17)] rfl (by decide +kernel)) gl_f_X7_held
set_option maxRecDepth 100000 in
theorem gv_f_X8_held_190 : GoodIn lw_tbl2 (wsV RL 190 RX8 yX8_held v_f_X8_held) := goodIn_app (goodIn_u _ [(29, 35), (29, 36), (29, 37), (2, 25)] rfl (by decide +kernel)) gl_f_X8_held
set_option maxRecDepth 100000 in
theorem nsG_in : ∀ w ∈ nsG, w ∈ lw_tbl := by decide +kernel
set_option maxRecDepth 100000 in
theorem nsB_in : ∀ w ∈ nsB, w ∈ lw_tbl := by decide +kernel
set_option maxRecDepth 100000 in
theorem gl_t1 : GoodIn lw_tbl2 v_t1 := goodIn_ca (goodIn_r (big := lw_tbl2) (.code yX7_site cX7_site 3 (some .int) :: [.fieldLink RX7 35 "HushWatch" "now" "LHushWatch$State;", .classLink RX7 123 nsX, .initialized nsX, .methodLink RX7 120 yX5_hasSite, .instanceMethod yX5_hasSite, .selects RX5 yX5_hasSite yX5_hasSite, .initialized RX5]) [1184, 314, 1185, 133, 843, 634, 635, 119] (by decide +kernel) (by decide +kernel)) (goodIn_app glw_X7 (goodIn_app gl_f_X5_hasSite (fun _ h => absurd h List.not_mem_nil)))
theorem gl_t_site : GoodIn lw_tbl2 v_t_site := goodIn_app gl_t1 (goodIn_sub (fun w h => List.mem_append_right _ (nsG_in w h)) nsG_good)
set_option maxRecDepth 100000 in
theorem gs_m_site_42 : GoodIn lw_tbl2 (va_wsS RL 42 yL_site v_m_site) := goodIn_app (goodIn_r _ [1177, 1178, 114] (by decide +kernel) (by decide +kernel)) (goodIn_ca (goodIn_r (big := lw_tbl2) (Cond.codeWith yL_site cL_site 5 (some .int) [(0, 10, 13, 13)] :: [.methodLink RL 7 yX7_site, .instanceMethod yX7_site, .selects RX7 yX7_site yX7_site, .initialized RX7, .classLink RL 13 nsX]) [1179, 1181, 1182, 1183, 115, 1180] (by decide +kernel) (by decide +kernel)) (goodIn_app gl_t_site (fun _ h => absurd h List.not_mem_nil)))
set_option maxRecDepth 100000 in
theorem gs_n_site_42 : GoodIn lw_tbl2 (va_wsS RL 42 yL_site v_n_site) := goodIn_app (goodIn_r _ [1177, 1178, 114] (by decide +kernel) (by decide +kernel)) (goodIn_ca (goodIn_r (big := lw_tbl2) (Cond.codeWith yL_site cL_site 5 (some .int) [(0, 10, 13, 13)] :: [.methodLink RL 7 yX7_site, .instanceMethod yX7_site, .selects RX7 yX7_site yX7_site, .initialized RX7]) [1179, 1181, 1182, 1183, 115] (by decide +kernel) (by decide +kernel)) (goodIn_app gl_f_X7_site (fun _ h => absurd h List.not_mem_nil)))
