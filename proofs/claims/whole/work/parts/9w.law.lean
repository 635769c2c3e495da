theorem zz_9w_law : True := trivial
