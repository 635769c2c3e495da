theorem zz_9x_law : True := trivial
